/-! ===== a formula, token by token ===== -/
def opK (k : Nat) : Nat := if k = 8 then 2 else if k = 9 then 3 else if k = 10 then 4 else 5
def isO (k : Nat) : Prop := k = 8 ∨ k = 9 ∨ k = 10 ∨ k = 15
theorem opK_in {k : Nat} : 2 ≤ opK k ∧ opK k ≤ 5 := by unfold opK; repeat' split
                                                       all_goals decide
def opsE (l : List Nat) : Ex := l.map (fun o => (o, nI 0))
/-- w: a unit is wanted; d: parentheses that are open; l: what waits; e: what is told so far -/
def yd (Y : Tk) : Nat → Bool → Nat → List Nat → Ex → Ps → Ex × Ps
  | 0, _, _, _, e, s => (e, s)
  | n + 1, w, d, l, e, s => if ¬ s.2.1.1 = 0 then (e, s) else bif w then
      (if Y.1 s.1 = 6 then (if d = 6 then (e, fl Y 2 s) else yd Y n true (d + 1) (0 :: l) e (go Y s))
       else if Y.1 s.1 = 2 then yd Y n false d l (e ++ [(0, nI (Y.2.2.1 s.1))]) (go Y s)
       else if 36 ≤ Y.1 s.1 then yd Y n false d l (e ++ [(1, nI (Y.1 s.1 - 36))]) (go Y s)
       else (e, fl Y 1 s))
    else
      (if Y.1 s.1 = 7 ∧ 0 < d then yd Y n false (d - 1) (l.dropWhile nzB).tail (e ++ opsE (l.takeWhile nzB)) (go Y s)
       else if Y.1 s.1 = 8 ∨ Y.1 s.1 = 9 ∨ Y.1 s.1 = 10 ∨ Y.1 s.1 = 15 then yd Y n true d (opK (Y.1 s.1) :: l.dropWhile (ppB (decide (4 ≤ opK (Y.1 s.1))))) (e ++ opsE (l.takeWhile (ppB (decide (4 ≤ opK (Y.1 s.1)))))) (go Y s)
       else if 0 < d then (e, fl Y 1 s) else (e ++ opsE (l.takeWhile nzB), s))
def xp (Y : Tk) (s : Ps) : Ex × Ps := yd Y (401 - s.1) true 0 [] [] s
theorem yd_f {Y : Tk} {n d : Nat} {w : Bool} {l : List Nat} {e : Ex} {s : Ps} (h : ¬ s.2.1.1 = 0) : yd Y n w d l e s = (e, s) := by
  cases n with
  | zero => rfl
  | succ n => exact if_pos h
theorem xp_f {Y : Tk} {s : Ps} (h : ¬ s.2.1.1 = 0) : xp Y s = ([], s) := yd_f h
/-- zeros, others -/
def z0 : List Nat → Nat
  | [] => 0
  | x :: r => (if x = 0 then 1 else 0) + z0 r
def z1 : List Nat → Nat
  | [] => 0
  | x :: r => (if x = 0 then 0 else 1) + z1 r
/-- at most one that binds over one that doesn't -/
def ajO : List Nat → Prop
  | [] => True
  | [x] => x ≤ 5
  | x :: y :: r => x ≤ 5 ∧ (x = 0 ∨ y = 0 ∨ (4 ≤ x ∧ y < 4)) ∧ ajO (y :: r)
theorem ajO_t {x : Nat} {r : List Nat} (h : ajO (x :: r)) : ajO r := by
  cases r with
  | nil => trivial
  | cons y r => exact h.2.2
theorem ajO_5 {x : Nat} {r : List Nat} (h : ajO (x :: r)) : x ≤ 5 := by
  cases r with
  | nil => exact h
  | cons y r => exact h.1
theorem z_len : ∀ l : List Nat, z0 l + z1 l = l.length := by
  intro l
  induction l with
  | nil => rfl
  | cons x r ih =>
    rw [z0, z1, List.length_cons]
    by_cases e : x = 0
    · rw [if_pos e, if_pos e]; omega
    · rw [if_neg e, if_neg e]; omega
theorem aj_len : ∀ l : List Nat, ajO l → l.length ≤ 3 * z0 l + (match l with | [] => 0 | x :: _ => if x = 0 then 0 else if 4 ≤ x then 2 else 1) := by
  intro l
  induction l with
  | nil => intro _; exact Nat.le_refl _
  | cons x r ih =>
    intro h
    have h1 := ih (ajO_t h)
    rw [List.length_cons, z0]
    cases r with
    | nil =>
      show 0 + 1 ≤ 3 * ((if x = 0 then 1 else 0) + 0) + (if x = 0 then 0 else if 4 ≤ x then 2 else 1)
      by_cases e : x = 0
      · rw [if_pos e, if_pos e]; omega
      · rw [if_neg e, if_neg e]; split <;> omega
    | cons y r =>
      have h2 := h.2.1
      show (y :: r).length + 1 ≤ 3 * ((if x = 0 then 1 else 0) + z0 (y :: r)) + (if x = 0 then 0 else if 4 ≤ x then 2 else 1)
      have h1 : (y :: r).length ≤ 3 * z0 (y :: r) + (if y = 0 then 0 else if 4 ≤ y then 2 else 1) := h1
      by_cases e : x = 0
      · rw [if_pos e, if_pos e]
        have : (if y = 0 then 0 else if 4 ≤ y then 2 else 1) ≤ 2 := by repeat' split
                                                                       all_goals decide
        omega
      · rw [if_neg e, if_neg e]
        by_cases ey : y = 0
        · rw [if_pos ey] at h1; split <;> omega
        · rw [if_neg ey, if_neg (by omega)] at h1
          rw [if_pos (by omega)]; omega
theorem aj_20 {l : List Nat} (h : ajO l) (hd : z0 l ≤ 6) : l.length ≤ 20 := by
  have h1 := aj_len l h
  have : (match l with | [] => 0 | x :: _ => if x = 0 then 0 else if 4 ≤ x then 2 else 1) ≤ 2 := by
    cases l with
    | nil => decide
    | cons x r =>
      show (if x = 0 then 0 else if 4 ≤ x then 2 else 1) ≤ 2
      repeat' split
      all_goals decide
  omega
/-- what is dropped has no zeros -/
theorem dw_n (P : Nat → Bool) (hP : P 0 = false) : ∀ l : List Nat, ajO l → ajO (l.dropWhile P) ∧ z0 (l.dropWhile P) = z0 l ∧ z1 (l.dropWhile P) + (l.takeWhile P).length = z1 l ∧ (∀ x ∈ l.takeWhile P, 1 ≤ x ∧ x ≤ 5) := by
  intro l
  induction l with
  | nil => intro _; exact ⟨trivial, rfl, rfl, fun x hx => by simp at hx⟩
  | cons x r ih =>
    intro h
    cases e : P x with
    | false =>
      rw [List.dropWhile_cons_of_neg (by rw [e]; decide), List.takeWhile_cons_of_neg (by rw [e]; decide)]
      exact ⟨h, rfl, rfl, fun x hx => by simp at hx⟩
    | true =>
      rw [List.dropWhile_cons_of_pos e, List.takeWhile_cons_of_pos e]
      obtain ⟨h1, h2, h3, h4⟩ := ih (ajO_t h)
      have h5 := ajO_5 h
      have hx : ¬ x = 0 := fun z => by subst z; rw [hP] at e; cases e
      refine ⟨h1, by rw [h2, z0, if_neg hx]; omega, by rw [List.length_cons, z1, if_neg hx]; omega, fun y hy => ?_⟩
      rcases List.mem_cons.mp hy with rfl | hy
      · omega
      · exact h4 y hy
theorem dw_h (P : Nat → Bool) : ∀ l : List Nat, ∀ x r, l.dropWhile P = x :: r → P x = false := by
  intro l
  induction l with
  | nil => intro x r h; cases h
  | cons y l ih =>
    intro x r h
    cases e : P y with
    | false =>
      rw [List.dropWhile_cons_of_neg (by rw [e]; decide)] at h
      cases h
      exact e
    | true =>
      rw [List.dropWhile_cons_of_pos e] at h
      exact ih x r h
theorem nz0 : nzB 0 = false := rfl
theorem pp0 {st : Bool} : ppB st 0 = false := rfl
/-- one more waits -/
theorem aj_op {o : Nat} {l : List Nat} (ho : 2 ≤ o ∧ o ≤ 5) (h : ajO l) : ajO (o :: l.dropWhile (ppB (decide (4 ≤ o)))) := by
  have h1 := (dw_n (ppB (decide (4 ≤ o))) pp0 l h).1
  cases e : l.dropWhile (ppB (decide (4 ≤ o))) with
  | nil => exact ho.2
  | cons x r =>
    rw [e] at h1
    have h2 := dw_h _ l x r e
    refine ⟨ho.2, ?_, h1⟩
    by_cases ex : x = 0
    · exact Or.inr (Or.inl ex)
    · refine Or.inr (Or.inr ?_)
      unfold ppB at h2
      simp [ex] at h2
      omega
theorem dw_t {l : List Nat} (h : ajO l) (hz : 0 < z0 l) : ajO (l.dropWhile nzB).tail ∧ z0 (l.dropWhile nzB).tail = z0 l - 1 ∧ z1 (l.dropWhile nzB).tail + (l.takeWhile nzB).length = z1 l := by
  obtain ⟨h1, h2, h3, _⟩ := dw_n nzB nz0 l h
  cases e : l.dropWhile nzB with
  | nil => rw [e] at h2; exact absurd h2 (by show ¬ 0 = z0 l; omega)
  | cons x r =>
    have hx := dw_h _ l x r e
    have hx : x = 0 := by unfold nzB at hx; simpa using hx
    subst hx
    rw [e] at h1 h2 h3
    refine ⟨ajO_t h1, ?_, ?_⟩
    · rw [z0, if_pos rfl] at h2; show z0 r = _; omega
    · rw [z1, if_pos rfl] at h3; show z1 r + _ = _; omega
theorem dw_e {l : List Nat} (h : ajO l) (hz : z0 l = 0) : l.dropWhile nzB = [] ∧ (l.takeWhile nzB).length = z1 l := by
  obtain ⟨h1, h2, h3, _⟩ := dw_n nzB nz0 l h
  cases e : l.dropWhile nzB with
  | nil => rw [e] at h3; exact ⟨rfl, by rw [← h3]; show _ = 0 + _; omega⟩
  | cons x r =>
    have hx := dw_h _ l x r e
    have hx : x = 0 := by unfold nzB at hx; simpa using hx
    subst hx
    rw [e, z0, if_pos rfl] at h2
    omega
/-- well formed from d on, up to d' -/
def ew : Ex → Nat → Nat → Prop
  | [], d, d' => d = d'
  | (o, y) :: t, d, d' => if o = 0 then d < 30 ∧ ew t (d + 1) d' else if o = 1 then d < 30 ∧ (∃ j : Nat, j < 7 ∧ y = nI j) ∧ ew t (d + 1) d' else o ≤ 5 ∧ 2 ≤ d ∧ ew t (d - 1) d'
theorem ew_wf : ∀ (e : Ex) (d : Nat), ew e d 1 → ex_wf e d := by
  intro e
  induction e with
  | nil => intro d h; exact h
  | cons w t ih =>
    obtain ⟨o, y⟩ := w
    intro d h
    rw [ew] at h
    rw [ex_wf]
    split
    · rename_i ho; rw [if_pos ho] at h; exact ⟨h.1, ih _ h.2⟩
    · rename_i ho; rw [if_neg ho] at h
      split
      · rename_i ho1; rw [if_pos ho1] at h; exact ⟨h.1, h.2.1, ih _ h.2.2⟩
      · rename_i ho1; rw [if_neg ho1] at h; exact ⟨h.1, h.2.1, ih _ h.2.2⟩
theorem ew_app : ∀ (e f : Ex) (a b c : Nat), ew e a b → ew f b c → ew (e ++ f) a c := by
  intro e
  induction e with
  | nil => intro f a b c h h1; cases h; exact h1
  | cons w t ih =>
    obtain ⟨o, y⟩ := w
    intro f a b c h h1
    rw [ew] at h
    show ew ((o, y) :: (t ++ f)) a c
    rw [ew]
    split
    · rename_i ho; rw [if_pos ho] at h; exact ⟨h.1, ih _ _ _ _ h.2 h1⟩
    · rename_i ho; rw [if_neg ho] at h
      split
      · rename_i ho1; rw [if_pos ho1] at h; exact ⟨h.1, h.2.1, ih _ _ _ _ h.2.2 h1⟩
      · rename_i ho1; rw [if_neg ho1] at h; exact ⟨h.1, h.2.1, ih _ _ _ _ h.2.2 h1⟩
theorem ew_ops : ∀ (l : List Nat) (d : Nat), (∀ x ∈ l, 2 ≤ x ∧ x ≤ 5) → ew (opsE l) (d + l.length + 1) (d + 1) := by
  intro l
  induction l with
  | nil => intro d _; exact rfl
  | cons x r ih =>
    intro d h
    have hx := h x (List.mem_cons_self ..)
    show ew ((x, nI 0) :: opsE r) (d + (r.length + 1) + 1) (d + 1)
    rw [ew, if_neg (by omega), if_neg (by omega)]
    exact ⟨hx.2, by omega, by rw [show d + (r.length + 1) + 1 - 1 = d + r.length + 1 by omega]; exact ih d (fun y hy => h y (List.mem_cons_of_mem _ hy))⟩
/-- what waits are no ones -/
def no1 (l : List Nat) : Prop := ∀ x ∈ l, ¬ x = 1
theorem no1_d {P : Nat → Bool} {l : List Nat} (h : no1 l) : no1 (l.dropWhile P) ∧ no1 (l.dropWhile P).tail ∧ no1 (l.takeWhile P) := ⟨fun x hx => h x ((List.dropWhile_suffix P).mem hx), fun x hx => h x ((List.dropWhile_suffix P).mem (List.mem_of_mem_tail hx)), fun x hx => h x ((List.takeWhile_prefix P).mem hx)⟩
def usS (e : Ex) : Bool := e.any (fun p => p.1 == 1 && p.2 == nI 6)
theorem opsE_len {l : List Nat} : (opsE l).length = l.length := by unfold opsE; simp
theorem opsE_us {l : List Nat} (h : no1 l) : usS (opsE l) = false := by
  unfold usS opsE
  rw [List.any_map, List.any_eq_false]
  intro x hx
  have := h x hx
  simp [this]
theorem us_app {a b : Ex} : usS (a ++ b) = (usS a || usS b) := by unfold usS; exact List.any_append
/-- all that is so while a formula is read -/
def YI9 (n : Nat) (w : Bool) (d : Nat) (l : List Nat) (e : Ex) (s : Ps) : Prop := ajO l ∧ no1 l ∧ z0 l = d ∧ d ≤ 6 ∧ ew e 0 (z1 l + bif w then 0 else 1) ∧ n + s.1 = 401 ∧ s.1 ≤ 400
theorem YI9.len {n d : Nat} {w : Bool} {l : List Nat} {e : Ex} {s : Ps} (h : YI9 n w d l e s) : l.length ≤ 20 ∧ z1 l ≤ 20 := by
  have h1 := aj_20 h.1 (by have := h.2.2.1; have := h.2.2.2.1; omega)
  have := z_len l
  omega

