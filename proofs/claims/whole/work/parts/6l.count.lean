/-! ===== the race: what it counts (pure) ===== -/
section PF
variable {T : Sd} {LW : LWt} {N t m a b : Nat}
theorem PF_9 : PF T LW N t m 96 b = 0 := by
  cases m with
  | zero => exact if_neg (fun z => absurd z.1 (by decide))
  | succ m =>
    show pO T LW _ _ _ 96 b _ = _
    unfold pO
    exact if_pos rfl
theorem PF_h (ha : a < 96) (hh : hm T a = true) : PF T LW N t m a b = 6 ^ m := by
  cases m with
  | zero => exact if_pos ⟨ha, hh⟩
  | succ m =>
    show pO T LW _ _ _ a b _ = _
    unfold pO
    rw [if_neg (by omega), if_pos hh]
theorem PF_0 (hh : hm T a = false) : PF T LW N t 0 a b = 0 := if_neg (fun z => by rw [hh] at z; exact absurd z.2 (by decide))
theorem PF_b (ha : a < 96) (hh : hm T a = false) (hb : b < 96) (hhb : hm T b = true) : PF T LW N t m a b = 0 := by
  cases m with
  | zero => exact PF_0 hh
  | succ m =>
    show pO T LW _ _ _ a b _ = _
    unfold pO
    rw [if_neg (by omega), if_neg (by rw [hh]; decide), if_pos ⟨hb, hhb⟩]
theorem PF_m (ha : a < 96) (hh : hm T a = false) (hb : b = 96 ∨ hm T b = false) (hi : (N - 1 - m) % 2 = 0) : PF T LW N t (m + 1) a b = exN (ext true (fun c => vC T LW (fun m9 => PF T LW N t m m9 b) a c (nI (t + (N - 1 - m) * T.1 5))) (cnB T a) (T.1 3 + 1)) := by
  show pO T LW _ _ _ a b _ = _
  rw [decide_eq_true hi]
  unfold pO
  rw [if_neg (by omega), if_neg (by rw [hh]; decide), if_neg (fun z => by rcases hb with h | h; omega; rw [h] at z; exact absurd z.2 (by decide)), if_neg (fun z => absurd z.1 (by decide))]
  rfl
theorem PF_l (ha : a < 96) (hh : hm T a = false) (hi : ¬ (N - 1 - m) % 2 = 0) : PF T LW N t (m + 1) a 96 = 6 * PF T LW N t m a 96 := by
  show pO T LW _ _ _ a 96 _ = _
  rw [decide_eq_false hi]
  unfold pO
  rw [if_neg (by omega), if_neg (by rw [hh]; decide), if_neg (fun z => absurd z.1 (by decide)), if_pos ⟨rfl, rfl⟩]
theorem PF_y (ha : a < 96) (hh : hm T a = false) (hb : b < 96) (hhb : hm T b = false) (hi : ¬ (N - 1 - m) % 2 = 0) : PF T LW N t (m + 1) a b = exN (ext false (fun c => vC T LW (fun m9 => PF T LW N t m a m9) b c (nI (t + (N - 1 - m) * T.1 5))) (cnB T b) (T.1 3 + 1)) := by
  show pO T LW _ _ _ a b _ = _
  rw [decide_eq_false hi]
  unfold pO
  rw [if_neg (by omega), if_neg (by rw [hh]; decide), if_neg (fun z => by rw [hhb] at z; exact absurd z.2 (by decide)), if_neg (fun z => by omega)]
  rfl
theorem sm_6 {s f : Nat → Nat} : ∀ n, sm (fun o => s o * (6 * f o)) n = 6 * sm (fun o => s o * f o) n := by
  intro n
  induction n with
  | zero => rfl
  | succ n ih =>
    show sm (fun o => s o * (6 * f o)) n + s n * (6 * f n) = 6 * (sm (fun o => s o * f o) n + s n * f n)
    rw [ih, Nat.mul_left_comm]
    omega
theorem pB_6 {P : Nat → Nat → Nat} {im : Bool} {c : Nat} {x : Int32} : pB T LW (fun a b => 6 * P a b) im a b c x = 6 * pB T LW P im a b c x := by
  unfold pB
  cases im with
  | true =>
    show (if _ then _ else _) = 6 * (if _ then _ else _)
    split
    · rfl
    · exact sm_6 _
  | false =>
    show (if _ then _ else _) = 6 * (if _ then _ else _)
    split
    · rfl
    · exact sm_6 _
theorem ext_6 {im : Bool} {f : Nat → Nat} {cn : Nat → Bool} : ∀ n, ext im (fun a => 6 * f a) cn n = (ext im f cn n).map (6 * ·) := by
  intro n
  induction n with
  | zero => rfl
  | succ n ih =>
    cases e : ext im f cn n with
    | none =>
      rw [e] at ih
      rw [ext_none e, ext_none ih]
      cases cn n <;> rfl
    | some p =>
      rw [e] at ih
      rw [ext_more e, ext_more ih]
      have h1 : decide (6 * p < 6 * f n) = decide (p < f n) := decide_eq_decide.mpr (by omega)
      have h2 : decide (6 * f n < 6 * p) = decide (f n < p) := decide_eq_decide.mpr (by omega)
      rw [h1, h2]
      cases (cn n && (bif im then decide (p < f n) else decide (f n < p))) <;> rfl
theorem exN_6 {o : Option Nat} : exN (o.map (6 * ·)) = 6 * exN o := by cases o <;> rfl
theorem pO_6 {P : Nat → Nat → Nat} {im : Bool} {hv : Nat} {x : Int32} : pO T LW (fun a b => 6 * P a b) im (6 * hv) a b x = 6 * pO T LW P im hv a b x := by
  unfold pO
  by_cases h1 : a = 96
  · rw [if_pos h1, if_pos h1]
  · rw [if_neg h1, if_neg h1]
    by_cases h2 : hm T a = true
    · rw [if_pos h2, if_pos h2]
    · rw [if_neg h2, if_neg h2]
      by_cases h3 : b < 96 ∧ hm T b = true
      · rw [if_pos h3, if_pos h3]
      · rw [if_neg h3, if_neg h3]
        by_cases h4 : im = false ∧ b = 96
        · rw [if_pos h4, if_pos h4]
        · rw [if_neg h4, if_neg h4, show (fun c => pB T LW (fun a b => 6 * P a b) im a b c x) = fun c => 6 * pB T LW P im a b c x from funext fun c => pB_6, ext_6, exN_6]
theorem ext_z {im : Bool} {f : Nat → Nat} {cn : Nat → Bool} (h : ∀ i, f i = 0) {n : Nat} : exN (ext im f cn n) = 0 := by
  cases e : ext im f cn n with
  | none => rfl
  | some p =>
    obtain ⟨i, _, h2⟩ := ext_in _ _ e
    show p = 0
    rw [h2, h i]
theorem sm_z {f : Nat → Nat} (h : ∀ i, f i = 0) : ∀ n, sm f n = 0 := by
  intro n
  induction n with
  | zero => rfl
  | succ n ih => show sm f n + f n = 0; rw [ih, h]
theorem sm_eq {f f' : Nat → Nat} : ∀ n, (∀ i, i < n → f i = f' i) → sm f n = sm f' n := by
  intro n
  induction n with
  | zero => intro _; rfl
  | succ n ih =>
    intro h
    show sm f n + f n = sm f' n + f' n
    rw [ih (fun i hi => h i (by omega)), h n (by omega)]
theorem ext_eq {im : Bool} {f f' : Nat → Nat} {cn : Nat → Bool} : ∀ n, (∀ i, i < n → f i = f' i) → ext im f cn n = ext im f' cn n := by
  intro n
  induction n with
  | zero => intro _; rfl
  | succ n ih =>
    intro h
    rw [ext, ext, ih (fun i hi => h i (by omega)), h n (by omega)]
theorem pO_cg {P P' : Nat → Nat → Nat} {im : Bool} {hv : Nat} {x : Int32} (hG : GS T) (h : ∀ a b, lone T a → P a b = P' a b) (la : lone T a) : pO T LW P im hv a b x = pO T LW P' im hv a b x := by
  unfold pO
  by_cases h1 : a = 96
  · rw [if_pos h1, if_pos h1]
  · rw [if_neg h1, if_neg h1]
    have lo := la.resolve_left h1
    by_cases h2 : hm T a = true
    · rw [if_pos h2, if_pos h2]
    · rw [if_neg h2, if_neg h2]
      by_cases h3 : b < 96 ∧ hm T b = true
      · rw [if_pos h3, if_pos h3]
      · rw [if_neg h3, if_neg h3]
        by_cases h4 : im = false ∧ b = 96
        · rw [if_pos h4, if_pos h4, h _ _ la]
        · rw [if_neg h4, if_neg h4]
          refine congrArg exN (ext_eq _ (fun c hc => ?_))
          unfold pB
          cases im with
          | true =>
            show (if _ then _ else _) = (if _ then _ else _)
            by_cases e : c = T.1 3
            · rw [if_pos e, if_pos e, h _ _ (tw_lone hG lo (Or.inl rfl))]
            · rw [if_neg e, if_neg e]
              exact sm_eq _ (fun o ho => by show _ * _ = _ * _; rw [h _ _ (tw_lone hG lo (Or.inr ⟨c, o, by omega, ho, rfl⟩))])
          | false =>
            show (if _ then _ else _) = (if _ then _ else _)
            by_cases e : c = T.1 3
            · rw [if_pos e, if_pos e, h _ _ la]
            · rw [if_neg e, if_neg e]
              exact sm_eq _ (fun o ho => by show _ * _ = _ * _; rw [h _ _ la])
theorem PF_6 {k : Nat} (hG : GS T) : ∀ m a b, lone T a → m ≤ 2 * k + 1 → PF T LW (2 * (k + 1)) t (m + 1) a b = 6 * PF T LW (2 * k + 1) t m a b := by
  intro m
  induction m with
  | zero =>
    intro a b la _
    show pO T LW _ _ _ a b _ = 6 * (if a < 96 ∧ hm T a = true then 1 else 0)
    rw [decide_eq_false (show ¬ (2 * (k + 1) - 1 - 0) % 2 = 0 by omega)]
    unfold pO
    by_cases h1 : a = 96
    · rw [if_pos h1, if_neg (by omega)]
    · rw [if_neg h1]
      by_cases h2 : hm T a = true
      · rw [if_pos h2]
        rw [if_pos ⟨la.resolve_left h1 |>.1, h2⟩]
      · rw [if_neg h2, if_neg (show ¬ (a < 96 ∧ hm T a = true) from fun z => h2 z.2)]
        have h0 : ∀ b, PF T LW (2 * (k + 1)) t 0 a b = 0 := fun b => if_neg (fun z => h2 z.2)
        by_cases h3 : b < 96 ∧ hm T b = true
        · rw [if_pos h3]
        · rw [if_neg h3]
          by_cases h4 : b = 96
          · rw [if_pos ⟨rfl, h4⟩, h0]
          · rw [if_neg (fun z => h4 z.2)]
            refine ext_z (fun c => ?_)
            show (if _ then _ else _) = 0
            split
            · rw [h0]
            · exact sm_z (fun o => by show _ * PF T LW (2 * (k + 1)) t 0 a _ = 0; rw [h0, Nat.mul_zero]) _
  | succ m ih =>
    intro a b la hm9
    show pO T LW (PF T LW (2 * (k + 1)) t (m + 1)) _ _ a b _ = 6 * pO T LW (PF T LW (2 * k + 1) t m) _ _ a b _
    rw [pO_cg (P' := fun a b => 6 * PF T LW (2 * k + 1) t m a b) hG (fun a b la => ih a b la (by omega)) la, show 2 * (k + 1) - 1 - (m + 1) = 2 * k + 1 - 1 - m by omega, show 6 ^ (m + 1 + 1) = 6 * 6 ^ (m + 1) from by rw [Nat.pow_succ, Nat.mul_comm]]
    exact pO_6
theorem fr_6 {x m : Nat} {b : Bool} : fr (6 * x) (6 * m) b = fr x m b := by
  unfold fr
  rw [Nat.gcd_mul_left]
  cases b with
  | true => exact Nat.mul_div_mul_left _ _ (by decide)
  | false => exact Nat.mul_div_mul_left _ _ (by decide)
end PF
