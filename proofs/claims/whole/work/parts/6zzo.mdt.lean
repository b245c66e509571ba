/-! ===== the reference's side holds the laws that a text tells ===== -/
theorem lw_i2_cr {lo c c2 bb : Nat} {k k' : Mk} (ha : ∀ j, 40 ≤ j → j ≤ 44 → ∀ i, i < bb → k'.2.1 j i = k.2.1 j i) (hc : ∀ i, i < c → k'.2.1 46 i = k.2.1 46 i ∧ k'.2.1 47 i = k.2.1 47 i) (hcc : c ≤ c2) : ∀ (w : Lw) (b : Nat), b + w.length ≤ bb → lw_i2 lo c k b w → lw_i2 lo c2 k' b w := by
  intro w
  induction w with
  | nil => intro b _ _; trivial
  | cons z t ih =>
    obtain ⟨z1, e⟩ := z
    intro b hl h
    have hL : ((z1, e) :: t).length = t.length + 1 := rfl
    have hr : ∀ j, 40 ≤ j → j ≤ 44 → k'.2.1 j b = k.2.1 j b := fun j h4 h5 => ha j h4 h5 b (by omega)
    cases z1 with
    | none =>
      obtain ⟨h1, ⟨p, hp, h2, h3, h4, h5⟩, h6, h7⟩ := h
      refine ⟨by rw [hr 40 (by decide) (by decide)]; exact h1, ⟨p, hp, by rw [hr 43 (by decide) (by decide)]; exact h2, by rw [hr 44 (by decide) (by decide)]; exact h3, ex_in_c _ _ (fun i _ hi => hc i (by omega)) h4, by omega⟩, h6, ih (b + 1) (by omega) h7⟩
    | some w =>
      obtain ⟨h1, ⟨p, hp, h2, h3, h4, h5, h6, h7, h8, h9⟩, g1, g2, g3, g4⟩ := h
      refine ⟨by rw [hr 40 (by decide) (by decide)]; exact h1, ⟨p, hp, by rw [hr 41 (by decide) (by decide)]; exact h2, by rw [hr 42 (by decide) (by decide)]; exact h3, by rw [hr 43 (by decide) (by decide)]; exact h4, by rw [hr 44 (by decide) (by decide)]; exact h5, ex_in_c _ _ (fun i _ hi => hc i (by omega)) h6, ex_in_c _ _ (fun i _ hi => hc i (by omega)) h7, ex_in_c _ _ (fun i _ hi => hc i (by omega)) h8, by omega⟩, g1, g2, g3, ih (b + 1) (by omega) g4⟩
/-- a law of a side: b, cn bound its branches and codes -/
def mwB (sd : Nat) (k : Mk) (b cn i : Nat) (w : Lw) : Prop := (w = [] ∧ k.2.1 37 (3 * sd + i) = nI 0 ∧ k.2.1 38 (3 * sd + i) = nI 0) ∨ ∃ b' : Nat, k.2.1 37 (3 * sd + i) = nI b' ∧ k.2.1 38 (3 * sd + i) = nI (b' + w.length) ∧ 130 * sd ≤ b' ∧ b' + w.length ≤ b ∧ lw_i2 (420 * sd) cn k b' w
def MWl (sd : Nat) (k : Mk) (W : Nat → Lw) (t b cn : Nat) : Prop := k.1 12 = nI 0 ∧ k.1 39 = nI b ∧ k.1 45 = nI cn ∧ 130 * sd ≤ b ∧ 420 * sd ≤ cn ∧ cn ≤ 420 * sd + t ∧ 4 * b ≤ 520 * sd + t ∧ ∀ i, i < 3 → mwB sd k b cn i (W i)
theorem MWl.cg {sd t t' b cn : Nat} {k k' : Mk} {W : Nat → Lw} (h : MWl sd k W t b cn) (h0 : k'.1 12 = k.1 12) (h1 : k'.1 39 = k.1 39) (h2 : k'.1 45 = k.1 45) (h3 : ∀ n, 37 ≤ n → n ≤ 47 → k'.2.1 n = k.2.1 n) (ht : t ≤ t') : MWl sd k' W t' b cn := by
  obtain ⟨a1, a2, a3, a4, a5, a6, a7, a8⟩ := h
  refine ⟨by rw [h0]; exact a1, by rw [h1]; exact a2, by rw [h2]; exact a3, a4, a5, by omega, by omega, fun i hi => ?_⟩
  have e7 := h3 37 (by decide) (by decide)
  have e8 := h3 38 (by decide) (by decide)
  rcases a8 i hi with ⟨c1, c2, c3⟩ | ⟨b', c1, c2, c3, c4, c5⟩
  · exact Or.inl ⟨c1, by rw [e7]; exact c2, by rw [e8]; exact c3⟩
  · exact Or.inr ⟨b', by rw [e7]; exact c1, by rw [e8]; exact c2, c3, c4, lw_i2_congr (fun n x y => h3 n (by omega) y) _ _ c5⟩
theorem MWl.law {sd a t t' b cn c' : Nat} {k k' : Mk} {W : Nat → Lw} {w : Lw} (h : MWl sd k W t b cn) (hf : KTl sd a b cn k k') (f1 : lw_i2 cn c' k' b w) (f2 : k'.1 39 = nI (b + w.length)) (f3 : k'.1 45 = nI c') (f4 : c' ≤ 420 * sd + t') (f5 : cn ≤ c') (f6 : 4 * (b + w.length) ≤ 520 * sd + t') (f7 : k'.1 12 = nI 0) (f8 : k'.2.1 37 (3 * sd + a) = nI b) (f9 : k'.2.1 38 (3 * sd + a) = nI (b + w.length)) : MWl sd k' (va_up W a w) t' (b + w.length) c' := by
  obtain ⟨a1, a2, a3, a4, a5, a6, a7, a8⟩ := h
  refine ⟨f7, f2, f3, by omega, by omega, f4, f6, fun i hi => ?_⟩
  by_cases e : i = a
  · subst e
    rw [show va_up W i w i = w from if_pos rfl]
    exact Or.inr ⟨b, f8, f9, a4, Nat.le_refl _, lw_i2_w _ _ a5 f1⟩
  · rw [vu_ot e]
    have h9 := hf.2.2.2.2.1 (3 * sd + i) (by omega)
    rcases a8 i hi with ⟨c1, c2, c3⟩ | ⟨b', c1, c2, c3, c4, c5⟩
    · exact Or.inl ⟨c1, by rw [h9.1]; exact c2, by rw [h9.2]; exact c3⟩
    · exact Or.inr ⟨b', by rw [h9.1]; exact c1, by rw [h9.2]; exact c2, c3, by omega, lw_i2_cr (bb := b) (fun j x y i hi => hf.2.2.1 j x y i (Or.inl hi)) (fun i hi => hf.2.2.2.1 i (Or.inl hi)) f5 _ _ c4 c5⟩
