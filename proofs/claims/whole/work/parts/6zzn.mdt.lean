/-! ===== the reference's side holds what a text tells ===== -/
theorem gd_l1 {α : Type} {l : List α} {x d : α} {i : Nat} (h : i < l.length) : (l ++ [x]).getD i d = l.getD i d := by
  rw [List.getD_eq_getElem?_getD, List.getD_eq_getElem?_getD, List.getElem?_append_left h]
theorem gd_l2 {α : Type} {l : List α} {x d : α} : (l ++ [x]).getD l.length d = x := by
  rw [List.getD_eq_getElem?_getD, List.getElem?_append_right (Nat.le_refl _), Nat.sub_self]
  rfl
/-- numbers, spots -/
def MA (sd : Nat) (k : Mk) (D : Dt) : Prop := k.2.1 25 sd = nI (D.2.2.1 2) ∧ k.2.1 34 sd = nI (D.2.2.1 4) ∧ k.2.1 35 sd = nI (D.2.2.1 5) ∧ k.2.1 36 sd = nI (D.2.2.1 6) ∧ (∀ i, i < 3 → k.2.1 32 (3 * sd + i) = nI (D.2.2.2.1 i)) ∧ (∀ i, i < 3 → k.2.1 33 (3 * sd + i) = nI (D.2.2.2.2.1 i))
/-- a kick -/
def mkB (sd : Nat) (k : Mk) (j : Nat) (x : List Nat × List OT) : Prop := k.2.2 21 j = n27 x.1 ∧ ltO x.1 ∧ x.1.length ≤ 8 ∧ k.2.1 27 (4 * sd + j) = nI x.2.length ∧ x.2.length ≤ 6 ∧ osM k (6 * (4 * sd + j)) x.2
def MB (sd : Nat) (k : Mk) (l : List (List Nat × List OT)) : Prop := k.2.1 26 sd = nI l.length ∧ k.1 20 = nI l.length ∧ l.length ≤ 4 ∧ ∀ j, j < l.length → mkB sd k j (l.getD j ([], []))
/-- rows -/
def MRo (sd : Nat) (k : Mk) (l : List (List Nat)) : Prop := k.2.1 22 sd = nI l.length ∧ l.length ≤ 4 ∧ k.2.1 23 sd = nI (l.headD []).length ∧ (∀ e, e < l.length → (l.getD e []).length ≤ 8 ∧ ∀ a, a < (l.getD e []).length → k.2.1 24 (32 * sd + 8 * e + a) = soL ((l.getD e []).getD a 0))
theorem MA.cg {sd : Nat} {k k' : Mk} {D : Dt} (h : MA sd k D) (h1 : ∀ n, n = 25 ∨ (32 ≤ n ∧ n ≤ 36) → k'.2.1 n = k.2.1 n) : MA sd k' D := by
  unfold MA
  rw [h1 25 (by omega), h1 34 (by omega), h1 35 (by omega), h1 36 (by omega), h1 32 (by omega), h1 33 (by omega)]
  exact h
theorem MB.cg {sd : Nat} {k k' : Mk} {l : List (List Nat × List OT)} (h : MB sd k l) (h0 : k'.1 20 = k.1 20) (h1 : ∀ n, 26 ≤ n → n ≤ 31 → k'.2.1 n = k.2.1 n) (h2 : k'.2.2 21 = k.2.2 21) : MB sd k' l := by
  obtain ⟨a1, a2, a3, a4⟩ := h
  refine ⟨by rw [h1 26 (by decide) (by decide)]; exact a1, by rw [h0]; exact a2, a3, fun j hj => ?_⟩
  obtain ⟨b1, b2, b3, b4, b5, b6⟩ := a4 j hj
  exact ⟨by rw [h2]; exact b1, b2, b3, by rw [h1 27 (by decide) (by decide)]; exact b4, b5, osM_cg _ _ (fun n i x y _ _ => by rw [h1 n (by omega) y]) b6⟩
theorem MRo.cg {sd : Nat} {k k' : Mk} {l : List (List Nat)} (h : MRo sd k l) (h1 : ∀ n, 22 ≤ n → n ≤ 24 → k'.2.1 n = k.2.1 n) : MRo sd k' l := by
  unfold MRo
  rw [h1 22 (by decide) (by decide), h1 23 (by decide) (by decide), h1 24 (by decide) (by decide)]
  exact h
theorem MB.kick {sd : Nat} {k k' : Mk} {l : List (List Nat × List OT)} {x : List Nat × List OT} (h : MB sd k l) (hl : l.length < 4) (hf : KKk sd l.length k k') (h1 : ltO x.1) (h2 : x.1.length ≤ 8) (h3 : x.2.length ≤ 6) (f1 : k'.2.1 26 sd = nI (l.length + 1)) (f2 : k'.1 20 = nI (l.length + 1)) (f3 : k'.2.1 27 (4 * sd + l.length) = nI x.2.length) (f4 : osM k' (6 * (4 * sd + l.length)) x.2) (f5 : k'.2.2 21 = vp_updL (k.2.2 21) l.length (n27 x.1)) : MB sd k' (l ++ [x]) := by
  obtain ⟨a1, a2, a3, a4⟩ := h
  have hL : (l ++ [x]).length = l.length + 1 := by rw [List.length_append]; rfl
  unfold MB
  rw [hL]
  refine ⟨f1, f2, by omega, fun j hj => ?_⟩
  by_cases hj2 : j < l.length
  · rw [gd_l1 hj2]
    obtain ⟨b1, b2, b3, b4, b5, b6⟩ := a4 j hj2
    refine ⟨?_, b2, b3, ?_, b5, osM_cg _ _ (fun n i y z u w => hf.2.2.2.2.1 n i y z (by omega)) b6⟩
    · rw [f5, ← b1]
      unfold vp_updL
      exact if_neg (by omega)
    · rw [hf.2.2.2.1 _ (by omega)]; exact b4
  · have e : j = l.length := by omega
    subst e
    rw [gd_l2]
    refine ⟨?_, h1, h2, f3, h3, f4⟩
    rw [f5]
    unfold vp_updL
    exact if_pos rfl
theorem MRo.row {sd : Nat} {k k' : Mk} {l : List (List Nat)} {x : List Nat} (h : MRo sd k l) (hl : l.length < 4) (hf : KRw sd l.length k k') (h2 : x.length ≤ 8) (f1 : k'.2.1 22 sd = nI (l.length + 1)) (f2 : k'.2.1 23 sd = nI (rwW l.length (l.headD []).length x)) (f3 : ∀ i, i < x.length → k'.2.1 24 (32 * sd + 8 * l.length + i) = soL (x.getD i 0)) : MRo sd k' (l ++ [x]) := by
  obtain ⟨a1, a2, a3, a4⟩ := h
  have hL : (l ++ [x]).length = l.length + 1 := by rw [List.length_append]; rfl
  unfold MRo
  rw [hL]
  refine ⟨f1, by omega, ?_, fun e he => ?_⟩
  · rw [f2]
    cases l with
    | nil => rfl
    | cons y r => rfl
  · by_cases he2 : e < l.length
    · rw [gd_l1 he2]
      refine ⟨(a4 e he2).1, fun a ha => ?_⟩
      have h8 := (a4 e he2).1
      rw [hf.2.2.2.1 _ (by omega)]
      exact (a4 e he2).2 a ha
    · have e1 : e = l.length := by omega
      subst e1
      rw [gd_l2]
      exact ⟨h2, f3⟩
