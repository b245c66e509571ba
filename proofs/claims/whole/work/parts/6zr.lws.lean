/-! ===== laws of a street that was read ===== -/
def lwV (w : Lw) : Prop := ∀ b ∈ w, exS b.2 ∧ ∀ p, b.1 = some p → exS p.1 ∧ exS p.2
section V1
variable {steps f : Nat → Int32} {size : Nat}
theorem vl_end {i F : Nat} {x : Int32} {sk : Nat → Int32} (h : steps i = enc 7 (nI 0)) (hi : i < size) (hp : ex_pl sk [x]) : (n_vl steps f size (F + 1) i 1 sk).1 = x := by
  have ca : steps i &&& nI 7 = nI 7 := by rw [h]; decide
  rw [n_vl, if_neg (by omega), if_pos ca]
  exact hp.1
theorem len1 {l : List Int32} (h : l.length = 1) : ∃ x, l = [x] := by
  match l, h with
  | [x], _ => exact ⟨x, rfl⟩
theorem vl_fin (e : Ex) (i F : Nat) (sk : Nat → Int32) (hc : cdA steps i (e.map encP ++ [enc 7 (nI 0)])) (hS : exS e) (hw : ex_wf e 0) (hi : i + e.length < size) (hF : e.length + 1 < F) : (n_vl steps f size F i 0 sk).1 = lw_1 (ex_val f e []) := by
  obtain ⟨c1, c2⟩ := cdA_a hc
  rw [List.length_map] at c2
  have hw2 := wf_ew e 0 hw
  have h := vl_ex (f := f) (size := size) e i [] sk F 0 1 0 c1 hS hw2 rfl (by decide) (by decide) trivial hi (by omega)
  rw [exr_val]
  cases e9 : exr f e [] with
  | none => exact h.1 e9
  | some S' =>
    obtain ⟨x, rfl⟩ := len1 (exr_len e [] 1 hw2 _ e9)
    obtain ⟨sk', hp, e2⟩ := h.2 _ e9
    have e2 : n_vl steps f size F i 0 sk = n_vl steps f size (F - e.length) (i + e.length) 1 sk' := e2
    rw [e2, show F - e.length = (F - e.length - 1) + 1 by omega, vl_end (cdA_c c2).1 hi hp]
    rfl
theorem vl_law : ∀ (w : Lw) (i F : Nat) (sk : Nat → Int32), lwG w → lwV w → cdA steps i (lcode i w) → i + (lcode i w).length ≤ size → size ≤ 400 → size + 1 ≤ F + i → (n_vl steps f size F i 0 sk).1 = lw_val f w := by
  intro w
  induction w with
  | nil => intro i F sk h; exact absurd h id
  | cons b t ih =>
    obtain ⟨b1, e⟩ := b
    intro i F sk hG hV hc hl h4 hF
    have hV1 := hV (b1, e) (List.mem_cons_self ..)
    have hV2 : lwV t := fun b hb => hV b (List.mem_cons_of_mem _ hb)
    rw [lcode] at hc hl
    rw [List.length_append, brc_len] at hl
    cases b1 with
    | none =>
      obtain ⟨g1, rfl⟩ := hG
      have hb : brl ((none : Option (Ex × Ex)), e) = e.length + 1 := rfl
      rw [hb] at hl
      have hc2 := (cdA_a hc).1
      exact vl_fin e i F sk hc2 hV1.1 g1 (by omega) (by omega)
    | some p =>
      obtain ⟨p1, p2⟩ := p
      obtain ⟨g1, g2, g3, g4⟩ := hG
      obtain ⟨v1, v2⟩ := hV1.2 _ rfl
      have hb : brl (some (p1, p2), e) = p1.length + p2.length + 1 + e.length + 1 := rfl
      obtain ⟨hc1, hct⟩ := cdA_a hc
      rw [brc_len] at hct
      have hc1 : cdA steps i (p1.map encP ++ p2.map encP ++ [enc 6 (nI (i + brl (some (p1, p2), e)))] ++ e.map encP ++ [enc 7 (nI 0)]) := hc1
      rw [List.append_assoc (p1.map encP ++ p2.map encP ++ _)] at hc1
      obtain ⟨hca, hce⟩ := cdA_a hc1
      obtain ⟨hca, hcT⟩ := cdA_a hca
      obtain ⟨hcp1, hcp2⟩ := cdA_a hca
      rw [List.length_append, List.length_append, List.length_map, List.length_map, List.length_singleton] at hce
      rw [List.length_append, List.length_map, List.length_map] at hcT
      rw [List.length_map] at hcp2
      have w1 := wf_ew p1 0 g1
      have w2 := wf_ew p2 0 g2
      have h1 := vl_ex (f := f) (size := size) p1 i [] sk F 0 1 0 hcp1 v1 w1 rfl (by decide) (by decide) trivial (by omega) (by omega)
      rw [lw_val, exr_val p1, exr_val p2]
      cases e1 : exr f p1 [] with
      | none => exact h1.1 e1
      | some S1 =>
        obtain ⟨x, rfl⟩ := len1 (exr_len p1 [] 1 w1 _ e1)
        obtain ⟨sk1, hp1, q1⟩ := h1.2 _ e1
        have q1 : n_vl steps f size F i 0 sk = n_vl steps f size (F - p1.length) (i + p1.length) 1 sk1 := q1
        have h2 := vl_ex (f := f) (size := size) p2 (i + p1.length) [x] sk1 (F - p1.length) 0 1 1 hcp2 v2 w2 rfl (by decide) (by decide) hp1 (by omega) (by omega)
        have ea := exr_app (v := f) (base := [x]) p2 [] 1 w2
        rw [List.nil_append] at ea
        rw [q1]
        cases e2 : exr f p2 [] with
        | none =>
          rw [e2] at ea
          exact h2.1 ea
        | some S2 =>
          obtain ⟨y, rfl⟩ := len1 (exr_len p2 [] 1 w2 _ e2)
          rw [e2] at ea
          obtain ⟨sk2, hp2, q2⟩ := h2.2 _ ea
          have q2 : n_vl steps f size (F - p1.length) (i + p1.length) 1 sk1 = n_vl steps f size (F - p1.length - p2.length) (i + p1.length + p2.length) 2 sk2 := q2
          have hp2 : ex_pl sk2 [y, x] := hp2
          rw [q2]
          show _ = (if x < y then lw_1 (ex_val f e []) else lw_val f t)
          have hT := (cdA_c hcT).1
          rw [show i + (p1.length + p2.length) = i + p1.length + p2.length by omega, enc_n (by omega) (by decide)] at hT
          have ca : steps (i + p1.length + p2.length) &&& nI 7 = nI 6 := by rw [hT]; exact enc_a (by omega) (by decide)
          have cs : steps (i + p1.length + p2.length) >>> (nI 3 &&& 31) = nI (i + brl (some (p1, p2), e)) := by rw [hT]; exact enc_s (by omega) (by decide)
          have s0 : sk2 0 = x := hp2.2.1
          have s1 : sk2 1 = y := hp2.1
          rw [show F - p1.length - p2.length = (F - p1.length - p2.length - 1) + 1 by omega, n_vl, if_neg (by omega), ca, cs, if_neg (by decide), if_neg (by decide), if_neg (by decide), if_neg (by decide), if_neg (by rintro ⟨w, _⟩; exact absurd w (by decide)), if_pos rfl]
          show (if sk2 0 < sk2 1 then _ else _ : Int32 × (Nat → Int32)).1 = _
          rw [s0, s1]
          by_cases hxy : x < y
          · rw [if_pos hxy, if_pos hxy]
            exact vl_fin e _ _ _ (by rw [show i + p1.length + p2.length + 1 = i + (p1.length + p2.length + 1) by omega]; exact hce) hV1.1 g3 (by omega) (by omega)
          · rw [if_neg hxy, if_neg hxy]
            have ej : (if nI (i + p1.length + p2.length) < nI (i + brl (some (p1, p2), e)) - nI 1 then nI (i + brl (some (p1, p2), e)) - nI 1 else nI (i + p1.length + p2.length)).toNatClampNeg + 1 = i + brl (some (p1, p2), e) := by
              rw [pk_sub (by omega), if_pos (nI_lt (by omega) (by omega)), nI_clamp (by omega)]
              omega
            rw [ej]
            exact ih _ _ _ g4 hV2 hct (by omega) h4 (by omega)
end V1
theorem lwG_congr {v v' : Nat → Int32} (hv : ∀ j, j < 7 → v j = v' j) : ∀ w : Lw, lwG w → lw_val v w = lw_val v' w := by
  intro w
  induction w with
  | nil => intro _; rfl
  | cons z t ih =>
    obtain ⟨x, e⟩ := z
    intro h
    cases x with
    | none => rw [lw_val, lw_val, ex_val_congr hv _ _ _ h.1]
    | some w => obtain ⟨h1, h2, h3, h⟩ := h; rw [lw_val, lw_val, ex_val_congr hv _ _ _ h1, ex_val_congr hv _ _ _ h2, ex_val_congr hv _ _ _ h3, ih h]
theorem ex_us {v v' : Nat → Int32} (hv : ∀ j, j < 6 → v j = v' j) : ∀ (e : Ex) (d : Nat) (st : List Int32), ex_wf e d → usS e = false → ex_val v e st = ex_val v' e st := by
  intro e
  induction e with
  | nil => intro d st _ _; rfl
  | cons w t ih =>
    obtain ⟨o, y⟩ := w
    intro d st h hu
    have hu2 : (o == 1 && y == nI 6) = false ∧ usS t = false := by
      unfold usS at hu ⊢
      rw [List.any_cons, Bool.or_eq_false_iff] at hu
      exact hu
    rw [ex_wf] at h
    rw [ex_val, ex_val]
    by_cases h0 : o = 0
    · rw [if_pos h0] at h
      rw [if_pos h0, if_pos h0]
      exact ih _ _ h.2 hu2.2
    · rw [if_neg h0] at h
      rw [if_neg h0, if_neg h0]
      by_cases h1 : o = 1
      · rw [if_pos h1] at h
        rw [if_pos h1, if_pos h1]
        obtain ⟨_, ⟨j, hj, rfl⟩, h⟩ := h
        have hj6 : ¬ j = 6 := fun w => by
          have hb := hu2.1
          rw [h1, w] at hb
          exact absurd hb (by decide)
        rw [nI_clamp (by omega), hv j (by omega)]
        exact ih _ _ h hu2.2
      · rw [if_neg h1] at h
        rw [if_neg h1, if_neg h1]
        refine congrArg (ex_two st) (funext fun b => funext fun a => funext fun r => ?_)
        rw [ih _ _ h.2.2 hu2.2]
theorem lw_us {v v' : Nat → Int32} (hv : ∀ j, j < 6 → v j = v' j) : ∀ w : Lw, lwG w → usL w = false → lw_val v w = lw_val v' w := by
  intro w
  induction w with
  | nil => intro _ _; rfl
  | cons z t ih =>
    obtain ⟨x, e⟩ := z
    intro h hu
    unfold usL at hu
    rw [List.any_cons, Bool.or_eq_false_iff] at hu
    obtain ⟨hu1, hu2⟩ := hu
    cases x with
    | none =>
      have hu1 : (false || usS e) = false := hu1
      rw [Bool.false_or] at hu1
      rw [lw_val, lw_val, ex_us hv _ _ _ h.1 hu1]
    | some w =>
      have hu1 : ((usS w.1 || usS w.2) || usS e) = false := hu1
      rw [Bool.or_eq_false_iff, Bool.or_eq_false_iff] at hu1
      obtain ⟨h1, h2, h3, h⟩ := h
      rw [lw_val, lw_val, ex_us hv _ _ _ h1 hu1.1.1, ex_us hv _ _ _ h2 hu1.1.2, ex_us hv _ _ _ h3 hu1.2, ih h hu2]
theorem vs_at {g : Nat → Int32} : ∀ j, j < 7 → n_vs (g 0) (g 1) (g 2) (g 3) (g 4) (g 5) (g 6) j = g j
  | 0, _ => rfl
  | 1, _ => rfl
  | 2, _ => rfl
  | 3, _ => rfl
  | 4, _ => rfl
  | 5, _ => rfl
  | 6, _ => rfl
  | n + 7, h => absurd h (by omega)
theorem vs_6 {a b c d e f x y : Int32} : ∀ j, j < 6 → n_vs a b c d e f x j = n_vs a b c d e f y j
  | 0, _ => rfl
  | 1, _ => rfl
  | 2, _ => rfl
  | 3, _ => rfl
  | 4, _ => rfl
  | 5, _ => rfl
  | n + 6, h => absurd h (by omega)
/-- the laws that the class holds -/
theorem CWl.lws {T : Sd} {u : Ua} {C : List Int32} {W : Nat → Lw} (h : CWl T u C W) (hV : ∀ i, lwV (W i)) : LWs T (lwf W) ∧ UT T (lwf W) := by
  obtain ⟨⟨a1, a2, a3⟩, a4, a5⟩ := h
  refine ⟨⟨by omega, fun k hk => ?_, fun k hk g sk => ?_⟩, fun h8 i hi a b c d e f x y => ?_⟩
  · rcases a5 k hk with ⟨z, _⟩ | ⟨_, b, z, z2, _⟩
    · rw [z]; decide
    · rw [z]; exact nI_lt (by omega) (by decide)
  · unfold n_val
    rcases a5 k hk with ⟨z, z2⟩ | ⟨z1, b, z2, z3, z4, z5⟩
    · rw [z, if_pos (by decide)]
      show _ = lw_val _ (W k)
      rw [z2]
      rfl
    · rw [z2, if_neg (nI_pos (by omega)), nI_clamp (by omega)]
      show _ = lw_val (n_vs (g 0) (g 1) (g 2) (g 3) (g 4) (g 5) (g 6)) (W k)
      rw [lwG_congr vs_at _ z1]
      refine vl_law (W k) b 401 sk z1 (hV k) (fun j hj => ?_) (by omega) (by omega) (by omega)
      rw [a3 (b + j) (by omega)]
      exact z4 j hj
  · show lw_val _ (W i) = lw_val _ (W i)
    rcases a5 i hi with ⟨_, z2⟩ | ⟨z1, b, z2, z3, z4, z5⟩
    · rw [z2]; rfl
    · refine lw_us vs_6 _ z1 (Bool.eq_false_iff.mpr (fun w => ?_))
      have := z5 w
      rw [h8, Nat.zero_div] at this
      exact absurd this (by decide)

