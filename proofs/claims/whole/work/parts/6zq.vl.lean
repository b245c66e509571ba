/-! ===== steps of a law do what the law tells ===== -/
theorem enc_n {m o : Nat} (hm : m < 100000) (ho : o < 8) : enc o (nI m) = nI (m * 8 + o) := by
  unfold enc nI
  rw [show Int32.ofNat 3 &&& 31 = 3 by decide]
  apply Int32.toBitVec_inj.mp
  rw [Int32.toBitVec_or, Int32.toBitVec_shiftLeft, Int32.toBitVec_ofNat', Int32.toBitVec_ofNat', Int32.toBitVec_ofNat']
  apply BitVec.eq_of_toNat_eq
  rw [BitVec.toNat_or, show (Int32.toBitVec 3).smod 32 = 3#32 by decide, BitVec.shiftLeft_eq', BitVec.toNat_shiftLeft, show (3#32).toNat = 3 from rfl, BitVec.toNat_ofNat, BitVec.toNat_ofNat, BitVec.toNat_ofNat]
  have e1 : m % 2 ^ 32 = m := Nat.mod_eq_of_lt (by omega)
  have e2 : o % 2 ^ 32 = o := Nat.mod_eq_of_lt (by omega)
  have e3 : (m * 8 + o) % 2 ^ 32 = m * 8 + o := Nat.mod_eq_of_lt (by omega)
  have e4 : (m <<< 3) % 2 ^ 32 = m <<< 3 := by rw [Nat.shiftLeft_eq]; exact Nat.mod_eq_of_lt (by omega)
  rw [e1, e2, e3, e4, ← Nat.shiftLeft_add_eq_or_of_lt (show o < 2 ^ 3 by omega), Nat.shiftLeft_eq]
theorem enc_a {m o : Nat} (hm : m < 100000) (ho : o < 8) : nI (m * 8 + o) &&& nI 7 = nI o := by
  unfold nI
  apply Int32.toBitVec_inj.mp
  rw [Int32.toBitVec_and, Int32.toBitVec_ofNat', Int32.toBitVec_ofNat', Int32.toBitVec_ofNat']
  apply BitVec.eq_of_toNat_eq
  rw [BitVec.toNat_and, BitVec.toNat_ofNat, BitVec.toNat_ofNat, BitVec.toNat_ofNat]
  have e2 : o % 2 ^ 32 = o := Nat.mod_eq_of_lt (by omega)
  have e3 : (m * 8 + o) % 2 ^ 32 = m * 8 + o := Nat.mod_eq_of_lt (by omega)
  have e4 : 7 % 2 ^ 32 = 2 ^ 3 - 1 := by decide
  rw [e2, e3, e4, Nat.and_two_pow_sub_one_eq_mod]
  omega
theorem enc_s {m o : Nat} (hm : m < 100000) (ho : o < 8) : nI (m * 8 + o) >>> (nI 3 &&& 31) = nI m := by
  apply Int32.toInt_inj.mp
  rw [pk_shr _ (nI 3 &&& 31) 3 (by decide), nI_toInt (by omega), nI_toInt (by omega), Int.shiftRight_eq_div_pow]
  omega
/-- the stack behind a formula -/
def exr2 (st : List Int32) (f : Int32 → Int32 → List Int32 → Option (List Int32)) : Option (List Int32) := match st with
  | b :: a :: r => f b a r
  | _ => none
def exr (v : Nat → Int32) : Ex → List Int32 → Option (List Int32)
  | [], st => some st
  | (o, y) :: t, st => if o = 0 then exr v t (y :: st) else if o = 1 then exr v t (v y.toNatClampNeg :: st) else exr2 st fun b a r => if o = 5 ∧ b = 0 then none else exr v t (ex_op o a b :: r)
theorem exr_val {v : Nat → Int32} : ∀ (e : Ex) (st : List Int32), ex_val v e st = (exr v e st).bind ex_one := by
  intro e
  induction e with
  | nil => intro st; rfl
  | cons w t ih =>
    obtain ⟨o, y⟩ := w
    intro st
    rw [ex_val, exr]
    split
    · exact ih _
    · split
      · exact ih _
      · match st with
        | [] => rfl
        | [_] => rfl
        | b :: a :: r =>
          show (if o = 5 ∧ b = 0 then none else ex_val v t (ex_op o a b :: r)) = (if o = 5 ∧ b = 0 then none else exr v t (ex_op o a b :: r)).bind ex_one
          split
          · rfl
          · exact ih _
theorem exr_len {v : Nat → Int32} : ∀ (e : Ex) (st : List Int32) (d : Nat), ew e st.length d → ∀ st', exr v e st = some st' → st'.length = d := by
  intro e
  induction e with
  | nil => intro st d h st' h1; cases h1; exact h
  | cons w t ih =>
    obtain ⟨o, y⟩ := w
    intro st d h st' h1
    rw [ew] at h
    rw [exr] at h1
    split at h1
    · rename_i ho; rw [if_pos ho] at h; exact ih (y :: st) _ h.2 _ h1
    · rename_i ho; rw [if_neg ho] at h
      split at h1
      · rename_i ho1; rw [if_pos ho1] at h; exact ih (v y.toNatClampNeg :: st) _ h.2.2 _ h1
      · rename_i ho1; rw [if_neg ho1] at h
        match st, h, h1 with
        | [], h, h1 => cases h1
        | [_], h, h1 => cases h1
        | b :: a :: r, h, h1 =>
          have h1 : (if o = 5 ∧ b = 0 then none else exr v t (ex_op o a b :: r)) = some st' := h1
          split at h1
          · cases h1
          · exact ih (ex_op o a b :: r) _ (by have h9 := h.2.2; rw [List.length_cons, List.length_cons] at h9; rw [List.length_cons]; exact h9) _ h1
theorem exr_app {v : Nat → Int32} {base : List Int32} : ∀ (e : Ex) (st : List Int32) (d : Nat), ew e st.length d → exr v e (st ++ base) = (exr v e st).map (· ++ base) := by
  intro e
  induction e with
  | nil => intro st d _; rfl
  | cons w t ih =>
    obtain ⟨o, y⟩ := w
    intro st d h
    rw [ew] at h
    rw [exr, exr]
    split
    · rename_i ho; rw [if_pos ho] at h; exact ih (y :: st) _ h.2
    · rename_i ho; rw [if_neg ho] at h
      split
      · rename_i ho1; rw [if_pos ho1] at h; exact ih (_ :: st) _ h.2.2
      · rename_i ho1; rw [if_neg ho1] at h
        match st, h with
        | [], h => exact absurd h.2.1 (by decide)
        | [_], h => exact absurd h.2.1 (by show ¬ 2 ≤ 1; decide)
        | b :: a :: r, h =>
          show (if o = 5 ∧ b = 0 then none else exr v t (ex_op o a b :: (r ++ base))) = Option.map _ (if o = 5 ∧ b = 0 then none else exr v t (ex_op o a b :: r))
          split
          · rfl
          · exact ih (_ :: r) _ (by have h9 := h.2.2; rw [List.length_cons, List.length_cons] at h9; rw [List.length_cons]; exact h9)
def exS (e : Ex) : Prop := ∀ p ∈ e, p.1 ≤ 5 ∧ ∃ m : Nat, m ≤ 9999 ∧ p.2 = nI m
theorem wf_ew : ∀ (e : Ex) (d : Nat), ex_wf e d → ew e d 1 := by
  intro e
  induction e with
  | nil => intro d h; exact h
  | cons w t ih =>
    obtain ⟨o, y⟩ := w
    intro d h
    rw [ex_wf] at h
    rw [ew]
    split
    · rename_i ho; rw [if_pos ho] at h; exact ⟨h.1, ih _ h.2⟩
    · rename_i ho; rw [if_neg ho] at h
      split
      · rename_i ho1; rw [if_pos ho1] at h; exact ⟨h.1, h.2.1, ih _ h.2.2⟩
      · rename_i ho1; rw [if_neg ho1] at h; exact ⟨h.1, h.2.1, ih _ h.2.2⟩
section V1
variable {steps f : Nat → Int32} {size : Nat}
/-- steps from i on are those -/
def cdA (steps : Nat → Int32) (i : Nat) (l : List Int32) : Prop := ∀ j, j < l.length → steps (i + j) = l.getD j 0
theorem cdA_c {i : Nat} {x : Int32} {l : List Int32} (h : cdA steps i (x :: l)) : steps i = x ∧ cdA steps (i + 1) l := ⟨h 0 (Nat.zero_lt_succ _), fun j hj => by have h9 := h (j + 1) (by rw [List.length_cons]; omega); rw [show i + 1 + j = i + (j + 1) by omega]; exact h9⟩
theorem cdA_a {i : Nat} {l k : List Int32} (h : cdA steps i (l ++ k)) : cdA steps i l ∧ cdA steps (i + l.length) k := by
  refine ⟨fun j hj => ?_, fun j hj => ?_⟩
  · rw [h j (by rw [List.length_append]; omega), List.getD_eq_getElem?_getD, List.getD_eq_getElem?_getD, List.getElem?_append_left hj]
  · rw [Nat.add_assoc, h (l.length + j) (by rw [List.length_append]; omega), List.getD_eq_getElem?_getD, List.getD_eq_getElem?_getD, List.getElem?_append_right (Nat.le_add_right _ _), Nat.add_sub_cancel_left]
theorem vl_ex : ∀ (e : Ex) (i : Nat) (S : List Int32) (sk : Nat → Int32) (F d d' B : Nat), cdA steps i (e.map encP) → exS e → ew e d d' → S.length = d + B → B ≤ 1 → d ≤ 30 → ex_pl sk S → i + e.length < size → e.length < F → (exr f e S = none → (n_vl steps f size F i S.length sk).1 = nI 0) ∧ ∀ S', exr f e S = some S' → ∃ sk', ex_pl sk' S' ∧ n_vl steps f size F i S.length sk = n_vl steps f size (F - e.length) (i + e.length) S'.length sk' := by
  intro e
  induction e with
  | nil =>
    intro i S sk F d d' B _ _ _ _ _ _ hp _ _
    refine ⟨fun h => (by cases h), fun S' h => ?_⟩
    cases h
    exact ⟨sk, hp, rfl⟩
  | cons w t ih =>
    obtain ⟨o, y⟩ := w
    intro i S sk F d d' B hc hS hw hl hB hd hp hi hF
    have hlen : ((o, y) :: t).length = t.length + 1 := rfl
    rw [hlen] at hi hF
    obtain ⟨F, rfl⟩ : ∃ F', F = F' + 1 := ⟨F - 1, by omega⟩
    obtain ⟨c1, c2⟩ := cdA_c hc
    obtain ⟨o5, m, hm, rfl⟩ := hS (o, y) (List.mem_cons_self ..)
    have hS2 : exS t := fun p hp => hS p (List.mem_cons_of_mem _ hp)
    have c1 : steps i = nI (m * 8 + o) := by rw [c1]; exact enc_n (by omega) (by have : o ≤ 5 := o5; omega)
    have ca : steps i &&& nI 7 = nI o := by rw [c1]; exact enc_a (by omega) (by have : o ≤ 5 := o5; omega)
    have cs : steps i >>> (nI 3 &&& 31) = nI m := by rw [c1]; exact enc_s (by omega) (by have : o ≤ 5 := o5; omega)
    have o5 : o ≤ 5 := o5
    have hn : ∀ k : Nat, k < 8 → ¬ o = k → ¬ nI o = nI k := fun k hk hne w => hne ((nI_eq (by omega) (by omega)).mp w)
    rw [n_vl, if_neg (by omega), ca, if_neg (hn 7 (by decide) (by omega)), cs]
    rw [ew] at hw
    rw [exr]
    rw [show F + 1 - ((o, nI m) :: t).length = F - t.length by rw [hlen]; omega, show i + ((o, nI m) :: t).length = i + 1 + t.length by rw [hlen]; omega]
    by_cases h0 : o = 0
    · rw [if_pos h0] at hw ⊢
      rw [if_pos (show nI o = 0 by rw [h0]; rfl), if_neg (by omega)]
      have hp2 : ex_pl (upd sk S.length (nI m)) (nI m :: S) := ⟨upd_at, ex_pl_upd _ _ (Nat.le_refl _) hp⟩
      have h9 := ih (i + 1) (nI m :: S) (upd sk S.length (nI m)) F (d + 1) d' B c2 hS2 hw.2 (by rw [List.length_cons]; omega) hB (by omega) hp2 (by omega) (by omega)
      exact h9
    · rw [if_neg h0] at hw ⊢
      rw [if_neg (show ¬ nI o = 0 from hn 0 (by decide) h0)]
      by_cases h1 : o = 1
      · rw [if_pos h1] at hw ⊢
        rw [if_pos (show nI o = nI 1 by rw [h1]), if_neg (by omega)]
        obtain ⟨j, hj, ej⟩ := hw.2.1
        have ej : m = j := (nI_eq (by omega) (by omega)).mp ej
        subst ej
        have ef : n_fact f (nI m) = f m := by
          unfold n_fact
          rw [if_neg (fun w => w.elim (nI_pos (by omega)) (fun w => absurd ((nI_leI (by decide) (by omega)).mp w) (by omega))), nI_clamp (by omega)]
        rw [ef, nI_clamp (by omega)]
        have hp2 : ex_pl (upd sk S.length (f m)) (f m :: S) := ⟨upd_at, ex_pl_upd _ _ (Nat.le_refl _) hp⟩
        exact ih (i + 1) (f m :: S) (upd sk S.length (f m)) F (d + 1) d' B c2 hS2 hw.2.2 (by rw [List.length_cons]; omega) hB (by omega) hp2 (by omega) (by omega)
      · rw [if_neg h1] at hw ⊢
        rw [if_neg (hn 1 (by decide) h1), if_neg (by omega)]
        match S, hl, hp with
        | [], hl, hp => exact absurd hl (by show ¬ 0 = d + B; omega)
        | [_], hl, hp => exact absurd hl (by show ¬ 1 = d + B; omega)
        | b :: a :: r, hl, hp =>
          have hl2 : r.length + 2 = d + B := hl
          have e1 : sk ((b :: a :: r).length - 1) = b := hp.1
          have e2 : sk ((b :: a :: r).length - 2) = a := hp.2.1
          rw [e1, e2]
          show ((if o = 5 ∧ b = 0 then none else exr f t (ex_op o a b :: r)) = none → _) ∧ ∀ S', (if o = 5 ∧ b = 0 then none else exr f t (ex_op o a b :: r)) = some S' → _
          by_cases hz : o = 5 ∧ b = 0
          · rw [if_pos hz, if_pos ⟨by rw [hz.1], hz.2⟩]
            exact ⟨fun _ => rfl, fun S' h => by cases h⟩
          · rw [if_neg hz, if_neg (fun w => hz ⟨(nI_eq (by omega) (by decide)).mp w.1, w.2⟩), if_neg (hn 6 (by decide) (by omega))]
            have ej : n_join (nI o) a b = ex_op o a b := by
              unfold n_join ex_op
              by_cases k2 : o = 2
              · rw [if_pos (by rw [k2]), if_pos k2]
              · rw [if_neg (hn 2 (by decide) k2), if_neg k2]
                by_cases k3 : o = 3
                · rw [if_pos (by rw [k3]), if_pos k3]
                · rw [if_neg (hn 3 (by decide) k3), if_neg k3]
                  by_cases k4 : o = 4
                  · rw [if_pos (by rw [k4]), if_pos k4]
                  · rw [if_neg (hn 4 (by decide) k4), if_neg k4, if_neg (fun w => hz ⟨by omega, w⟩)]
            rw [ej]
            have hp2 : ex_pl (upd sk r.length (ex_op o a b)) (ex_op o a b :: r) := ⟨upd_at, ex_pl_upd _ _ (Nat.le_refl _) hp.2.2⟩
            have h9 := ih (i + 1) (ex_op o a b :: r) (upd sk r.length (ex_op o a b)) F (d - 1) d' B c2 hS2 hw.2.2 (by rw [List.length_cons]; omega) hB (by omega) hp2 (by omega) (by omega)
            exact h9
end V1

