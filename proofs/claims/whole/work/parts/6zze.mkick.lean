/-! ===== the reference's reader: tellKick, its outcomes ===== -/
theorem n27_inj {l l' : List Nat} (h : ltO l) (h' : ltO l') (hl : l.length ≤ 8) (hl' : l'.length ≤ 8) : n27 l = n27 l' ↔ l = l' := by
  constructor
  · intro e
    unfold n27 at e
    have b1 := nr_lt (b := 27) (by decide) l.reverse (fun c hc => by have := h c (List.mem_reverse.mp hc); omega)
    have b2 := nr_lt (b := 27) (by decide) l'.reverse (fun c hc => by have := h' c (List.mem_reverse.mp hc); omega)
    rw [List.length_reverse] at b1 b2
    have p1 : 27 ^ l.length ≤ 27 ^ 8 := Nat.pow_le_pow_right (by decide) hl
    have p2 : 27 ^ l'.length ≤ 27 ^ 8 := Nat.pow_le_pow_right (by decide) hl'
    have e2 := congrArg (fun x : Int64 => x.toBitVec.toNat) e
    simp only [Int64.toBitVec_ofNat', BitVec.toNat_ofNat] at e2
    rw [Nat.mod_eq_of_lt (by omega), Nat.mod_eq_of_lt (by omega)] at e2
    have e3 := nr_inj l.reverse l'.reverse (fun c hc => by have := h c (List.mem_reverse.mp hc); omega) (fun c hc => by have := h' c (List.mem_reverse.mp hc); omega) e2
    have e4 := congrArg List.reverse e3
    rw [List.reverse_reverse, List.reverse_reverse] at e4
    exact e4
  · intro e; rw [e]
theorem wr_i {x p : Nat} {s : Ps} : wr x p (wr x p s) = wr x p s := by
  by_cases h : s.2.1.1 = 0 ∧ (s.2.2.1 = 0 ∨ p < s.2.2.2 ∨ (p = s.2.2.2 ∧ x < s.2.2.1))
  · have e : wr x p s = (s.1, s.2.1, (x, p)) := if_pos h
    rw [e]
    unfold wr
    by_cases h2 : (s.1, s.2.1, (x, p)).2.1.1 = 0 ∧ ((s.1, s.2.1, (x, p)).2.2.1 = 0 ∨ p < (s.1, s.2.1, (x, p)).2.2.2 ∨ (p = (s.1, s.2.1, (x, p)).2.2.2 ∧ x < (s.1, s.2.1, (x, p)).2.2.1))
    · rw [if_pos h2]
    · rw [if_neg h2]
  · have e : wr x p s = s := if_neg h
    rw [e, e]
def otM (k : Mk) (b : Nat) (o : OT) : Prop := k.2.1 28 b = nI o.1 ∧ k.2.1 29 b = nI o.2.1 ∧ k.2.1 30 b = (bif o.2.2.1 then - nI o.2.2.2.1 else nI o.2.2.2.1) ∧ k.2.1 31 b = nI o.2.2.2.2
def osM (k : Mk) : Nat → List OT → Prop
  | _, [] => True
  | b, o :: r => otM k b o ∧ osM k (b + 1) r
/-- what the outcomes of a kick leave: those from lo to hi change -/
def KOs (lo hi : Nat) (k k' : Mk) : Prop := (∀ n, ¬ (n = 11 ∨ (13 ≤ n ∧ n ≤ 16)) → k'.1 n = k.1 n) ∧ (∀ n, n < 28 ∨ 31 < n → k'.2.1 n = k.2.1 n) ∧ (∀ n i, 28 ≤ n → n ≤ 31 → i < lo ∨ hi ≤ i → k'.2.1 n i = k.2.1 n i) ∧ k'.2.2 = k.2.2
theorem KO.kos {w lo hi : Nat} {k k' : Mk} (h : KO w k k') (hw : lo ≤ w ∧ w < hi) : KOs lo hi k k' := ⟨h.1, h.2.1, fun n i a b c => h.2.2.1 n i a b (by omega), h.2.2.2⟩
theorem KM.kos {lo hi : Nat} {k k' : Mk} (h : KM k k') : KOs lo hi k k' := ⟨h.1, fun n _ => by rw [h.2], fun n i _ _ _ => by rw [h.2], by rw [h.2]⟩
theorem KOs.rf {lo hi : Nat} {k : Mk} : KOs lo hi k k := ⟨fun _ _ => rfl, fun _ _ => rfl, fun _ _ _ _ _ => rfl, rfl⟩
theorem KOs.tr {lo hi l1 : Nat} {k k1 k2 : Mk} (h : KOs lo hi k k1) (h1 : KOs l1 hi k1 k2) (hl : lo ≤ l1) : KOs lo hi k k2 := ⟨fun n hn => (h1.1 n hn).trans (h.1 n hn), fun n hn => (h1.2.1 n hn).trans (h.2.1 n hn), fun n i a b c => (h1.2.2.1 n i a b (by omega)).trans (h.2.2.1 n i a b c), h1.2.2.2.trans h.2.2.2⟩
theorem KOs.kp {lo hi : Nat} {k k' : Mk} (h : KOs lo hi k k') : KP k k' := ⟨fun n hn => h.1 n (by omega), fun n hn => h.2.1 n (by omega), fun n _ => by rw [h.2.2.2]⟩
section C1
variable {g : am_H} {k : Mk} {v pl : Nat → Int32} {br lo : Int32} {c ct pr pt cm bf bt : Nat → Int32}
variable {Y : Tk} {s : Ps}
theorem l_mots {Q : Option Value → am_H → Prop} {kk tk : Nat} (hkk : kk < 8) : ∀ (m n : Nat) (s : Ps) (k : Mk) (x : Int32) (_ : n + m = 6) (_ : RM Y k s) (_ : ∀ k', ¬ (ots Y m s).2.2.1.1 = 0 → RM Y k' (ots Y m s).2 → KOs (6 * kk + n) (6 * kk + 6) k k' → Q none (mh g k' v pl br lo c ct pr pt cm bf bt)) (_ : ∀ k' n' x', RM Y k' (ots Y m s).2 → KOs (6 * kk + n) (6 * kk + 6) k k' → ((ots Y m s).2.2.1.1 = 0 → n' = n + (ots Y m s).1.length ∧ x' = x + nI (osm (ots Y m s).1) ∧ osM k' (6 * kk + n) (ots Y m s).1) → AW am_P 4 87 210 147 [some (.ref 121), some (.int (nI kk)), some (.int (nI tk)), some (.int (nI n')), some (.int x')] [] (mh g k' v pl br lo c ct pr pt cm bf bt) Q), AW am_P 4 87 210 81 [some (.ref 121), some (.int (nI kk)), some (.int (nI tk)), some (.int (nI n)), some (.int x)] [] (mh g k v pl br lo c ct pr pt cm bf bt) Q := by
  intro m
  induction m with
  | zero =>
    intro n s k x hnm hR q0 q
    have h13 := hR.2.2.2.1
    have hf8 := hR.2.2.1
    have hn6 : n = 6 := by omega
    subst hn6
    by_cases hf : s.2.1.1 = 0
    · have h130 : k.1 13 = nI 0 := by rw [h13, hf]
      refine aw rfl rfl ?_
      refine aw_getfE rfl mg_121 rfl (congrArg Value.int h130) ?_
      refine aw_ne rfl (fun c => absurd (by decide) c) (fun _ => ?_)
      refine aw rfl rfl ?_
      refine aw_c (v := nI 2) rfl (by decide) ?_
      refine aw_cv (d1 := 0) (L1 := 0) rfl rfl mg_121 rfl rfl (by decide) (by decide) (Nat.le_of_ble_eq_true rfl) (c_X11_is hR (by decide) (fun _ e2 => ?_) (fun e2 => ?_))
      · refine aw_eq rfl (fun c => absurd c (by decide)) (fun _ => ?_)
        refine aw rfl rfl ?_
        refine aw_c (v := nI 6) rfl (by decide) ?_
        refine aw_ine rfl (fun c => absurd (by decide) c) (fun _ => ?_)
        refine aw rfl rfl ?_
        refine aw_c (v := nI 2) rfl (by decide) ?_
        refine aw_cv (d1 := 0) (L1 := 0) rfl rfl mg_121 rfl rfl (by decide) (by decide) (Nat.le_of_ble_eq_true rfl) (c_X11_fail hR (by decide) (fun k1 hR1 hk1 => ?_))
        have hf81 := hR1.2.2.1
        have hfl1 : ¬ (fl Y 2 s).2.1.1 = 0 := fl_0 (by decide)
        refine aw rfl rfl ?_
        refine aw_getfE rfl mg_121 rfl (congrArg Value.int hR1.2.2.2.1) ?_
        refine aw_len rfl (fun c111 => by omega) (fun c111 => ?_)
        have eo : ots Y 0 s = ([], fl Y 2 s) := by rw [ots, if_pos ⟨hf, e2⟩]
        rw [eo] at q0
        exact aw_vret rfl rfl (q0 k1 (fl_0 (by decide)) hR1 (KM.kos hk1))
      · refine aw_eq rfl (fun _ => ?_) (fun c => absurd (by decide) c)
        have eo : ots Y 0 s = ([], s) := by rw [ots, if_neg (fun w => e2 hf w.2)]
        rw [eo] at q
        exact q k 6 x hR KOs.rf (fun _ => ⟨rfl, (Int32.add_zero x).symm, trivial⟩)
    · skip
      refine aw rfl rfl ?_
      refine aw_getfE rfl mg_121 rfl (congrArg Value.int h13) ?_
      refine aw_nen rfl (fun c85 => ?_) (fun c85 => absurd c85 hf)
      rw [ots_f hf] at q
      exact q k 6 x hR KOs.rf (fun w => absurd w hf)
  | succ m ih =>
    intro n s k x hnm hR q0 q
    have h13 := hR.2.2.2.1
    have hf8 := hR.2.2.1
    by_cases hf : s.2.1.1 = 0
    · have h130 : k.1 13 = nI 0 := by rw [h13, hf]
      refine aw rfl rfl ?_
      refine aw_getfE rfl mg_121 rfl (congrArg Value.int h130) ?_
      refine aw_ne rfl (fun c => absurd (by decide) c) (fun _ => ?_)
      refine aw rfl rfl ?_
      refine aw_c (v := nI 2) rfl (by decide) ?_
      refine aw_cv (d1 := 0) (L1 := 0) rfl rfl mg_121 rfl rfl (by decide) (by decide) (Nat.le_of_ble_eq_true rfl) (c_X11_is hR (by decide) (fun _ e2 => ?_) (fun e2 => ?_))
      · refine aw_eq rfl (fun c => absurd c (by decide)) (fun _ => ?_)
        refine aw rfl rfl ?_
        refine aw_c (v := nI 6) rfl (by decide) ?_
        refine aw_inen rfl (fun c99 => ?_) (fun c99 => by omega)
        refine aw rfl rfl ?_
        refine aw_getfE rfl mg_121 rfl (congrArg Value.int h130) ?_
        refine aw_le rfl (fun _ => ?_) (fun c => absurd (by decide) c)
        refine aw rfl rfl ?_
        refine aw_c (v := nI 6) rfl (by decide) ?_
        refine aw rfl rfl ?_
        refine aw_muln rfl ?_
        refine aw rfl rfl ?_
        refine aw_addn rfl ?_
        refine aw_cv (d1 := 3) (L1 := 64) rfl rfl mg_121 rfl rfl (by decide) (by decide) (Nat.le_of_ble_eq_true rfl) (c_X11_tellOutcome (by omega) hR (fun k1 hR1 hk1 ok1 => ?_))
        refine aw rfl rfl ?_
        refine aw rfl rfl ?_
        refine aw_getf rfl mg_121 rfl ?_
        refine aw_c (v := nI 6) rfl (by decide) ?_
        refine aw rfl rfl ?_
        refine aw_muln rfl ?_
        refine aw rfl rfl ?_
        refine aw_addn rfl ?_
        refine aw_iald rfl mg_136 rfl (by omega) (by decide) ?_
        refine aw rfl rfl ?_
        refine aw_ist (ls' := [_, _, _, _, _]) rfl rfl ?_
        refine aw_incn (c := 1) (ls' := [_, _, _, _, _]) rfl rfl (by decide) rfl ?_
        refine aw rfl rfl ?_
        have eo : ots Y (m + 1) s = ((otc Y s).1 :: (ots Y m (otc Y s).2).1, (ots Y m (otc Y s).2).2) := by rw [ots, if_pos ⟨hf, e2⟩]
        rw [eo] at q0 q
        dsimp only at q0 q
        have hk9 : KOs (6 * kk + n) (6 * kk + 6) k k1 := hk1.kos (by omega)
        refine ih (n + 1) (otc Y s).2 k1 (x + k1.2.1 28 (6 * kk + n)) (by omega) hR1 (fun k2 r1 r2 r3 => q0 k2 r1 r2 (hk9.tr r3 (by omega))) (fun k2 n2 x2 r1 r2 r3 => q k2 n2 x2 r1 (hk9.tr r2 (by omega)) (fun hg => ?_))
        have hg9 : (otc Y s).2.2.1.1 = 0 := Decidable.of_not_not (fun w => by rw [ots_f w] at hg; exact w hg)
        obtain ⟨u1, u2, u3⟩ := r3 hg
        obtain ⟨v1, v2, v3, v4⟩ := ok1 hg9
        have hv : ∀ j, 28 ≤ j → j ≤ 31 → k2.2.1 j (6 * kk + n) = k1.2.1 j (6 * kk + n) := fun j a b => r2.2.2.1 j _ a b (Or.inl (by omega))
        refine ⟨by rw [u1, List.length_cons]; omega, by rw [u2, v1, osm, Int32.add_assoc, nI_add], ⟨?_, ?_, ?_, ?_⟩, u3⟩
        · rw [hv 28 (by decide) (by decide)]; exact v1
        · rw [hv 29 (by decide) (by decide)]; exact v2
        · rw [hv 30 (by decide) (by decide)]; exact v3
        · rw [hv 31 (by decide) (by decide)]; exact v4
      · refine aw_eq rfl (fun _ => ?_) (fun c => absurd (by decide) c)
        have eo : ots Y (m + 1) s = ([], s) := by rw [ots, if_neg (fun w => e2 hf w.2)]
        rw [eo] at q
        exact q k n x hR KOs.rf (fun _ => ⟨rfl, (Int32.add_zero x).symm, trivial⟩)
    · skip
      refine aw rfl rfl ?_
      refine aw_getfE rfl mg_121 rfl (congrArg Value.int h13) ?_
      refine aw_nen rfl (fun c85 => ?_) (fun c85 => absurd c85 hf)
      rw [ots_f hf] at q
      exact q k n x hR KOs.rf (fun w => absurd w hf)
end C1
