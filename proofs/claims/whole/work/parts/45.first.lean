/-! ===== the reference: first ===== -/
def PF (T : Sd) (LW : LWt) (N t : Nat) : Nat → Nat → Nat → Nat
  | 0, mine, _ => if mine < 96 ∧ hm T mine = true then 1 else 0
  | m + 1, mine, his => pO T LW (PF T LW N t m) (decide ((N - 1 - m) % 2 = 0)) (6 ^ (m + 1)) mine his (nI (t + (N - 1 - m) * T.1 5))
def frL (T : Sd) : Nat := ((T.2 7 1).toNatClampNeg * 8 + (T.2 7 0).toNatClampNeg) * 3 + (T.2 7 2).toNatClampNeg
def a_first (T : Sd) (LW : LWt) (S : Nat → Nat) (x : Int32) (b : Bool) : Int32 := sp x 1 3 fun n => if S 6 = 0 then nI (fr (PF T LW (2 * n) (S 4 * T.1 5) (2 * n) (S 0 * 3 + S 1) (frL T)) (6 ^ (2 * n)) b) else -2
theorem PF_le {T : Sd} {LW : LWt} {N t : Nat} (hG : GS T) : ∀ m a b, PF T LW N t m a b ≤ 6 ^ m := by
  intro m
  induction m with
  | zero => intro a b; show (if _ then 1 else 0) ≤ 1; split <;> decide
  | succ m ih =>
    intro a b
    show pO T LW _ _ _ a b _ ≤ _
    rw [Nat.pow_succ, Nat.mul_comm]
    exact pO_le hG ih (Nat.le_refl _)
theorem n97 {a b z : Nat} (hb : b < 97) (h : 97 * a + b = z) : a = z / 97 ∧ b = z % 97 := by omega
section M1
variable {g : am_H} {k : Mk} {v pl : Nat → Int32} {br lo : Int32} {c ct pr pt cm bf bt : Nat → Int32}
variable {lv : Nat} {T : Sd} {W : Nat → Lw}
variable {S : Nat → Nat}
set_option maxRecDepth 8000 in
theorem c_X11_first {Q : Option Value → am_H → Prop} (hM : MR k lv T W) (hG : GS T) (hN : NR T (k.2.1 53) S) (hS : SG T S) {x : Int32} {b : Bool} (q : ∀ v pl br lo pr pt cm, Q (some (.int (a_first T (lwf W) S x b))) (mh g k v pl br lo c ct pr pt cm bf bt)) : AC am_P 5 132 278 [.ref 121, .int x, .int (bI b)] (mh g k v pl br lo c ct pr pt cm bf bt) Q := by
  refine AC.of (ls := [_, _, _, _, _]) rfl ?_
  have hM0 := hM
  have hG0 := hG
  obtain ⟨m0, m1, mr, mw, mf, mk, mli, mt, ms, msq, moc, mwy, msp, mlw⟩ := hM
  obtain ⟨⟨g0, g0x⟩, ⟨g1, g1x⟩, ⟨g2, g2x⟩, ⟨g3, g3x⟩, g4, ⟨g5, g5x⟩, g6, gsq, goc, gwt, gsp, gfr⟩ := hG
  have hN0 := hN
  have hS0 := hS
  obtain ⟨n0, n1, n2, n3, n4, n5, n6, n7, n8⟩ := hN
  obtain ⟨s0, s1, s2, s3, s4, s5, s6⟩ := hS
  have hl96 := s0.1
  unfold a_first at q
  refine aw rfl rfl ?_
  refine aw_c (v := nI 1) rfl (by decide) ?_
  refine aw_c (v := nI 3) rfl (by decide) ?_
  refine aw_cs (d1 := 0) (L1 := 0) rfl rfl (by decide) (by decide) (Nat.le_of_ble_eq_true rfl) (c_X11_in (fun p1 p2 => ?_) (fun p => ?_))
  · refine aw_ne rfl (fun _ => ?_) (fun c => absurd c (by decide))
    obtain ⟨n, rfl, hn1, hn⟩ := n_of3 p1 p2 (by decide) (by decide)
    rw [sp_in hn1 hn (by decide)] at q
    have h6 := p6_le (show 2 * n ≤ 10 by omega)
    have h6p := p6_pos (2 * n)
    have ht1 := Nat.mul_le_mul s3 g5x
    refine aw rfl rfl ?_
    refine aw_cv (d1 := 3) (L1 := 64) rfl rfl mg_121 rfl rfl (by decide) (by decide) (Nat.le_of_ble_eq_true rfl) (c_X11_isOver hM0 hG0 hN0 hS0 (fun z => ?_) (fun z => ?_))
    · refine aw_eq rfl (fun c => absurd c (by decide)) (fun _ => ?_)
      rw [if_neg z] at q
      refine aw_c (v := -2) rfl (by decide) ?_
      exact aw_iret rfl rfl (q _ _ _ _ _ _ _)
    · refine aw_eq rfl (fun _ => ?_) (fun c => absurd (by decide) c)
      rw [if_pos z] at q
      refine aw_c (v := nI 0) rfl (by decide) ?_
      refine aw_ist (ls' := [_, _, _, _, _]) rfl rfl ?_
      refine aw_loop (α := Nat → Int32) (ll := fun z y => [some (.ref 121), some (.int (nI n)), some (.int (bI b)), some (.int (nI z)), none]) (hh := fun z y => mh g k v pl br lo c ct y pt cm bf bt) (I := fun z y => ∀ a b, lone T a → lone T b → 97 * a + b < z → y (97 * a + b) = nI (PF T (lwf W) (2 * n) (S 4 * T.1 5) 0 a b)) (N := 9409) (fun z y hz hIz ihz => ?_) (fun y hIz => ?_) 0 pr (Nat.zero_le _) (fun a b _ _ h => absurd h (Nat.not_lt_zero _))
      · skip
        refine aw rfl rfl ?_
        refine aw_c (v := nI 9409) rfl (by decide) ?_
        refine aw_igen rfl (fun c27 => by omega) (fun c27 => ?_)
        refine aw rfl rfl ?_
        refine aw_getf rfl mg_121 rfl ?_
        refine aw rfl rfl ?_
        refine aw rfl rfl ?_
        refine aw_c (v := nI 97) rfl (by decide) ?_
        refine aw_divn rfl (by omega) (by omega) (by omega) ?_
        refine aw_c (v := nI 96) rfl (by decide) ?_
        refine aw_igen rfl (fun c41 => ?_) (fun c41 => ?_)
        · refine aw_c (v := nI 0) rfl (by decide) ?_
          refine aw_iastU rfl mg_162 rfl (by omega) (by decide) (by decide) mu_162 ?_
          refine aw_incn (c := 1) (ls' := [_, _, _, _, _]) rfl rfl (by decide) rfl ?_
          refine aw rfl rfl ?_
          exact ihz (upd y z (nI 0)) (fun a b ha hb hz2 => by
            by_cases e9 : 97 * a + b = z
            · obtain ⟨ea, eb⟩ := n97 (lone_lt hb) e9
              rw [e9]
              refine upd_at.trans (congrArg nI ?_)
              show 0 = if a < 96 ∧ hm T a = true then 1 else 0
              rw [if_neg (fun y => by omega)]
            · exact (upd_ne e9).trans (hIz a b ha hb (by omega)))
        · refine aw rfl rfl ?_
          refine aw_c (v := nI 4) rfl (by decide) ?_
          refine aw rfl rfl ?_
          refine aw_c (v := nI 97) rfl (by decide) ?_
          refine aw_divn rfl (by omega) (by omega) (by omega) ?_
          refine aw_muln rfl ?_
          refine aw_cv (d1 := 2) (L1 := 43) rfl rfl mg_121 rfl rfl (by decide) (by decide) (Nat.le_of_ble_eq_true rfl) (c_X11_isSquare (l := z / 97) (w := 0) hM0 hG0 (by omega) (by decide) (fun hs => ?_) (fun hs => ?_))
          · refine aw_eq rfl (fun c => absurd c (by decide)) (fun _ => ?_)
            refine aw rfl rfl ?_
            refine aw_c (v := nI 4) rfl (by decide) ?_
            refine aw rfl rfl ?_
            refine aw_c (v := nI 97) rfl (by decide) ?_
            refine aw_divn rfl (by omega) (by omega) (by omega) ?_
            refine aw_muln rfl ?_
            refine aw_cv (d1 := 1) (L1 := 22) rfl rfl mg_121 rfl rfl (by decide) (by decide) (Nat.le_of_ble_eq_true rfl) (c_so (l := z / 97) (w := 0) hM0 hG0 hs.1 (by decide) hs.2.1 hs.2.2.1 ?_)
            refine aw_c (v := nI 6) rfl (by decide) ?_
            refine aw_ine rfl (fun c69 => ?_) (fun c69 => ?_)
            · refine aw_c (v := nI 0) rfl (by decide) ?_
              refine aw_iastU rfl mg_162 rfl (by omega) (by decide) (by decide) mu_162 ?_
              refine aw_incn (c := 1) (ls' := [_, _, _, _, _]) rfl rfl (by decide) rfl ?_
              refine aw rfl rfl ?_
              exact ihz (upd y z (nI 0)) (fun a b ha hb hz2 => by
                by_cases e9 : 97 * a + b = z
                · obtain ⟨ea, eb⟩ := n97 (lone_lt hb) e9
                  rw [e9]
                  refine upd_at.trans (congrArg nI ?_)
                  show 0 = if a < 96 ∧ hm T a = true then 1 else 0
                  rw [if_neg (fun y => c69 (by have := of_decide_eq_true y.2; rw [ea] at this; exact this))]
                · exact (upd_ne e9).trans (hIz a b ha hb (by omega)))
            · refine aw_c (v := nI 1) rfl (by decide) ?_
              refine aw rfl rfl ?_
              refine aw_iastU rfl mg_162 rfl (by omega) (by decide) (by decide) mu_162 ?_
              refine aw_incn (c := 1) (ls' := [_, _, _, _, _]) rfl rfl (by decide) rfl ?_
              refine aw rfl rfl ?_
              exact ihz (upd y z (nI 1)) (fun a b ha hb hz2 => by
                by_cases e9 : 97 * a + b = z
                · obtain ⟨ea, eb⟩ := n97 (lone_lt hb) e9
                  rw [e9]
                  refine upd_at.trans (congrArg nI ?_)
                  show 1 = if a < 96 ∧ hm T a = true then 1 else 0
                  rw [if_pos ⟨by omega, by rw [ea]; exact decide_eq_true c69⟩]
                · exact (upd_ne e9).trans (hIz a b ha hb (by omega)))
          · refine aw_eq rfl (fun _ => ?_) (fun c => absurd (by decide) c)
            refine aw_c (v := nI 0) rfl (by decide) ?_
            refine aw_iastU rfl mg_162 rfl (by omega) (by decide) (by decide) mu_162 ?_
            refine aw_incn (c := 1) (ls' := [_, _, _, _, _]) rfl rfl (by decide) rfl ?_
            refine aw rfl rfl ?_
            exact ihz (upd y z (nI 0)) (fun a b ha hb hz2 => by
              by_cases e9 : 97 * a + b = z
              · obtain ⟨ea, eb⟩ := n97 (lone_lt hb) e9
                rw [e9]
                refine upd_at.trans (congrArg nI ?_)
                show 0 = if a < 96 ∧ hm T a = true then 1 else 0
                rw [if_neg (fun y => hs (by rw [← ea]; exact ha.resolve_left (by omega)))]
              · exact (upd_ne e9).trans (hIz a b ha hb (by omega)))
      · skip
        refine aw rfl rfl ?_
        refine aw_c (v := nI 9409) rfl (by decide) ?_
        refine aw_ige rfl (fun _ => ?_) (fun c => absurd (by decide) c)
        refine aw_c (v := nI 2) rfl (by decide) ?_
        refine aw rfl rfl ?_
        refine aw_muln rfl ?_
        refine aw_c (v := nI 1) rfl (by decide) ?_
        refine aw_subn rfl (by omega) ?_
        refine aw_ist (ls' := [_, _, _, _, _]) rfl rfl ?_
        have hpr : ∀ a b, lone T a → lone T b → y (97 * a + b) = nI (PF T (lwf W) (2 * n) (S 4 * T.1 5) 0 a b) := fun a b ha hb => hIz a b ha hb (by have := lone_lt ha; have := lone_lt hb; omega)
        rw [show nI (2 * n - 1) = nI (2 * n - 0) + -1 from (n_dec (show 1 ≤ 2 * n by omega)).symm]
        refine (show ∀ pr : Nat → Int32, (∀ a b, lone T a → lone T b → pr (97 * a + b) = nI (PF T (lwf W) (2 * n) (S 4 * T.1 5) 0 a b)) → AW am_P 5 132 278 90 [some (.ref 121), some (.int (nI n)), some (.int (bI b)), some (.int (nI (2 * n - 0) + -1)), none] [] (mh g k v pl br lo c ct pr pt cm bf bt) Q from fun pr hpr => ?_) y hpr
        refine aw_loop (α := (Nat → Int32) × (Nat → Int32) × Int32 × Int32 × (Nat → Int32) × (Nat → Int32) × (Nat → Int32) × Option Value) (ll := fun m y => [some (.ref 121), some (.int (nI n)), some (.int (bI b)), some (.int (nI (2 * n - m) + -1)), y.2.2.2.2.2.2.2]) (hh := fun m y => mh g k y.1 y.2.1 y.2.2.1 y.2.2.2.1 c ct y.2.2.2.2.1 y.2.2.2.2.2.1 y.2.2.2.2.2.2.1 bf bt) (I := fun m y => ∀ a b, lone T a → lone T b → y.2.2.2.2.1 (97 * a + b) = nI (PF T (lwf W) (2 * n) (S 4 * T.1 5) m a b)) (N := 2 * n) (fun m y hi hI ihm => ?_) (fun y hI => ?_) 0 (v, pl, br, lo, pr, pt, cm, none) (Nat.zero_le _) hpr
        · skip
          obtain ⟨v, pl, br, lo, pr, pt, cm, l4⟩ := y
          dsimp only at hI ⊢
          rw [n_dec (show 1 ≤ 2 * n - m by omega), show 2 * n - m - 1 = (2 * n - 1 - m) by omega]
          have hP : PRl T pr (PF T (lwf W) (2 * n) (S 4 * T.1 5) m) := hI
          have hB : ∀ a b, PF T (lwf W) (2 * n) (S 4 * T.1 5) m a b < 100000000 := fun a b => Nat.lt_of_le_of_lt (PF_le hG0 m a b) (p6_le (by omega))
          refine aw rfl rfl ?_
          refine aw_ltn rfl ?_
          refine aw rfl rfl ?_
          refine aw rfl rfl ?_
          refine aw_getf rfl mg_121 rfl ?_
          refine aw_c (v := nI 5) rfl (by decide) ?_
          refine aw_ialdE rfl mg_157 rfl (by omega) (by decide) n5 ?_
          refine aw rfl rfl ?_
          refine aw rfl rfl ?_
          refine aw_getf rfl mg_121 rfl ?_
          refine aw rfl rfl ?_
          refine aw_getfE rfl mg_121 rfl (congrArg Value.int m1) ?_
          refine aw_ialdE rfl mg_143 rfl (by omega) (by decide) mt ?_
          refine aw_muln rfl ?_
          refine aw_addn rfl ?_
          refine aw_cv (d1 := 4) (L1 := 107) rfl rfl mg_121 rfl rfl (by decide) (by decide) (Nat.le_of_ble_eq_true rfl) (c_X11_fillsCameTo hM0 hG0 (fun v pl br lo cm hC => ?_))
          refine aw_c (v := nI 0) rfl (by decide) ?_
          refine aw_ist (ls' := [_, _, _, _, _]) rfl rfl ?_
          refine aw_loop (α := Nat → Int32) (ll := fun z y => [some (.ref 121), some (.int (nI n)), some (.int (bI b)), some (.int (nI (2 * n - 1 - m))), some (.int (nI z))]) (hh := fun z y => mh g k v pl br lo c ct pr y cm bf bt) (I := fun z y => ∀ a b, lone T a → lone T b → 97 * a + b < z → y (97 * a + b) = nI (PF T (lwf W) (2 * n) (S 4 * T.1 5) (m + 1) a b)) (N := 9409) (fun z y hz hIz ihz => ?_) (fun y hIz => ?_) 0 pt (Nat.zero_le _) (fun a b _ _ h => absurd h (Nat.not_lt_zero _))
          · skip
            refine aw rfl rfl ?_
            refine aw_c (v := nI 9409) rfl (by decide) ?_
            refine aw_igen rfl (fun c124 => by omega) (fun c124 => ?_)
            refine aw rfl rfl ?_
            refine aw_getf rfl mg_121 rfl ?_
            refine aw rfl rfl ?_
            refine aw rfl rfl ?_
            refine aw rfl rfl ?_
            refine aw_c (v := nI 97) rfl (by decide) ?_
            refine aw_divn rfl (by omega) (by omega) (by omega) ?_
            refine aw_cv (d1 := 3) (L1 := 64) rfl rfl mg_121 rfl rfl (by decide) (by decide) (Nat.le_of_ble_eq_true rfl) (c_X11_isLone hM0 hG0 (by omega) (fun h1 => ?_) (fun h1 => ?_))
            · refine aw_eq rfl (fun c => absurd c (by decide)) (fun _ => ?_)
              refine aw rfl rfl ?_
              refine aw rfl rfl ?_
              refine aw_c (v := nI 97) rfl (by decide) ?_
              refine aw_remn rfl (by omega) (by omega) (by omega) ?_
              refine aw_cv (d1 := 3) (L1 := 64) rfl rfl mg_121 rfl rfl (by decide) (by decide) (Nat.le_of_ble_eq_true rfl) (c_X11_isLone hM0 hG0 (by omega) (fun h2 => ?_) (fun h2 => ?_))
              · refine aw_eq rfl (fun c => absurd c (by decide)) (fun _ => ?_)
                refine aw rfl rfl ?_
                refine aw rfl rfl ?_
                refine aw_c (v := nI 97) rfl (by decide) ?_
                refine aw_divn rfl (by omega) (by omega) (by omega) ?_
                refine aw rfl rfl ?_
                refine aw_c (v := nI 97) rfl (by decide) ?_
                refine aw_remn rfl (by omega) (by omega) (by omega) ?_
                refine aw rfl rfl ?_
                refine aw_c (v := nI 2) rfl (by decide) ?_
                refine aw_remn rfl (by omega) (by omega) (by omega) ?_
                refine aw_nen rfl (fun c171 => ?_) (fun c171 => ?_)
                · refine aw_c (v := nI 0) rfl (by decide) ?_
                  refine aw_c (v := nI 2) rfl (by decide) ?_
                  refine aw rfl rfl ?_
                  refine aw_muln rfl ?_
                  refine aw rfl rfl ?_
                  refine aw_subn rfl (by omega) ?_
                  rw [show 2 * n - (2 * n - 1 - m) = m + 1 by omega]
                  refine aw_cs (d1 := 0) (L1 := 0) rfl rfl (by decide) (by decide) (Nat.le_of_ble_eq_true rfl) (c_sixes (by omega) ?_)
                  refine aw_cv (d1 := 3) (L1 := 65) rfl rfl mg_121 rfl rfl (by decide) (by decide) (Nat.le_of_ble_eq_true rfl) (c_pairOfH (P := PF T (lwf W) (2 * n) (S 4 * T.1 5) m) hM0 hG0 hP hB h1 h2 hC ?_)
                  refine aw rfl rfl ?_
                  refine aw_iastU rfl mg_163 rfl (by omega) (by decide) (by decide) mu_163 ?_
                  refine aw_incn (c := 1) (ls' := [_, _, _, _, _]) rfl rfl (by decide) rfl ?_
                  refine aw rfl rfl ?_
                  exact ihz (upd y z (nI (pO T (lwf W) (PF T (lwf W) (2 * n) (S 4 * T.1 5) m) false (6 ^ (m + 1)) (z / 97) (z % 97) (nI (S 4 * T.1 5 + (2 * n - 1 - m) * T.1 5))))) (fun a b ha hb hz2 => by
                    by_cases e9 : 97 * a + b = z
                    · obtain ⟨ea, eb⟩ := n97 (lone_lt hb) e9
                      rw [e9]
                      refine upd_at.trans (congrArg nI ?_)
                      rw [ea, eb]
                      show _ = pO T (lwf W) (PF T (lwf W) (2 * n) (S 4 * T.1 5) m) (decide ((2 * n - 1 - m) % 2 = 0)) _ _ _ _
                      rw [decide_eq_false c171]
                    · exact (upd_ne e9).trans (hIz a b ha hb (by omega)))
                · refine aw_c (v := nI 1) rfl (by decide) ?_
                  refine aw rfl rfl ?_
                  refine aw_c (v := nI 2) rfl (by decide) ?_
                  refine aw rfl rfl ?_
                  refine aw_muln rfl ?_
                  refine aw rfl rfl ?_
                  refine aw_subn rfl (by omega) ?_
                  rw [show 2 * n - (2 * n - 1 - m) = m + 1 by omega]
                  refine aw_cs (d1 := 0) (L1 := 0) rfl rfl (by decide) (by decide) (Nat.le_of_ble_eq_true rfl) (c_sixes (by omega) ?_)
                  refine aw_cv (d1 := 3) (L1 := 65) rfl rfl mg_121 rfl rfl (by decide) (by decide) (Nat.le_of_ble_eq_true rfl) (c_pairOfM (P := PF T (lwf W) (2 * n) (S 4 * T.1 5) m) hM0 hG0 hP hB h1 h2 hC ?_)
                  refine aw rfl rfl ?_
                  refine aw_iastU rfl mg_163 rfl (by omega) (by decide) (by decide) mu_163 ?_
                  refine aw_incn (c := 1) (ls' := [_, _, _, _, _]) rfl rfl (by decide) rfl ?_
                  refine aw rfl rfl ?_
                  exact ihz (upd y z (nI (pO T (lwf W) (PF T (lwf W) (2 * n) (S 4 * T.1 5) m) true (6 ^ (m + 1)) (z / 97) (z % 97) (nI (S 4 * T.1 5 + (2 * n - 1 - m) * T.1 5))))) (fun a b ha hb hz2 => by
                    by_cases e9 : 97 * a + b = z
                    · obtain ⟨ea, eb⟩ := n97 (lone_lt hb) e9
                      rw [e9]
                      refine upd_at.trans (congrArg nI ?_)
                      rw [ea, eb]
                      show _ = pO T (lwf W) (PF T (lwf W) (2 * n) (S 4 * T.1 5) m) (decide ((2 * n - 1 - m) % 2 = 0)) _ _ _ _
                      rw [decide_eq_true c171]
                    · exact (upd_ne e9).trans (hIz a b ha hb (by omega)))
              · refine aw_eq rfl (fun _ => ?_) (fun c => absurd (by decide) c)
                refine aw_c (v := nI 0) rfl (by decide) ?_
                refine aw_iastU rfl mg_163 rfl (by omega) (by decide) (by decide) mu_163 ?_
                refine aw_incn (c := 1) (ls' := [_, _, _, _, _]) rfl rfl (by decide) rfl ?_
                refine aw rfl rfl ?_
                exact ihz (upd y z (nI 0)) (fun a b ha hb hz2 => by
                  by_cases e9 : 97 * a + b = z
                  · obtain ⟨ea, eb⟩ := n97 (lone_lt hb) e9
                    rw [e9]
                    exact absurd (by rw [← eb]; exact hb) h2
                  · exact (upd_ne e9).trans (hIz a b ha hb (by omega)))
            · refine aw_eq rfl (fun _ => ?_) (fun c => absurd (by decide) c)
              refine aw_c (v := nI 0) rfl (by decide) ?_
              refine aw_iastU rfl mg_163 rfl (by omega) (by decide) (by decide) mu_163 ?_
              refine aw_incn (c := 1) (ls' := [_, _, _, _, _]) rfl rfl (by decide) rfl ?_
              refine aw rfl rfl ?_
              exact ihz (upd y z (nI 0)) (fun a b ha hb hz2 => by
                by_cases e9 : 97 * a + b = z
                · obtain ⟨ea, eb⟩ := n97 (lone_lt hb) e9
                  rw [e9]
                  exact absurd (by rw [← ea]; exact ha) h1
                · exact (upd_ne e9).trans (hIz a b ha hb (by omega)))
          · skip
            refine aw rfl rfl ?_
            refine aw_c (v := nI 9409) rfl (by decide) ?_
            refine aw_ige rfl (fun _ => ?_) (fun c => absurd (by decide) c)
            refine aw_c (v := nI 0) rfl (by decide) ?_
            refine aw_ist (ls' := [_, _, _, _, _]) rfl rfl ?_
            have hpt := hIz
            refine (show ∀ pt : Nat → Int32, (∀ a b, lone T a → lone T b → 97 * a + b < 9409 → pt (97 * a + b) = nI (PF T (lwf W) (2 * n) (S 4 * T.1 5) (m + 1) a b)) → AW am_P 5 132 278 204 [some (.ref 121), some (.int (nI n)), some (.int (bI b)), some (.int (nI (2 * n - 1 - m))), some (.int (nI 0))] [] (mh g k v pl br lo c ct pr pt cm bf bt) Q from fun pt hpt => ?_) y hpt
            refine aw_loop (α := Nat → Int32) (ll := fun z y => [some (.ref 121), some (.int (nI n)), some (.int (bI b)), some (.int (nI (2 * n - 1 - m))), some (.int (nI z))]) (hh := fun z y => mh g k v pl br lo c ct y pt cm bf bt) (I := fun z y => ∀ s, s < z → y s = pt s) (N := 9409) (fun z y hz hIz ihz => ?_) (fun y hIz => ?_) 0 pr (Nat.zero_le _) (fun s hs => absurd hs (Nat.not_lt_zero _))
            · skip
              refine aw rfl rfl ?_
              refine aw_c (v := nI 9409) rfl (by decide) ?_
              refine aw_igen rfl (fun c209 => by omega) (fun c209 => ?_)
              refine aw rfl rfl ?_
              refine aw_getf rfl mg_121 rfl ?_
              refine aw rfl rfl ?_
              refine aw rfl rfl ?_
              refine aw_getf rfl mg_121 rfl ?_
              refine aw rfl rfl ?_
              refine aw_iald rfl mg_163 rfl (by omega) (by decide) ?_
              refine aw_iastU rfl mg_162 rfl (by omega) (by decide) (by decide) mu_162 ?_
              refine aw_incn (c := 1) (ls' := [_, _, _, _, _]) rfl rfl (by decide) rfl ?_
              refine aw rfl rfl ?_
              exact ihz (upd y z (pt z)) (fun s hs => by
                by_cases e : s = z
                · subst e; exact upd_at
                · exact (upd_ne e).trans (hIz s (by omega)))
            · skip
              refine aw rfl rfl ?_
              refine aw_c (v := nI 9409) rfl (by decide) ?_
              refine aw_ige rfl (fun _ => ?_) (fun c => absurd (by decide) c)
              refine aw_inc (c := -1) (ls' := [_, _, _, _, _]) rfl rfl (by decide) rfl ?_
              refine aw rfl rfl ?_
              have ihm := ihm (v, pl, br, lo, y, pt, cm, some (.int (nI 9409))) (fun a b ha hb => (hIz _ (by have := lone_lt ha; have := lone_lt hb; omega)).trans (hpt a b ha hb (by have := lone_lt ha; have := lone_lt hb; omega)))
              rw [show 2 * n - (m + 1) = (2 * n - 1 - m) by omega] at ihm
              exact ihm
        · skip
          obtain ⟨v, pl, br, lo, pr, pt, cm, l4⟩ := y
          dsimp only at hI ⊢
          rw [show nI (2 * n - 2 * n) + -1 = (-1 : Int32) by rw [Nat.sub_self]; decide]
          obtain ⟨fa, fe, ff, f0, f1, f2, f3, f4, f5, f6⟩ := gfr
          have f96 := f6.1
          have hle := PF_le (LW := lwf W) (N := 2 * n) (t := S 4 * T.1 5) hG0 (2 * n) (S 0 * 3 + S 1) ((fe * 8 + fa) * 3 + ff)
          have hfl : frL T = (fe * 8 + fa) * 3 + ff := by unfold frL; rw [f0, f1, f2, nI_clamp (by omega), nI_clamp (by omega), nI_clamp (by omega)]
          rw [hfl] at q
          refine aw rfl rfl ?_
          refine aw_lt rfl (fun _ => ?_) (fun c => absurd (by decide) c)
          refine aw rfl rfl ?_
          refine aw_getf rfl mg_121 rfl ?_
          refine aw_c (v := nI 0) rfl (by decide) ?_
          refine aw_ialdE rfl mg_157 rfl (by omega) (by decide) n0 ?_
          refine aw rfl rfl ?_
          refine aw_getf rfl mg_121 rfl ?_
          refine aw_c (v := nI 1) rfl (by decide) ?_
          refine aw_ialdE rfl mg_157 rfl (by omega) (by decide) n1 ?_
          refine aw rfl rfl ?_
          refine aw_getf rfl mg_121 rfl ?_
          refine aw_c (v := nI 2) rfl (by decide) ?_
          refine aw_ialdE rfl mg_157 rfl (by omega) (by decide) n2 ?_
          refine aw_c (v := nI 0) rfl (by decide) ?_
          refine aw_cs (d1 := 0) (L1 := 0) rfl rfl (by decide) (by decide) (Nat.le_of_ble_eq_true rfl) (c_X11_numberOf ?_)
          refine aw_c (v := nI 4) rfl (by decide) ?_
          refine aw_divn rfl (by omega) (by omega) (by omega) ?_
          rw [show ((8 * (S 0 / 8) + S 0 % 8) * 3 + S 1) * 4 + 0 = 4 * (S 0 * 3 + S 1) by omega, show 4 * (S 0 * 3 + S 1) / 4 = S 0 * 3 + S 1 by omega]
          refine aw_ist (ls' := [_, _, _, _, _]) rfl rfl ?_
          refine aw rfl rfl ?_
          refine aw_getf rfl mg_121 rfl ?_
          refine aw_c (v := nI 3) rfl (by decide) ?_
          refine aw rfl rfl ?_
          refine aw_getfE rfl mg_121 rfl (congrArg Value.int m1) ?_
          refine aw_muln rfl ?_
          refine aw_ialdE rfl mg_141 rfl (by omega) (by decide) ((msp 0 (by decide)).2.trans f0) ?_
          refine aw rfl rfl ?_
          refine aw_getf rfl mg_121 rfl ?_
          refine aw_c (v := nI 3) rfl (by decide) ?_
          refine aw rfl rfl ?_
          refine aw_getfE rfl mg_121 rfl (congrArg Value.int m1) ?_
          refine aw_muln rfl ?_
          refine aw_c (v := nI 1) rfl (by decide) ?_
          refine aw_addn rfl ?_
          refine aw_ialdE rfl mg_141 rfl (by omega) (by decide) ((msp 1 (by decide)).2.trans f1) ?_
          refine aw rfl rfl ?_
          refine aw_getf rfl mg_121 rfl ?_
          refine aw_c (v := nI 3) rfl (by decide) ?_
          refine aw rfl rfl ?_
          refine aw_getfE rfl mg_121 rfl (congrArg Value.int m1) ?_
          refine aw_muln rfl ?_
          refine aw_c (v := nI 2) rfl (by decide) ?_
          refine aw_addn rfl ?_
          refine aw_ialdE rfl mg_141 rfl (by omega) (by decide) ((msp 2 (by decide)).2.trans f2) ?_
          refine aw_c (v := nI 0) rfl (by decide) ?_
          refine aw_cs (d1 := 0) (L1 := 0) rfl rfl (by decide) (by decide) (Nat.le_of_ble_eq_true rfl) (c_X11_numberOf ?_)
          refine aw_c (v := nI 4) rfl (by decide) ?_
          refine aw_divn rfl (by omega) (by omega) (by omega) ?_
          rw [show ((8 * fe + fa) * 3 + ff) * 4 + 0 = 4 * ((fe * 8 + fa) * 3 + ff) by omega, show 4 * ((fe * 8 + fa) * 3 + ff) / 4 = (fe * 8 + fa) * 3 + ff by omega]
          refine aw_ist (ls' := [_, _, _, _, _]) rfl rfl ?_
          refine aw rfl rfl ?_
          refine aw_getf rfl mg_121 rfl ?_
          refine aw_c (v := nI 97) rfl (by decide) ?_
          refine aw rfl rfl ?_
          refine aw_muln rfl ?_
          refine aw rfl rfl ?_
          refine aw_addn rfl ?_
          refine aw_ialdE rfl mg_162 rfl (by omega) (by decide) (hI _ _ (Or.inr s0) (Or.inr f6)) ?_
          refine aw_c (v := nI 2) rfl (by decide) ?_
          refine aw rfl rfl ?_
          refine aw_muln rfl ?_
          refine aw_cs (d1 := 0) (L1 := 0) rfl rfl (by decide) (by decide) (Nat.le_of_ble_eq_true rfl) (c_sixes (by omega) ?_)
          refine aw rfl rfl ?_
          refine aw_cs (d1 := 1) (L1 := 24) rfl rfl (by decide) (by decide) (Nat.le_of_ble_eq_true rfl) (c_X11_lineOf (by omega) h6p (by omega) ?_)
          exact aw_iret rfl rfl (q _ _ _ _ _ _ _)
  · refine aw_ne rfl (fun c => absurd (by decide) c) (fun _ => ?_)
    refine aw_c (v := -1) rfl (by decide) ?_
    exact aw_iret rfl rfl (by rw [sp_out p] at q; exact q _ _ _ _ _ _ _)
end M1
