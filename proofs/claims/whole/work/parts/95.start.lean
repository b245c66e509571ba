/-! ===== the start: what holds at the law's entry ===== -/
theorem over_A {args : Array Value} {s : State} {t : FieldType} (h : (Cond.arrayOver (.array t)).before args s = true) : ∃ (comp c : ClassId) (k : Class), s.vm.findClass (FieldType.array t).toString = some comp ∧ s.vm.classes[c]? = some k ∧ k.kind = .array comp (.array t) ∧ s.vm.findClass ("[" ++ (FieldType.array t).toString) = some c := by
  simp only [Cond.before, Cond.holds, Cond.value, beq_iff_eq] at h
  cases hc : s.vm.findClass (FieldType.array t).toString with
  | none => simp [hc] at h
  | some comp =>
    simp only [hc, Option.bind_some, Option.bind_eq_some_iff, Option.map_eq_some_iff] at h
    obtain ⟨c, hi, k, hk, hb⟩ := h
    obtain ⟨hlt, hp, _⟩ := Array.findIdx?_eq_some_iff_getElem.mp hi
    have hkk : s.vm.classes[c] = k := (Array.getElem?_eq_some_iff.mp hk).2
    rw [hkk] at hp
    cases hkind : k.kind with
    | array component ty =>
      rw [hkind] at hb hp
      simp at hb hp
      exact ⟨comp, c, k, rfl, hk, by rw [hkind, hp, hb.1], hb.2⟩
    | _ => rw [hkind] at hb; simp at hb
def st_ad (b t z : Nat) (K V : Nat → Nat) (n : Nat) : Nat := if n = 0 then b else if n = 1 then t else if n < 5 then K (n - 2) else if n < 8 then V (n - 5) else z + (n - 8)
theorem st_K {b t z : Nat} {K V : Nat → Nat} {i : Nat} (hi : i < 3) : st_ad b t z K V (i + 2) = K i := by
  unfold st_ad
  rw [if_neg (by omega), if_neg (by omega), if_pos (by omega), Nat.add_sub_cancel]
theorem st_V {b t z : Nat} {K V : Nat → Nat} {i : Nat} (hi : i < 3) : st_ad b t z K V (i + 5) = V i := by
  unfold st_ad
  rw [if_neg (by omega), if_neg (by omega), if_neg (by omega), if_pos (by omega), Nat.add_sub_cancel]
theorem st_8 {b t z : Nat} {K V : Nat → Nat} {i : Nat} (hi : 8 ≤ i) : st_ad b t z K V i = z + (i - 8) := by
  unfold st_ad
  rw [if_neg (by omega), if_neg (by omega), if_neg (by omega), if_neg (by omega)]
def st_tm (i : Nat) : Term := if i = 0 then .string "StoneHome$Tokens" 84 else if i = 1 then .string "StoneHome$Tokens" 73 else .string "StoneHome$Reader" 139
abbrev st_F : List Cond := flatC (Jvm.Cond.and given_1 narrow_1)
abbrev st_6 : Term := .static "StoneHome" "SIXES" "[I"
def st_sx (j : Nat) : Cond := Cond.eq (.elem st_6 (.int (Int32.ofNat j))) (.int (am_sl.getD j 0))
def st_e (i j : Nat) : Cond := Cond.eq (.elem (.field (st_tm i) "java/lang/String" "value" "[B") (.int (Int32.ofNat j))) (.int ((am_by.getD i []).getD j 0))
def st_h (i : Nat) : List Cond := [Cond.exactly (st_tm i) "java/lang/String", Cond.eq (.field (st_tm i) "java/lang/String" "coder" "B") (.int 0), Cond.arrayOf (.field (st_tm i) "java/lang/String" "value" "[B") .byte, Cond.eq (.length (.field (st_tm i) "java/lang/String" "value" "[B")) (.int (Int32.ofNat ([123, 9, 7].getD i 0)))]
def st_n (i j : Nat) : Cond := Cond.not (Cond.eq (st_tm i) (st_tm j))
def st_a : List Cond := [Cond.count 1, Cond.isRef (.arg 0), Cond.arrayOf (.arg 0) .int, Cond.le (.length (.arg 0)) (.int 3072), Cond.eq (.static "java/lang/String" "COMPACT_STRINGS" "Z") (.int 1), Cond.isRef (.static "jdk/internal/util/Preconditions" "SIOOBE_FORMATTER" "Ljava/util/function/BiFunction;"), Cond.eq (.static "java/lang/StringUTF16" "$assertionsDisabled" "Z") (.int 1), Cond.eq (.static "java/lang/StringUTF16" "HI_BYTE_SHIFT" "I") (.int 0), Cond.eq (.static "java/lang/StringUTF16" "LO_BYTE_SHIFT" "I") (.int 8), Cond.isRef st_6, Cond.arrayOf st_6 .int, Cond.eq (.length st_6) (.int (Int32.ofNat 11))]
/-- what is given of the start, in order -/
def st_L : List Cond := st_a ++ ((List.range 11).map st_sx ++ (st_h 0 ++ ((List.range 123).map (st_e 0) ++ (st_h 1 ++ ((List.range 9).map (st_e 1) ++ ([st_n 0 1] ++ (st_h 2 ++ ((List.range 7).map (st_e 2) ++ [st_n 0 2, st_n 1 2, Cond.not (Cond.eq (.arg 0) st_6)]))))))))
set_option maxRecDepth 20000 in
theorem st_FL : st_F = st_L := by rfl
section ST
theorem st_six : ∀ j, j < 11 → st_sx j ∈ st_F := fun j hj => by
  rw [st_FL]
  exact List.mem_append_right _ (List.mem_append_left _ (List.mem_map_of_mem (List.mem_range.mpr hj)))
theorem st_sl : Cond.arrayOf st_6 .int ∈ st_F ∧ Cond.eq (.length st_6) (.int (Int32.ofNat 11)) ∈ st_F ∧ Cond.eq (.static "java/lang/String" "COMPACT_STRINGS" "Z") (.int 1) ∈ st_F ∧ Cond.isRef (.static "jdk/internal/util/Preconditions" "SIOOBE_FORMATTER" "Ljava/util/function/BiFunction;") ∈ st_F := by
  rw [st_FL]
  have h : ∀ i w, st_a[i]? = some w → w ∈ st_L := fun i w h => List.mem_append_left _ (List.mem_of_getElem? h)
  exact ⟨h 10 _ rfl, h 11 _ rfl, h 4 _ rfl, h 5 _ rfl⟩
theorem st_hh : ∀ i, i < 3 → ∀ w ∈ st_h i, w ∈ st_F := fun i hi w hw => by
  rw [st_FL]
  have e : i = 0 ∨ i = 1 ∨ i = 2 := by omega
  rcases e with rfl | rfl | rfl
  · exact List.mem_append_right _ (List.mem_append_right _ (List.mem_append_left _ hw))
  · exact List.mem_append_right _ (List.mem_append_right _ (List.mem_append_right _ (List.mem_append_right _ (List.mem_append_left _ hw))))
  · exact List.mem_append_right _ (List.mem_append_right _ (List.mem_append_right _ (List.mem_append_right _ (List.mem_append_right _ (List.mem_append_right _ (List.mem_append_right _ (List.mem_append_left _ hw)))))))
theorem st_ex : ∀ i, i < 3 → Cond.exactly (st_tm i) "java/lang/String" ∈ st_F ∧ Cond.eq (.field (st_tm i) "java/lang/String" "coder" "B") (.int 0) ∈ st_F ∧ Cond.arrayOf (.field (st_tm i) "java/lang/String" "value" "[B") .byte ∈ st_F ∧ Cond.eq (.length (.field (st_tm i) "java/lang/String" "value" "[B")) (.int (Int32.ofNat ([123, 9, 7].getD i 0))) ∈ st_F := fun i hi => by
  have h : ∀ k w, (st_h i)[k]? = some w → w ∈ st_F := fun k w h => st_hh i hi w (List.mem_of_getElem? h)
  exact ⟨h 0 _ rfl, h 1 _ rfl, h 2 _ rfl, h 3 _ rfl⟩
theorem st_el : ∀ i, i < 3 → ∀ j, j < [123, 9, 7].getD i 0 → st_e i j ∈ st_F := fun i hi j hj => by
  rw [st_FL]
  have e : i = 0 ∨ i = 1 ∨ i = 2 := by omega
  rcases e with rfl | rfl | rfl
  · exact List.mem_append_right _ (List.mem_append_right _ (List.mem_append_right _ (List.mem_append_left _ (List.mem_map_of_mem (List.mem_range.mpr hj)))))
  · exact List.mem_append_right _ (List.mem_append_right _ (List.mem_append_right _ (List.mem_append_right _ (List.mem_append_right _ (List.mem_append_left _ (List.mem_map_of_mem (List.mem_range.mpr hj)))))))
  · exact List.mem_append_right _ (List.mem_append_right _ (List.mem_append_right _ (List.mem_append_right _ (List.mem_append_right _ (List.mem_append_right _ (List.mem_append_right _ (List.mem_append_right _ (List.mem_append_left _ (List.mem_map_of_mem (List.mem_range.mpr hj))))))))))
theorem st_nn : st_n 0 1 ∈ st_F ∧ st_n 0 2 ∈ st_F ∧ st_n 1 2 ∈ st_F := by
  rw [st_FL]
  have h : ∀ w ∈ [st_n 0 2, st_n 1 2, Cond.not (Cond.eq (.arg 0) st_6)], w ∈ st_L := fun w hw => List.mem_append_right _ (List.mem_append_right _ (List.mem_append_right _ (List.mem_append_right _ (List.mem_append_right _ (List.mem_append_right _ (List.mem_append_right _ (List.mem_append_right _ (List.mem_append_right _ hw))))))))
  refine ⟨List.mem_append_right _ (List.mem_append_right _ (List.mem_append_right _ (List.mem_append_right _ (List.mem_append_right _ (List.mem_append_right _ (List.mem_append_left _ (List.mem_singleton.mpr rfl))))))), h _ (List.mem_cons_self ..), h _ (List.mem_cons_of_mem _ (List.mem_cons_self ..))⟩
theorem st_ne : ∀ i, i < 3 → ∀ j, j < 3 → i ≠ j → Cond.not (Cond.eq (st_tm i) (st_tm j)) ∈ st_F ∨ Cond.not (Cond.eq (st_tm j) (st_tm i)) ∈ st_F := fun i hi j hj hij => by
  obtain ⟨h1, h2, h3⟩ := st_nn
  have ei : i = 0 ∨ i = 1 ∨ i = 2 := by omega
  have ej : j = 0 ∨ j = 1 ∨ j = 2 := by omega
  rcases ei with rfl | rfl | rfl <;> rcases ej with rfl | rfl | rfl
  · exact absurd rfl hij
  · exact Or.inl h1
  · exact Or.inl h2
  · exact Or.inr h1
  · exact absurd rfl hij
  · exact Or.inl h3
  · exact Or.inr h2
  · exact Or.inr h3
  · exact absurd rfl hij
end ST
theorem st_in : ∀ k, k < 12 → Cond.instantiable (am_cn k) (am_nf k) ∈ lw_tbl := fun k hk => by
  rcases (show k = 0 ∨ k = 1 ∨ k = 2 ∨ k = 3 ∨ k = 4 ∨ k = 5 ∨ k = 6 ∨ k = 7 ∨ k = 8 ∨ k = 9 ∨ k = 10 ∨ k = 11 by omega) with h | h | h | h | h | h | h | h | h | h | h | h <;> subst h
  · exact List.mem_of_getElem? (i := 441) (by decide +kernel)
  · exact List.mem_of_getElem? (i := 156) (by decide +kernel)
  · exact List.mem_of_getElem? (i := 386) (by decide +kernel)
  · exact List.mem_of_getElem? (i := 475) (by decide +kernel)
  · exact List.mem_of_getElem? (i := 269) (by decide +kernel)
  · exact List.mem_of_getElem? (i := 500) (by decide +kernel)
  · exact List.mem_of_getElem? (i := 347) (by decide +kernel)
  · exact List.mem_of_getElem? (i := 150) (by decide +kernel)
  · exact List.mem_of_getElem? (i := 406) (by decide +kernel)
  · exact List.mem_of_getElem? (i := 275) (by decide +kernel)
  · exact List.mem_of_getElem? (i := 142) (by decide +kernel)
  · exact List.mem_of_getElem? (i := 1432) (by decide +kernel)
theorem st_ns : ∀ w ∈ am_Ns, w ∈ lw_tbl ∧ w.onTables = true := List.forall_mem_cons.mpr ⟨⟨List.mem_of_getElem? (i := 151) (by decide +kernel), rfl⟩, List.forall_mem_cons.mpr ⟨⟨List.mem_of_getElem? (i := 157) (by decide +kernel), rfl⟩, List.forall_mem_cons.mpr ⟨⟨List.mem_of_getElem? (i := 348) (by decide +kernel), rfl⟩, List.forall_mem_cons.mpr ⟨⟨List.mem_of_getElem? (i := 393) (by decide +kernel), rfl⟩, List.forall_mem_cons.mpr ⟨⟨List.mem_of_getElem? (i := 501) (by decide +kernel), rfl⟩, List.forall_mem_cons.mpr ⟨⟨List.mem_of_getElem? (i := 556) (by decide +kernel), rfl⟩, List.forall_mem_cons.mpr ⟨⟨List.mem_of_getElem? (i := 559) (by decide +kernel), rfl⟩, List.forall_mem_cons.mpr ⟨⟨List.mem_of_getElem? (i := 996) (by decide +kernel), rfl⟩, List.forall_mem_cons.mpr ⟨⟨List.mem_of_getElem? (i := 997) (by decide +kernel), rfl⟩, List.forall_mem_cons.mpr ⟨⟨List.mem_of_getElem? (i := 1074) (by decide +kernel), rfl⟩, List.forall_mem_cons.mpr ⟨⟨List.mem_of_getElem? (i := 1080) (by decide +kernel), rfl⟩, List.forall_mem_cons.mpr ⟨⟨List.mem_of_getElem? (i := 1201) (by decide +kernel), rfl⟩, List.forall_mem_cons.mpr ⟨⟨List.mem_of_getElem? (i := 1318) (by decide +kernel), rfl⟩, List.forall_mem_cons.mpr ⟨⟨List.mem_of_getElem? (i := 1378) (by decide +kernel), rfl⟩, fun _ h => absurd h List.not_mem_nil⟩⟩⟩⟩⟩⟩⟩⟩⟩⟩⟩⟩⟩⟩
theorem st_aw : Cond.arrayClass .int ∈ lw_tbl ∧ Cond.arrayClass .byte ∈ lw_tbl ∧ Cond.arrayClass .boolean ∈ lw_tbl ∧ Cond.arrayClass .long ∈ lw_tbl ∧ Cond.arrayOver (.object RX6) ∈ lw_tbl ∧ Cond.arrayOver (.array .int) ∈ lw_tbl := ⟨List.mem_of_getElem? (i := 187) (by decide +kernel), List.mem_of_getElem? (i := 186) (by decide +kernel), List.mem_of_getElem? (i := 1666) (by decide +kernel), List.mem_of_getElem? (i := 308) (by decide +kernel), List.mem_of_getElem? (i := 392) (by decide +kernel), List.mem_of_getElem? (i := 412) (by decide +kernel)⟩
theorem st_sw : Cond.laysStatic "StoneHome" "SIXES" "[I" ∈ lw_tbl ∧ Cond.initialized "StoneHome" ∈ lw_tbl ∧ Cond.laysStatic "java/lang/String" "COMPACT_STRINGS" "Z" ∈ lw_tbl ∧ Cond.initialized "java/lang/String" ∈ lw_tbl ∧ Cond.laysStatic "jdk/internal/util/Preconditions" "SIOOBE_FORMATTER" "Ljava/util/function/BiFunction;" ∈ lw_tbl ∧ Cond.initialized "jdk/internal/util/Preconditions" ∈ lw_tbl := ⟨List.mem_of_getElem? (i := 1205) (by decide +kernel), List.mem_of_getElem? (i := 121) (by decide +kernel), List.mem_of_getElem? (i := 703) (by decide +kernel), List.mem_of_getElem? (i := 135) (by decide +kernel), List.mem_of_getElem? (i := 719) (by decide +kernel), List.mem_of_getElem? (i := 137) (by decide +kernel)⟩
theorem st_rw : Cond.stringRef RX9 84 (am_tx 0) ∈ lw_tbl ∧ Cond.stringRef RX9 73 (am_tx 1) ∈ lw_tbl ∧ Cond.stringRef RX4 139 (am_tx 2) ∈ lw_tbl := ⟨List.mem_of_getElem? (i := 693) (by decide +kernel), List.mem_of_getElem? (i := 749) (by decide +kernel), List.mem_of_getElem? (i := 825) (by decide +kernel)⟩
/-- the classes, the array classes, what never changes -/
theorem st_K0 {s : State} {b L : Nat} {xs : Nat → Int32} (hts : ∀ w ∈ lw_tbl, w.before #[Value.ref b] s = true) (hX : va_X b L xs s s.heap) (hbl : b < s.heap.size) (hgv : (Jvm.Cond.and given_1 narrow_1).before #[Value.ref b] s = true) : ∃ (D : va_G) (ad dA : Nat → Nat), am_K D ad dA L xs s ∧ ad 0 = b ∧ ∀ i, 8 ≤ i → ad i = s.heap.size + (i - 8) := by
  have hs := flat_of_before _ hgv
  have hA : ∀ a : Nat, a < s.heap.size → ¬ (fun q : Nat => s.heap.size ≤ q) a := fun a h => Nat.not_le.mpr h
  have hT : ∀ w ∈ am_Ts, w.before #[Value.ref b] s = true := fun w hw => hts w (List.mem_filter.mp hw).1
  have hk : ∀ k : Nat, ∃ q : ClassId × (Nat → Nat), k < 12 → u_Kn s (am_cn k) (am_tb k) (am_nf k) q.1 q.2 := by
    intro k
    by_cases hk : k < 12
    · obtain ⟨cC, iS, h⟩ := u_known hT (am_okU k hk) (hts _ (st_in k hk))
      exact ⟨(cC, iS), fun _ => h⟩
    · exact ⟨(0, fun _ => 0), fun h => absurd h hk⟩
  obtain ⟨D0, hD0⟩ := Classical.axiomOfChoice hk
  obtain ⟨w0, w1, w2, w3, w4, w5⟩ := st_aw
  obtain ⟨c0, k0, p0, a0, a1, a2⟩ := Cond.arrayClass_spec (hts _ w0)
  obtain ⟨c1, k1, p1, b0, b1, b2⟩ := Cond.arrayClass_spec (hts _ w1)
  obtain ⟨c2, k2, p2, d0, d1, d2⟩ := Cond.arrayClass_spec (hts _ w2)
  obtain ⟨c3, k3, p3, e0, e1, e2⟩ := Cond.arrayClass_spec (hts _ w3)
  obtain ⟨p4, c4, k4, f0, f1, f2, f3, f4⟩ := Cond.arrayOver_spec (hts _ w4)
  obtain ⟨p5, c5, k5, g0, g1, g2, g3⟩ := over_A (hts _ w5)
  have ep : p5 = c0 := Option.some.inj (g0.symm.trans a0)
  obtain ⟨m1, m2, m3, m4⟩ := st_sl
  obtain ⟨t, ht, hTt⟩ := va_Tof (tm := st_6) (ty := .int) (N := 11) (f := fun j => .int (am_sl.getD j 0)) (A := fun q : Nat => s.heap.size ≤ q) (by decide) (hs _ m1) (va_eqt (hs _ m2)) (fun j hj => va_eqt (hs _ (st_six j hj))) hA
  obtain ⟨sK, sV, hSS, hKe⟩ := vk_Sof (args := #[Value.ref b]) (s := s) (N := 3) (tm := st_tm) (len := [123, 9, 7]) (byt := am_by) (A := fun q : Nat => s.heap.size ≤ q) (by decide) (fun i hi => hs _ (st_ex i hi).1) (fun i hi => hs _ (st_ex i hi).2.1) (fun i hi => hs _ (st_ex i hi).2.2.1) (fun i hi => hs _ (st_ex i hi).2.2.2) (fun i hi j hj => hs _ (st_el i hi j hj)) (fun i j hi hj hij => (st_ne i hi j hj hij).elim (fun z => Or.inl (hs _ z)) (fun z => Or.inr (hs _ z))) hA
  obtain ⟨n1, n2, n3, n4, n5, n6⟩ := st_sw
  obtain ⟨r0, r1, r2⟩ := st_rw
  refine ⟨(fun k => (D0 k).1, fun k => (D0 k).2), st_ad b t s.heap.size sK sV, fun j => if j = 0 then c0 else if j = 1 then c1 else if j = 2 then c2 else if j = 3 then c3 else if j = 4 then c4 else c5, ⟨⟨fun c q hq => ?_, fun k q hq => ?_⟩, ⟨⟨k5, g1, by rw [g2, ep]; rfl⟩, va_AO.of (hts _ w4), hts _ w5, fun w hw => va_Nw.of (st_ns w hw).2 (hts w (st_ns w hw).1)⟩, ⟨hX, Nat.not_le.mpr hbl, va_Zof (hts _ n1) (hts _ n2) ht hA, hTt, va_Zof (hts _ n3) (hts _ n4) (va_eqi (hs _ m3)) hA, vk_R.of (hts _ r0) (hKe 0 (by decide)), vk_R.of (hts _ r1) (hKe 1 (by decide)), vk_R.of (hts _ r2) (hKe 2 (by decide)), ⟨fun i hi => ?_, fun i j hi hj e => ?_⟩, va_Zqof (hts _ n5) (hts _ n6) (hs _ m4) hA⟩, Nat.le_refl _, fun i hi => ?_⟩, rfl, fun i hi => st_8 hi⟩
  · by_cases hc : c < 12
    · rw [am_clAt c hc] at hq
      cases hq
      exact hD0 c hc
    · rw [List.getElem?_eq_none (by show 12 ≤ c; omega)] at hq
      cases hq
  · match k, hq with
    | 0, hq => cases hq; exact ⟨fun n z => ⟨fun k h => (by cases h), k0, a1, p0, a2⟩, a0⟩
    | 1, hq => cases hq; exact ⟨fun n z => ⟨fun k h => (by cases h), k1, b1, p1, b2⟩, b0⟩
    | 2, hq => cases hq; exact ⟨fun n z => ⟨fun k h => (by cases h), k2, d1, p2, d2⟩, d0⟩
    | 3, hq => cases hq; exact ⟨fun n z => ⟨fun k h => (by cases h), k3, e1, p3, e2⟩, e0⟩
    | 4, hq => cases hq; exact ⟨fun n z => ⟨fun k h => (by cases h), k4, f2, p4, f3⟩, ⟨k4, p4, f2, f3, f0, f4⟩⟩
    | 5, hq => cases hq; exact ⟨fun n z => ⟨fun k h => (by cases h), k5, g1, p5, g2⟩, g3⟩
    | k + 6, hq => simp [am_ty] at hq
  · show va_O "java/lang/String" (st_ad b t s.heap.size sK sV (i + 2)) _ s s.heap ∧ va_OF "java/lang/String" "coder" "B" (.int 0) (st_ad b t s.heap.size sK sV (i + 2)) _ s s.heap ∧ va_OF "java/lang/String" "value" "[B" (.ref (st_ad b t s.heap.size sK sV (i + 5))) (st_ad b t s.heap.size sK sV (i + 2)) _ s s.heap ∧ va_T .byte (st_ad b t s.heap.size sK sV (i + 5)) _ _ _ s s.heap
    rw [st_K hi, st_V hi]
    exact hSS.1 i hi
  · have e : st_ad b t s.heap.size sK sV (i + 2) = st_ad b t s.heap.size sK sV (j + 2) := e
    rw [st_K hi, st_K hj] at e
    exact hSS.2 i j hi hj e
  · rw [st_8 (by omega), st_8 hi]
    omega
