/-! ===== the JVM does what the abstract machine says: the instructions that look at the heap or at the tables ===== -/
section AMQ
variable {p : Program} {l : Launch} {e : Env} {R : Room} {s : State} {m : MethodId} {args : Array Value} {below : List Frame} {meth : Method} {c : Code} {H H1 : Heap} {locs locs1 : List Loc} {cells slots : Nat} {Q : State → Prop}
variable {D : va_G} {ad dA : Nat → Nat} {Ls : Nat} {xs : Nat → Int32} {h : am_H} {P : Nat → am_M} {yN : Nat → MethodName} {cN : Nat → ByteArray} {Ts : List Cond} {NM M pc nx a b d L ret nL : Nat} {ls : List (Option Value)} {lsr : Array Slot} {st : List Value} {S' : am_S}
theorem am_lt8 {q : Nat} (h : q < 8) : q = 0 ∨ q = 1 ∨ q = 2 ∨ q = 3 ∨ q = 4 ∨ q = 5 ∨ q = 6 ∨ q = 7 := by omega
theorem am_loc (g : am_G D ad dA Ls xs s.heap H h locs) (q : Nat) : (q < 8 ∧ h.2.2 q = am_im Ls xs q) ∨ (8 ≤ q ∧ q < h.1 ∧ (am_W ad dA h)[q - 8]? = some (ad q, am_e ad dA (h.2.2 q))) ∨ h.2.2 q = am_nil := by
  obtain ⟨g1, g2, g3, g4, g5, g6, g7⟩ := g
  by_cases h8 : q < 8
  · exact Or.inl ⟨h8, g7 q h8⟩
  · by_cases hq : q < h.1
    · exact Or.inr (Or.inl ⟨by omega, hq, am_W_at (by omega) hq⟩)
    · exact Or.inr (Or.inr (g6 q (by omega)))
theorem am_goU {q pc' : Nat} {x : am_C} {ls' : List (Option Value)} {lsr' : Array Slot} {st' : List Value} (kk : am_KK p l e R s m args below meth c cells slots Q D ad dA Ls xs nL h (pc', ls', st', am_up h q x)) (g : am_G D ad dA Ls xs s.heap H h locs) (hl : am_LN ad ls' lsr' nL) (hz : H.size = s.heap.size + cells) (h8 : 8 ≤ q) (hq : q < h.1)
    (hP : va_P D am_cl ((am_W ad dA h).set (q - 8) (ad q, am_e ad dA x)) H1) (hD : va_D (am_A ad) ((am_W ad dA h).set (q - 8) (ad q, am_e ad dA x))) (hS : va_S (am_A ad) H H1 locs1) : W p l e R s m args below meth c H1 locs1 cells slots Q (F0 m pc' lsr' (st'.map (am_v ad))) := by
  refine am_sz fun hz1 => ?_
  have h1 := hS.1
  have := kk H1 locs1 lsr' (am_G_up g h8 hq (by omega) hP hD hS) hl (by show H1.size = s.heap.size + (cells + (h.1 - h.1)); rw [Nat.sub_self]; omega)
  simpa only [am_up, Nat.sub_self, Nat.add_zero] using this
theorem am_goN {k pc' : Nat} {x : am_C} {ls' : List (Option Value)} {lsr' : Array Slot} {st' : List Value} (kk : am_KK p l e R s m args below meth c cells slots Q D ad dA Ls xs nL h (pc', ls', .ref h.1 :: st', am_nw h k x)) (g : am_G D ad dA Ls xs s.heap H h locs) (hA : ∀ i, 8 ≤ i → ad (i + 1) = ad i + 1) (hl : am_LN ad ls' lsr' nL) (hz : H.size = s.heap.size + cells) (hz1 : H1.size = H.size + 1)
    (hx : va_at D am_cl (ad h.1, am_e ad dA x) H1) (ho : ∀ q : Nat, q < H.size → H1[q]? = H[q]?) : W p l e R s m args below meth c H1 locs (cells + 1) (slots + k) Q (F0 m pc' lsr' (.ref H.size :: st'.map (am_v ad))) := by
  have := kk H1 locs lsr' (am_G_nw g hA hz1 hx ho) hl (by show H1.size = s.heap.size + (cells + (h.1 + 1 - h.1)); rw [Nat.add_sub_cancel_left]; omega)
  rw [← g.2.2.2.2.1]
  simp only [am_nw, Nat.add_sub_cancel_left] at this
  exact this
theorem am_rf (f : Nat → Option Nat) (j : Nat) : am_v ad (va_rf (f j)) = va_rf ((f j).map ad) := by
  cases f j <;> rfl
/-- an array's class by its kind -/
theorem am_cls {k : Nat} {ty : FieldType} (hK : va_K D am_cl (am_ty dA) s) (hk : (am_ty dA)[k]? = some (dA k, ty)) (hty : ∀ C, ty ≠ .object C) {cA : ClassId} (h : s.vm.findClass ("[" ++ ty.toString) = some cA) : cA = dA k := by
  have h2 := (hK.2 k _ hk).2
  cases ty <;> first | exact absurd rfl (hty _) | exact Option.some.inj (h.symm.trans h2)
theorem am_df_v (ad : Nat → Nat) (a j : Nat) (hj : j < am_nf a) : defaultValue (am_ft a j) = vp_V ((am_df a).map (am_v ad)) j := by
  unfold vp_V am_df
  rw [List.map_map, List.getD_eq_getElem?_getD, List.getElem?_map, List.getElem?_range hj]
  show _ = am_v ad (defaultValue (am_ft a j))
  cases am_ft a j <;> rfl
theorem am_asg (vm : Vm) (cA : ClassId) : vm.assignable cA cA = true := by
  show vm.assignableAux 256 cA cA = true
  unfold Vm.assignableAux
  simp
theorem am_up_map (f : Nat → Option Nat) (k w : Nat) : va_up (fun j => (f j).map ad) k (some (ad w)) = fun j => (va_up f k (some w) j).map ad := by
  funext j
  by_cases hj : j = k
  · simp [va_up, hj]
  · simp [va_up, hj]
/-- the heap's reads and writes, the tables' values -/
theorem am_sd2 (hG : ∀ w ∈ Ts, goodWord w = true) (X : am_X P yN cN Ts p s m args meth c M) (hml : nL = (P M).2.1) (hK : am_K D ad dA Ls xs s) (hU : ∀ k, k < 12 → ∀ w ∈ u_ws (am_cn k) (am_tb k) (am_nf k), w ∈ Ts) {i : Instr} (hd : ∃ len, decode (cN M) pc = .ok (i, len) ∧ ((∃ d lo hi os, i = .tableswitch d lo hi os) ∨ (len = am_len i ∧ nx = pc + len))) (hE : am_Ei P yN NM Ts (am_cn (P M).1) (yN M).name (P M).2.1 i pc a b)
    (g : am_G D ad dA Ls xs s.heap H h locs) (hl : am_LN ad ls lsr nL) (hz : H.size = s.heap.size + cells) (kk : am_KK p l e R s m args below meth c cells slots Q D ad dA Ls xs nL h S') (hs : am_do P d L ret i pc nx a b ls st h = some (.inl S'))
    (hRf : d ≤ R.frames) (hRl : L ≤ R.locals) (hRc : cells + (S'.2.2.2.1 - h.1) ≤ R.cells) (hRs : slots + (S'.2.2.2.2.1 - h.2.1) ≤ R.slots) (hh : am_hp i = true) :
    W p l e R s m args below meth c H locs cells slots Q (F0 m pc lsr (st.map (am_v ad))) := by
  obtain ⟨hx, hb, hml2, hown, hts, hr, hlocks, hnm⟩ := X
  have hK0 := hK
  obtain ⟨hKa, hK5, hZ, h8s, hA⟩ := hK
  obtain ⟨z1, z2, z3, z4, z5, z6, z7, z8, z9, z10⟩ := hZ
  obtain ⟨len, hd, hlen⟩ := hd
  have hS := g.2.2.1
  have hSs := am_S_self hS
  cases i
  all_goals first | (exact Bool.noConfusion hh) | skip
  all_goals (have hl1 := hlen.resolve_left (by rintro ⟨_, _, _, _, hq⟩; cases hq); have hl2 := hl1.1; have hl3 := hl1.2; clear hl1 hlen; subst hl2; subst hl3)
  case iaload =>
    have hs0 := am_ri_inv hs; clear hs; obtain ⟨q, j, r, hst, hs⟩ := hs0; subst hst
    have hs0 := am_cA_inv hs; clear hs; obtain ⟨n, f, hc, hs⟩ := hs0
    have hs0 := am_ix_inv hs; clear hs; obtain ⟨hin, hs⟩ := hs0
    cases hs
    rcases am_loc g q with ⟨h8, hq⟩ | ⟨h8, hlt, hq⟩ | hq
    · rw [hc] at hq
      rcases (am_lt8 h8) with e | e | e | e | e | e | e | e <;> subst e <;> first | (cases hq; done) | skip
      · cases hq
        exact va_sld hx hb z1 (by obtain ⟨scr, h1, -⟩ := z1; exact (Array.getElem?_eq_some_iff.mp h1).1) z2 hS hin hd (am_go kk g hl hz)
      · cases hq
        exact va_ti hx hb z4 hS hin rfl hd (am_go kk g hl hz)
    · rw [hc] at hq
      exact va_iald hx hb hKa g.1 (q - 8) 0 hq rfl hin hd (am_go kk g hl hz)
    · rw [hc] at hq; cases hq
  case baload =>
    have hs0 := am_ri_inv hs; clear hs; obtain ⟨q, j, r, hst, hs⟩ := hs0; subst hst
    have hs0 := am_cA_inv hs; clear hs; obtain ⟨n, f, hc, hs⟩ := hs0
    have hs0 := am_ix_inv hs; clear hs; obtain ⟨hin, hs⟩ := hs0
    cases hs
    rcases am_loc g q with ⟨h8, hq⟩ | ⟨h8, hlt, hq⟩ | hq
    · rw [hc] at hq
      rcases (am_lt8 h8) with e | e | e | e | e | e | e | e <;> subst e <;> rcases hE with hE | hE <;> subst hE <;> first | (cases hq; done) | skip
      · cases hq
        exact va_tb hx hb (z9.1 0 (by decide)).2.2.2 hS hin rfl hd (am_go kk g hl hz)
      · cases hq
        exact va_tb hx hb (z9.1 1 (by decide)).2.2.2 hS hin rfl hd (am_go kk g hl hz)
      · cases hq
        exact va_tb hx hb (z9.1 2 (by decide)).2.2.2 hS hin rfl hd (am_go kk g hl hz)
    · rw [hc] at hq
      rcases hE with hE | hE <;> subst hE
      · exact va_bald hx hb hKa g.1 (q - 8) 1 hq rfl hin hd (am_go kk g hl hz)
      · exact va_zald hx hb hKa g.1 (q - 8) 2 hq rfl hin hd (am_go kk g hl hz)
    · rw [hc] at hq; rcases hE with hE | hE <;> subst hE <;> cases hq
  case laload =>
    have hs0 := am_ri_inv hs; clear hs; obtain ⟨q, j, r, hst, hs⟩ := hs0; subst hst
    have hs0 := am_cL_inv hs; clear hs; obtain ⟨n, f, hc, hs⟩ := hs0
    have hs0 := am_ix_inv hs; clear hs; obtain ⟨hin, hs⟩ := hs0
    cases hs
    rcases am_loc g q with ⟨h8, hq⟩ | ⟨h8, hlt, hq⟩ | hq
    · rw [hc] at hq
      rcases (am_lt8 h8) with e | e | e | e | e | e | e | e <;> subst e <;> cases hq
    · rw [hc] at hq
      exact va_lald hx hb hKa g.1 (q - 8) 3 hq rfl hin hd (am_go kk g hl hz)
    · rw [hc] at hq; cases hq
  case aaload =>
    have hs0 := am_ri_inv hs; clear hs; obtain ⟨q, j, r, hst, hs⟩ := hs0; subst hst
    have hs0 := am_cQ_inv hs; clear hs; obtain ⟨t, n, f, hc, hs⟩ := hs0
    have hs0 := am_bif_inv hs; clear hs; obtain ⟨ht, hs⟩ := hs0
    have hs0 := am_ix_inv hs; clear hs; obtain ⟨hin, hs⟩ := hs0
    have ht := Nat.eq_of_beq_eq_true ht
    subst ht
    cases hs
    have kk2 := am_go kk g hl hz
    rw [List.map_cons, am_rf] at kk2
    rcases am_loc g q with ⟨h8, hq⟩ | ⟨h8, hlt, hq⟩ | hq
    · rw [hc] at hq
      rcases (am_lt8 h8) with e | e | e | e | e | e | e | e <;> subst e <;> cases hq
    · rw [hc] at hq
      rcases hE with hE | hE <;> subst hE
      · exact va_aldq (C := RX6) hx hb hKa g.1 (q - 8) 4 hq rfl hin hd kk2
      · have hlt : j.toNatClampNeg < n := Nat.not_le.mp fun q => hin (Or.inr q)
        exact W.aald (v := va_rf ((f j.toNatClampNeg).map ad)) (ty := .array .int) hx hb (g.1 (q - 8) _ hq) ((hKa.2 5 _ rfl).1 n (fun j => va_rf ((f j).map ad))) rfl (fun q => by cases q) (by show ¬ (j < 0 ∨ (arrV _ _ _).slots.size ≤ _); rw [arrV_size]; exact hin) (by show (arrV _ _ _).slots[_]? = _; rw [arrV_read _ _ hlt]) rfl rfl hd kk2
    · rw [hc] at hq; cases hq
  case arraylength =>
    have hs0 := am_r1_inv hs; clear hs; obtain ⟨q, r, hst, hs⟩ := hs0; subst hst
    split at hs
    · rename_i t n f hc
      have hs0 := am_bif_inv hs; clear hs; obtain ⟨ht, hs⟩ := hs0
      cases hs
      rcases am_loc g q with ⟨h8, hq⟩ | ⟨h8, hlt, hq⟩ | hq
      · rw [hc] at hq
        rcases (am_lt8 h8) with e | e | e | e | e | e | e | e <;> subst e <;> first | (cases hq; done) | skip
        · cases hq
          exact va_slen hx hb z1 (by obtain ⟨scr, h1, -⟩ := z1; exact (Array.getElem?_eq_some_iff.mp h1).1) z2 hS hd (am_go kk g hl hz)
        · cases hq
          exact va_tlen hx hb z4 hS rfl hd (am_go kk g hl hz)
        · cases hq
          exact va_tlen hx hb (z9.1 0 (by decide)).2.2.2 hS rfl hd (am_go kk g hl hz)
        · cases hq
          exact va_tlen hx hb (z9.1 1 (by decide)).2.2.2 hS rfl hd (am_go kk g hl hz)
        · cases hq
          exact va_tlen hx hb (z9.1 2 (by decide)).2.2.2 hS rfl hd (am_go kk g hl hz)
      · rw [hc] at hq
        have ht6 : t < 6 := Nat.lt_of_succ_le (Nat.le_of_ble_eq_true ht)
        have hty : ∃ ty, (am_ty dA)[t]? = some (dA t, ty) := by
          rcases (show t = 0 ∨ t = 1 ∨ t = 2 ∨ t = 3 ∨ t = 4 ∨ t = 5 by omega) with e | e | e | e | e | e <;> subst e <;> exact ⟨_, rfl⟩
        obtain ⟨ty, hty⟩ := hty
        rcases f with f | f | f
        · exact va_alen hx hb hKa g.1 (q - 8) t hq hty rfl hd (am_go kk g hl hz)
        · exact va_alen hx hb hKa g.1 (q - 8) t hq hty rfl hd (am_go kk g hl hz)
        · exact va_alen hx hb hKa g.1 (q - 8) t hq hty rfl hd (am_go kk g hl hz)
      · rw [hc] at hq; cases hq; cases ht
    · cases hs
  case getfield idx =>
    have hs0 := am_r1_inv hs; clear hs; obtain ⟨q, r, hst, hs⟩ := hs0; subst hst
    have hs0 := am_cO_inv hs; clear hs; obtain ⟨ci, fs, hc, hs⟩ := hs0
    have hs0 := am_bif_inv hs; clear hs; obtain ⟨hci, hs⟩ := hs0
    have hci := Nat.eq_of_beq_eq_true hci
    subst hci
    split at hs
    · rename_i v hv
      cases hs
      rcases am_loc g q with ⟨h8, hq⟩ | ⟨h8, hlt, hq⟩ | hq
      · rw [hc] at hq
        rcases (am_lt8 h8) with e | e | e | e | e | e | e | e <;> subst e <;> first | (cases hq; done) | skip
        all_goals cases hq
        all_goals (rcases hE with hE | ⟨-, hE⟩; · exact absurd hE.1 (by decide))
        all_goals (rcases hE with ⟨hb0, hlk⟩ | ⟨hb0, hlk⟩ <;> subst hb0 <;> cases hv)
        · exact vk_getf hx hb (z9.1 0 (by decide)).2.2.1 hS hown (hts _ hlk) (fun _ h => h) hd (am_go kk g hl hz)
        · exact vk_getf hx hb (z9.1 0 (by decide)).2.1 hS hown (hts _ hlk) (fun _ h => h) hd (am_go kk g hl hz)
        · exact vk_getf hx hb (z9.1 1 (by decide)).2.2.1 hS hown (hts _ hlk) (fun _ h => h) hd (am_go kk g hl hz)
        · exact vk_getf hx hb (z9.1 1 (by decide)).2.1 hS hown (hts _ hlk) (fun _ h => h) hd (am_go kk g hl hz)
        · exact vk_getf hx hb (z9.1 2 (by decide)).2.2.1 hS hown (hts _ hlk) (fun _ h => h) hd (am_go kk g hl hz)
        · exact vk_getf hx hb (z9.1 2 (by decide)).2.1 hS hown (hts _ hlk) (fun _ h => h) hd (am_go kk g hl hz)
      · rw [hc] at hq
        rcases hE with ⟨ha, hbn, hlk⟩ | ⟨ha, -⟩
        · exact va_get hx hb hts (hU _ ha) hown hKa g.1 (q - 8) hq (am_clAt _ ha) b hbn (hts _ hlk) (fun _ h => h) (v := am_v ad v) (by rw [List.getElem?_map, hv]; rfl) hd (am_go kk g hl hz)
        · exfalso
          subst ha
          obtain ⟨r0, hr0, -⟩ := g.1 (q - 8) _ hq
          cases hr0
      · rw [hc] at hq; cases hq
    · cases hs
  case getstatic idx =>
    rcases hE with ⟨ha, hlk⟩ | ⟨ha, hlk⟩ <;> subst ha
    · cases hs
      exact va_gets hx hb z3 hS hown (hts _ hlk) (fun _ h => h) hd (am_go kk g hl hz)
    · cases hs
      exact va_gets hx hb z5 hS hown (hts _ hlk) (fun _ h => h) hd (am_go kk g hl hz)
  case ldc idx =>
    rcases hE with ⟨ha, hlk⟩ | ⟨ha, hlk⟩
    · subst ha
      cases hs
      exact lv_ldc hx hb hown (hts _ hlk) hd (am_go kk g hl hz)
    · subst ha
      rcases hlk with ⟨hb0, ho, hi⟩ | ⟨hb0, ho, hi⟩ | ⟨hb0, ho, hi⟩ <;> subst hb0 <;> subst hi <;> cases hs
      · exact va_ldcS hx hb hown (by rw [ho]; exact z6) hd (am_go kk g hl hz)
      · exact va_ldcS hx hb hown (by rw [ho]; exact z7) hd (am_go kk g hl hz)
      · exact va_ldcS hx hb hown (by rw [ho]; exact z8) hd (am_go kk g hl hz)
  case iastore =>
    have hs0 := am_i1_inv hs; clear hs; obtain ⟨x, r, hst, hs⟩ := hs0; subst hst
    have hs0 := am_ri_inv hs; clear hs; obtain ⟨q, j, r, hst, hs⟩ := hs0; subst hst
    have hs0 := am_cA_inv hs; clear hs; obtain ⟨n, f, hc, hs⟩ := hs0
    have hs0 := am_ix_inv hs; clear hs; obtain ⟨hin, hs⟩ := hs0
    split at hs
    · cases hs
    rename_i h8
    cases hs
    rcases am_loc g q with ⟨h8', hq⟩ | ⟨h8', hlt, hq⟩ | hq
    · exact absurd h8' h8
    · rw [hc] at hq
      exact va_iast hx hb hKa g.1 g.2.1 hSs (q - 8) 0 hq rfl hin hd (fun H1 locs1 hP hD hS1 => am_goU kk g hl hz h8' hlt hP hD hS1)
    · rw [hc] at hq; cases hq
  case bastore =>
    have hs0 := am_i1_inv hs; clear hs; obtain ⟨x, r, hst, hs⟩ := hs0; subst hst
    have hs0 := am_ri_inv hs; clear hs; obtain ⟨q, j, r, hst, hs⟩ := hs0; subst hst
    have hs0 := am_cA_inv hs; clear hs; obtain ⟨n, f, hc, hs⟩ := hs0
    have hs0 := am_ix_inv hs; clear hs; obtain ⟨hin, hs⟩ := hs0
    split at hs
    · cases hs
    rename_i h8
    rcases am_loc g q with ⟨h8', hq⟩ | ⟨h8', hlt, hq⟩ | hq
    · exact absurd h8' h8
    · rw [hc] at hq
      rcases hE with hE | hE <;> subst hE <;> cases hs
      · exact va_bast hx hb hKa g.1 g.2.1 hSs (q - 8) 1 hq rfl hin hd (fun H1 locs1 hP hD hS1 => am_goU kk g hl hz h8' hlt hP hD hS1)
      · exact va_zast hx hb hKa g.1 g.2.1 hSs (q - 8) 2 hq rfl hin hd (fun H1 locs1 hP hD hS1 => am_goU kk g hl hz h8' hlt hP hD hS1)
    · rw [hc] at hq; rcases hE with hE | hE <;> subst hE <;> cases hq
  case lastore =>
    have hs0 := am_l1_inv hs; clear hs; obtain ⟨x, r, hst, hs⟩ := hs0; subst hst
    have hs0 := am_ri_inv hs; clear hs; obtain ⟨q, j, r, hst, hs⟩ := hs0; subst hst
    have hs0 := am_cL_inv hs; clear hs; obtain ⟨n, f, hc, hs⟩ := hs0
    have hs0 := am_ix_inv hs; clear hs; obtain ⟨hin, hs⟩ := hs0
    split at hs
    · cases hs
    rename_i h8
    cases hs
    rcases am_loc g q with ⟨h8', hq⟩ | ⟨h8', hlt, hq⟩ | hq
    · exact absurd h8' h8
    · rw [hc] at hq
      exact va_last hx hb hKa g.1 g.2.1 hSs (q - 8) 3 hq rfl hin hd (fun H1 locs1 hP hD hS1 => am_goU kk g hl hz h8' hlt hP hD hS1)
    · rw [hc] at hq; cases hq
  case aastore =>
    have hs0 := am_r1_inv hs; clear hs; obtain ⟨w, r, hst, hs⟩ := hs0; subst hst
    have hs0 := am_ri_inv hs; clear hs; obtain ⟨q, j, r, hst, hs⟩ := hs0; subst hst
    have hs0 := am_cQ_inv hs; clear hs; obtain ⟨t, n, f, hc, hs⟩ := hs0
    have hs0 := am_ix_inv hs; clear hs; obtain ⟨hin, hs⟩ := hs0
    split at hs
    · cases hs
    rename_i h8
    have hs0 := am_bif_inv hs; clear hs; obtain ⟨he, hs⟩ := hs0
    cases hs
    have hw : (am_W ad dA h)[w - 8]? = some (ad w, am_e ad dA (h.2.2 w)) := am_W_at (Nat.not_lt.mp fun z => h8 (Or.inr (Or.inl z))) (Nat.not_le.mp fun z => h8 (Or.inr (Or.inr z)))
    have hlt : j.toNatClampNeg < n := Nat.not_le.mp fun q => hin (Or.inr q)
    have h0 : ¬ j < 0 := fun q => hin (Or.inl q)
    rcases am_loc g q with ⟨h8', hq⟩ | ⟨h8', hlq, hq⟩ | hq
    · exact absurd (Or.inl h8') h8
    · rw [hc] at hq
      unfold am_elt at he
      split at he
      · rename_i fs hcw
        rw [hcw] at hw
        refine va_astq hx hb hKa g.1 g.2.1 hSs (q - 8) 4 (w - 8) 6 (r := (RX6, TX6, 8)) hq rfl hw rfl hin hd (fun H1 locs1 hP hD hS1 => ?_)
        rw [am_up_map] at hP hD
        exact am_goU kk g hl hz h8' hlq hP hD hS1
      · rename_i n2 f2 hcw
        rw [hcw] at hw
        obtain ⟨⟨kA, hkA, hkind⟩, -⟩ := hK5
        obtain ⟨-, kI, hkI, compI, hkindI⟩ := (hKa.2 0 _ rfl).1 0 (fun _ => .null)
        refine W.aast hx hb (g.1 (q - 8) _ hq) (fun q h => by cases h) (fun h => by cases h) hkA hkind rfl hkI ⟨h0, by show _ < (arrV _ _ _).slots.size; rw [arrV_size]; exact hlt⟩ (g.1 (w - 8) _ hw) (fun q h => by cases h) hkI (am_asg _ _) rfl rfl hd fun H1 e1 zz oq => ?_
        have hP : va_P D am_cl ((am_W ad dA h).set (q - 8) (ad q, .inl (dA 5, n, .inr (.inr (.inr (.inr (va_up (fun j => (f j).map ad) j.toNatClampNeg (some (ad w))))))))) H1 := by
          refine g.1.set g.2.1 hq ?_ oq
          show H1[ad q]? = some (vp_cell _ _)
          rw [e1]
          rw [vp_cell_q, vp_cell_q, arrV_store]
          congr 2
          funext k
          by_cases hk : k = j.toNatClampNeg
          · subst hk
            simp [updV, va_up, va_rf]
          · simp [updV, va_up, hk]
        have hD : va_D (am_A ad) ((am_W ad dA h).set (q - 8) (ad q, .inl (dA 5, n, .inr (.inr (.inr (.inr (va_up (fun j => (f j).map ad) j.toNatClampNeg (some (ad w))))))))) := g.2.1.set hq
        rw [am_up_map] at hP hD
        exact am_goU kk g hl hz h8' hlq hP hD (hSs.put zz oq (g.2.1.2 (q - 8) _ hq))
      · cases he
    · rw [hc] at hq; cases hq
  case newarray ty =>
    obtain ⟨hty, hlk⟩ := hE
    have hs0 := am_i1_inv hs; clear hs; obtain ⟨x, r, hst, hs⟩ := hs0; subst hst
    split at hs
    · cases hs
    rename_i hx0
    cases hs
    have hc1 : cells + 1 ≤ R.cells := by
      have : cells + (h.1 + 1 - h.1) ≤ R.cells := hRc
      omega
    have hc2 : slots + x.toNatClampNeg ≤ R.slots := by
      have : slots + (h.2.1 + x.toNatClampNeg - h.2.1) ≤ R.slots := hRs
      omega
    have hbytes : x.toNatClampNeg * componentBytes (newarray.typeOf ty) ≤ 536870912 := by
      have : x.toNatClampNeg ≤ 1000000 := Nat.not_lt.mp fun z => hx0 (Or.inr z)
      have h8 : componentBytes (newarray.typeOf ty) ≤ 8 := by cases ty <;> decide
      calc x.toNatClampNeg * componentBytes (newarray.typeOf ty) ≤ 1000000 * 8 := Nat.mul_le_mul this h8
        _ ≤ 536870912 := by decide
    refine va_newaK hx hb (hts _ hlk) rfl hd rfl (fun z => hx0 (Or.inl z)) rfl hbytes hc1 hc2 rfl fun H1 cA e1 zz o1 hAr hNm => ?_
    refine am_goN kk g hA hl hz zz ?_ o1
    show va_at D am_cl (ad h.1, am_e ad dA (am_z (am_aty ty) x.toNatClampNeg)) H1
    rw [g.2.2.2.2.1]
    cases ty <;> first | exact absurd hty (by decide) | skip
    · have hcA := am_cls (k := 2) hKa rfl (by intro C; exact fun z => by cases z) hNm
      subst hcA; exact e1
    · have hcA := am_cls (k := 1) hKa rfl (by intro C; exact fun z => by cases z) hNm
      subst hcA; exact e1
    · have hcA := am_cls (k := 0) hKa rfl (by intro C; exact fun z => by cases z) hNm
      subst hcA; exact e1
    · have hcA := am_cls (k := 3) hKa rfl (by intro C; exact fun z => by cases z) hNm
      subst hcA; exact e1
  case anewarray idx =>
    have hs0 := am_i1_inv hs; clear hs; obtain ⟨x, r, hst, hs⟩ := hs0; subst hst
    split at hs
    · cases hs
    rename_i hx0
    cases hs
    have hc1 : cells + 1 ≤ R.cells := by
      have : cells + (h.1 + 1 - h.1) ≤ R.cells := hRc
      omega
    have hc2 : slots + x.toNatClampNeg ≤ R.slots := by
      have : slots + (h.2.1 + x.toNatClampNeg - h.2.1) ≤ R.slots := hRs
      omega
    have hbytes : x.toNatClampNeg * 4 ≤ 536870912 := by
      have : x.toNatClampNeg ≤ 1000000 := Nat.not_lt.mp fun z => hx0 (Or.inr z)
      omega
    have hpush : ∀ cA : ClassId, (H.push ({ cls := cA, slots := Array.replicate x.toNatClampNeg .null, vm := .none } : Cell))[ad h.1]? = some (arrV cA x.toNatClampNeg (fun _ => .null)) := fun cA => by rw [g.2.2.2.2.1, Array.getElem?_push_size, ← arrV_new]
    have ho : ∀ (cA : ClassId) (q : Nat), q < H.size → (H.push ({ cls := cA, slots := Array.replicate x.toNatClampNeg .null, vm := .none } : Cell))[q]? = H[q]? := fun cA q hq => by rw [Array.getElem?_push, if_neg (Nat.ne_of_lt hq)]
    rcases hE with ⟨ha, hlk⟩ | ⟨ha, hlk⟩ <;> subst ha
    · refine W.anew hx hb hown (hts _ hlk) hK5.2.1.use rfl hd rfl (fun z => hx0 (Or.inl z)) hbytes hc1 hc2 fun cA kA comp f1 f2 f3 f4 => ?_
      obtain ⟨kA', comp', -, -, -, f1'⟩ := (hKa.2 4 _ rfl).2
      have hcA : cA = dA 4 := Option.some.inj (f1.symm.trans f1')
      refine am_goN kk g hA hl hz (Array.size_push _) ?_ (ho cA)
      subst hcA
      exact hpush _
    · refine W.anewA (t := .int) hx hb hown (hts _ hlk) (show (Cond.arrayOver (.array .int)).before args s = true from hK5.2.2.1) rfl hd rfl (fun z => hx0 (Or.inl z)) hbytes hc1 hc2 fun cA kA comp f1 f2 f3 f4 => ?_
      have hcA := am_cls (k := 5) hKa rfl (by intro C; exact fun z => by cases z) f1
      refine am_goN kk g hA hl hz (Array.size_push _) ?_ (ho cA)
      subst hcA
      exact hpush _
  case new idx =>
    obtain ⟨ha, hlk, hins, hini⟩ := hE
    cases hs
    have hc1 : cells + 1 ≤ R.cells := by
      have : cells + (h.1 + 1 - h.1) ≤ R.cells := hRc
      omega
    have hc2 : slots + am_nf a ≤ R.slots := by
      have : slots + (h.2.1 + am_nf a - h.2.1) ≤ R.slots := hRs
      omega
    have hKn := hKa.1 a _ (am_clAt a ha)
    refine W.newcK hx hb hown (hts _ hlk) (hts _ hins) (hts _ hini) rfl hd hc1 hc2 hKn.2.1 rfl fun H1 kC hkC e1 zz o1 => ?_
    refine am_goN kk g hA hl hz zz ?_ o1
    rw [g.2.2.2.2.1]
    exact ⟨_, am_clAt a ha, (u_born (am_ft a) hts (hU a ha) hKn hkC e1 (am_tyAt a ha)).to (am_df_v ad a)⟩
  case putfield idx =>
    obtain ⟨ha, hbn, hlk, hty, hfin⟩ := hE
    dsimp only [am_do] at hs
    split at hs
    · rename_i v q r
      have hs0 := am_cO_inv hs; clear hs; obtain ⟨ci, fs, hc, hs⟩ := hs0
      have hs0 := am_bif_inv hs; clear hs; obtain ⟨hcd, hs⟩ := hs0
      simp only [Bool.and_eq_true] at hcd
      obtain ⟨⟨⟨hci, hlt⟩, hft⟩, h8⟩ := hcd
      have hci := Nat.eq_of_beq_eq_true hci
      have h8 := Nat.le_of_ble_eq_true h8
      have hlt : b / 8 < fs.length := Nat.lt_of_succ_le (Nat.le_of_ble_eq_true hlt)
      subst hci
      cases hs
      have hnf : narrow (am_ft ci (b / 8)) (am_v ad v) = am_v ad v ∧ fits (am_ft ci (b / 8)) (am_v ad v) = true := by
        rcases hty with ⟨e1, e2⟩ | ⟨e1, e2⟩ | ⟨e1, n, e2⟩ | ⟨e1, n, e2⟩ <;> rw [e1] at hft <;> rw [e2] <;> cases v <;> first | (cases hft; done) | exact ⟨rfl, rfl⟩ | skip
        rename_i x
        simp only [am_fit, Bool.or_eq_true, beq_iff_eq] at hft
        rcases hft with hft | hft <;> subst hft <;> exact ⟨rfl, rfl⟩
      rcases am_loc g q with ⟨h8', hq⟩ | ⟨h8', hlq, hq⟩ | hq
      · omega
      · rw [hc] at hq
        have hset : (fs.map (am_v ad)).set (b / 8) (am_v ad v) = (fs.set (b / 8) v).map (am_v ad) := List.map_set.symm
        rcases hfin with hfin | ⟨hfin, hin, hdecl⟩
        · refine va_put hx hb hts (hU _ ha) (am_ft ci) (am_tyAt _ ha) (am_nmAt _ ha) hown hKa g.1 g.2.1 hSs (q - 8) hq (am_clAt _ ha) (b / 8) hbn (hts _ hlk) (fun _ h => h) hfin (am_tyAt _ ha _ hbn) hnf.1 hnf.2 (by simpa using hlt) hd (fun H1 locs1 hP hD hS1 => ?_)
          rw [hset] at hP hD
          exact am_goU kk g hl hz h8' hlq hP hD hS1
        · refine va_putF hx hb hts (hU _ ha) (am_ft ci) (am_tyAt _ ha) (am_nmAt _ ha) hown hKa g.1 g.2.1 hSs (q - 8) hq (am_clAt _ ha) (b / 8) hbn (hts _ hlk) (fun _ h => h) hfin (by rw [hnm]; exact hin) hdecl (am_tyAt _ ha _ hbn) hnf.1 hnf.2 (by simpa using hlt) hd (fun H1 locs1 hP hD hS1 => ?_)
          rw [hset] at hP hD
          exact am_goU kk g hl hz h8' hlq hP hD hS1
      · rw [hc] at hq; cases hq
    · cases hs
  case invokespecial idx =>
    rcases hE with ⟨ha, h1, h2, h3⟩ | ⟨ha, -⟩
    · subst ha
      have hs0 := am_r1_inv (show am_r1 st (fun _ r => bif Nat.ble 1 d && Nat.ble (am_cat r + 12) L then some (.inl (pc + am_len (.invokespecial idx), ls, r, h)) else none) = some (.inl S') from hs)
      clear hs
      obtain ⟨q, r, hst, hs⟩ := hs0
      subst hst
      have hs0 := am_bif_inv hs; clear hs; obtain ⟨hcd, hs⟩ := hs0
      simp only [Bool.and_eq_true] at hcd
      have hd1 := Nat.le_of_ble_eq_true hcd.1
      have hL1 := Nat.le_of_ble_eq_true hcd.2
      cases hs
      refine W.objInit hx hb hown (hts _ h1) (hts _ h2) (hts _ h3) rfl (by show lsr.size = _; rw [hl.1.1, hml, hml2]) rfl hd (by omega) ?_ (am_go kk g hl hz)
      rw [am_v_sum]
      show 2 * 0 + am_cat r + 12 ≤ R.locals
      omega
    · exfalso
      have hb0 : Nat.beq a 999 = false := by
        cases e : Nat.beq a 999
        · rfl
        · exact absurd (Nat.eq_of_beq_eq_true e) ha
      dsimp only [am_do] at hs
      rw [hb0] at hs
      dsimp only [cond] at hs
      split at hs
      · have hs1 := (am_bif_inv hs).2; cases hs1
      · cases hs
  case invokestatic idx =>
    rcases hE with ⟨ha, h1, h2, h3, h4⟩ | ⟨ha, h1, h2, h3, h4⟩ | ⟨ha, h1, h2, h3, h4⟩ | ⟨ha, h1, h2⟩ | ⟨ha, ha2, ha3, ha4, -⟩
    · subst ha
      dsimp only [am_do] at hs
      change (match st with
        | .int n :: .int dp :: .ref q :: .int sp :: .ref p :: r => am_cA (h.2.2 p) 0 fun n0 f => am_cA (h.2.2 q) 0 fun n1 g =>
          if n < 0 ∨ dp < 0 ∨ sp < 0 ∨ n0 < sp.toNatClampNeg + n.toNatClampNeg ∨ n1 < dp.toNatClampNeg + n.toNatClampNeg ∨ p < 8 ∨ q < 8 ∨ d < 1 ∨ L < am_cat r + 40 then none
          else some (.inl (pc + am_len (.invokestatic idx), ls, r, am_up h q (.inr (0, n1, .inl (va_cpy f g sp.toNatClampNeg dp.toNatClampNeg n.toNatClampNeg)))))
        | _ => (none : am_O)) = some (.inl S') at hs
      split at hs
      · rename_i n dp q sp q0 r
        have hs0 := am_cA_inv hs; clear hs; obtain ⟨n0, f, hc0, hs⟩ := hs0
        have hs0 := am_cA_inv hs; clear hs; obtain ⟨n1, f1, hc1, hs⟩ := hs0
        split at hs
        · cases hs
        rename_i hcd
        cases hs
        simp only [not_or] at hcd
        obtain ⟨c1, c2, c3, c4, c5, c6, c7, c8, c9⟩ := hcd
        rcases am_loc g q0 with ⟨h8', hq⟩ | ⟨h8', hlq, hq⟩ | hq
        · exact absurd h8' c6
        · rcases am_loc g q with ⟨h8w, hw⟩ | ⟨h8w, hlw, hw⟩ | hw
          · exact absurd h8w c7
          · rw [hc0] at hq
            rw [hc1] at hw
            refine va_copyi hx hb (by rw [hl.1.1, hml, hml2]) hown (hts _ h1) (hts _ h2) (hts _ h3) (hts _ h4) hKa g.1 g.2.1 hSs (q0 - 8) (q - 8) 0 0 hq hw rfl rfl rfl c3 c2 c1 (by omega) (by omega) (fun _ _ => rfl) (by omega) ?_ hd (fun H1 locs1 hP hD hS1 => am_goU kk g hl hz h8w hlw hP hD hS1)
            rw [am_v_sum]
            have : nativeFrameWords "java/lang/System" "arraycopy" 5 ≤ 29 := by decide
            omega
          · rw [hc1] at hw; cases hw
        · rw [hc0] at hq; cases hq
      · cases hs
    · subst ha
      have hs0 := am_ii_inv (show am_ii st (fun x y r => bif Nat.ble 1 d && Nat.ble (am_cat r + 13) L then some (.inl (pc + am_len (.invokestatic idx), ls, .int (if y < x then y else x) :: r, h)) else none) = some (.inl S') from hs)
      clear hs
      obtain ⟨x, y, r, hst, hs⟩ := hs0
      subst hst
      have hs0 := am_bif_inv hs; clear hs; obtain ⟨hcd, hs⟩ := hs0
      simp only [Bool.and_eq_true] at hcd
      have hd1 := Nat.le_of_ble_eq_true hcd.1
      have hL1 := Nat.le_of_ble_eq_true hcd.2
      cases hs
      have hc1 : cells + (h.1 - h.1) ≤ R.cells := hRc
      have hc2 : slots + (h.2.1 - h.2.1) ≤ R.slots := hRs
      refine va_mmin hx hb (by rw [hl.1.1, hml, hml2]) hown (hts _ h1) (hts _ h2) (hts _ h3) (hts _ h4) (by omega) ?_ (by omega) (by omega) hd (am_go kk g hl hz)
      rw [am_v_sum]
      omega
    · subst ha
      have hs0 := am_ii_inv (show am_ii st (fun x y r => bif Nat.ble 1 d && Nat.ble (am_cat r + 13) L then some (.inl (pc + am_len (.invokestatic idx), ls, .int (if x < y then y else x) :: r, h)) else none) = some (.inl S') from hs)
      clear hs
      obtain ⟨x, y, r, hst, hs⟩ := hs0
      subst hst
      have hs0 := am_bif_inv hs; clear hs; obtain ⟨hcd, hs⟩ := hs0
      simp only [Bool.and_eq_true] at hcd
      have hd1 := Nat.le_of_ble_eq_true hcd.1
      have hL1 := Nat.le_of_ble_eq_true hcd.2
      cases hs
      have hc1 : cells + (h.1 - h.1) ≤ R.cells := hRc
      have hc2 : slots + (h.2.1 - h.2.1) ≤ R.slots := hRs
      refine va_mmax hx hb (by rw [hl.1.1, hml, hml2]) hown (hts _ h1) (hts _ h2) (hts _ h3) (hts _ h4) (by omega) ?_ (by omega) (by omega) hd (am_go kk g hl hz)
      rw [am_v_sum]
      omega
    · subst ha
      have hs0 := am_ii_inv (show am_ii st (fun x y r => if x < 0 ∨ ¬ x < y then none else bif Nat.ble 2 d && Nat.ble (am_cat r) 8 && Nat.ble 60 L then some (.inl (pc + am_len (.invokestatic idx), ls, r, h)) else none) = some (.inl S') from hs)
      clear hs
      obtain ⟨x, y, r, hst, hs⟩ := hs0
      subst hst
      split at hs
      · cases hs
      rename_i hxy
      have hs0 := am_bif_inv hs; clear hs; obtain ⟨hcd, hs⟩ := hs0
      simp only [Bool.and_eq_true] at hcd
      have hd1 := Nat.le_of_ble_eq_true hcd.1.1
      have h8 := Nat.le_of_ble_eq_true hcd.1.2
      have hL1 := Nat.le_of_ble_eq_true hcd.2
      cases hs
      refine am_ckrun hG h2 hx hb hml2 hown hts (by rw [← hml]; exact hl.1.1) hK0 g hz (hts _ h1) (fun z => hxy (Or.inl z)) (Decidable.byContradiction fun z => hxy (Or.inr z)) h8 (by omega) (by omega) hRc hRs hd (fun H1 locs1 g1 hz1 => am_go kk g1 hl hz1)
    · exfalso
      have hbf : ∀ k, ¬ a = k → Nat.beq a k = false := by
        intro k hk
        cases e : Nat.beq a k
        · rfl
        · exact absurd (Nat.eq_of_beq_eq_true e) hk
      dsimp only [am_do] at hs
      rw [hbf 998 ha, hbf 997 ha2, hbf 996 ha3, hbf 994 ha4] at hs
      dsimp only [cond] at hs
      split at hs
      · have hs1 := (am_bif_inv hs).2; cases hs1
      · cases hs
  case invokevirtual idx =>
    exfalso
    dsimp only [am_do] at hs
    split at hs
    · obtain ⟨ci, fs, -, hs1⟩ := am_cO_inv hs
      have hs2 := (am_bif_inv hs1).2; cases hs2
    · cases hs
end AMQ
