section AMN
variable {P : Nat → am_M} {yN : Nat → MethodName} {cN : Nat → ByteArray} {NM : Nat} {Ts : List Cond} {l : Launch} {D : va_G} {ad dA : Nat → Nat} {Ls : Nat} {xs : Nat → Int32} {n : Nat}
theorem am_call (hG : ∀ w ∈ Ts, goodWord w = true) (hP : ∀ M, M < NM → am_gm P yN cN NM Ts M) (hIH : am_IH P yN cN NM Ts l D ad dA Ls xs n)
    {p : Program} {e : Env} {R : Room} {s : State} {m : MethodId} {args : Array Value} {below : List Frame} {meth : Method} {c : Code} {H : Heap} {locs : List Loc} {cells slots : Nat} {Q : State → Prop} {h h1 : am_H} {M pc nx a b d L ret y : Nat} {ls : List (Option Value)} {lsr : Array Slot} {st vs : List Value} {S' : am_S} {r : Option Value} {i : Instr}
    (X : am_X P yN cN Ts p s m args meth c M) (hK : am_K D ad dA Ls xs s) (hd : ∃ len, decode (cN M) pc = .ok (i, len) ∧ ((∃ d lo hi os, i = .tableswitch d lo hi os) ∨ (len = am_len i ∧ nx = pc + len))) (hE : am_Ei P yN NM Ts (am_cn (P M).1) (yN M).name (P M).2.1 i pc a b)
    (g : am_G D ad dA Ls xs s.heap H h locs) (hl : am_LN ad ls lsr (P M).2.1) (hz : H.size = s.heap.size + cells) (hs : am_do P (d + 1) L ret i pc nx a b ls st h = some (.inr (.inr (y, vs, S'))))
    (hRf : d + 1 ≤ R.frames) (hRl : L ≤ R.locals) (hLc : am_lc P y ≤ L) (hlen : (am_ent0 vs).length ≤ (P y).2.1) (hrun : am_run P n d (L - am_lc P y) y (0, am_ent vs (P y).2.1, [], h) = some (r, h1)) (hRc : cells + (h1.1 - h.1) ≤ R.cells) (hRs : slots + (h1.2.1 - h.2.1) ≤ R.slots)
    (kk : ∀ (H1 : Heap) (locs1 : List Loc), am_G D ad dA Ls xs s.heap H1 h1 locs1 → H1.size = s.heap.size + (cells + (h1.1 - h.1)) → W p l e R s m args below meth c H1 locs1 (cells + (h1.1 - h.1)) (slots + (h1.2.1 - h.2.1)) Q (F0 m S'.1 lsr ((r.toList ++ S'.2.2.1).map (am_v ad)))) :
    W p l e R s m args below meth c H locs cells slots Q (F0 m pc lsr (st.map (am_v ad))) := by
  obtain ⟨hx, hb, hml2, hown, hts, hr, hlocks, hnm⟩ := X
  obtain ⟨len, hd, hlen2⟩ := hd
  have hgrow := am_run_grow _ _ _ _ _ _ hrun
  have hle : h.1 ≤ h1.1 := hgrow.1
  have hA := hK.2.2.2.2
  have hsize : lsr.size = (P M).2.1 := hl.1.1
  have fix : CallFix p m c (cN M) (P M).2.1 s args Ts (am_cn (P M).1) := ⟨hx, hb, hml2, hown, hts⟩
  have hmap : (r.map (am_v ad)).toList = r.toList.map (am_v ad) := by cases r <;> rfl
  have hroom : ∀ maxL, maxL = (P y).2.1 → d + 1 ≤ R.frames ∧ 8 + (maxL + 11) + (L - am_lc P y) ≤ R.locals := by
    intro maxL e
    subst e
    unfold am_lc at hLc ⊢
    omega
  have hcat : ∀ (rr : List Value) (pc0 : Nat) (st0 : List Value), am_cat rr ≤ 8 → 2 * (F0 m pc0 lsr st0).monitorRoom + ((rr.map (am_v ad)).map fun v => v.category).sum ≤ 8 := by
    intro rr pc0 st0 h8
    rw [am_v_sum]
    show 2 * 0 + am_cat rr ≤ 8
    omega
  have kk2 : S'.1 = pc + 3 → ∀ rr, S'.2.2.1 = rr → ∀ (H1 : Heap) (locs1 : List Loc), am_G D ad dA Ls xs s.heap H1 h1 locs1 → H1.size = s.heap.size + (cells + (h1.1 - h.1)) → W p l e R s m args below meth c H1 locs1 (cells + (h1.1 - h.1)) (slots + (h1.2.1 - h.2.1)) Q (F0 m (pc + 3) lsr ((r.map (am_v ad)).toList ++ rr.map (am_v ad))) := by
    intro e1 rr e2 H1 locs1 g1 hz1
    have := kk H1 locs1 g1 hz1
    rw [e1, e2, List.map_append, ← hmap] at this
    exact this
  cases i <;> first
    | (exfalso; simp only [am_do, am_ii, am_i1, am_ll, am_l1, am_r1, am_ri, am_cA, am_cL, am_cQ, am_cO, am_ix, Bool.cond_eq_ite] at hs; (repeat' split at hs) <;> cases hs; done)
    | skip
  case invokespecial idx =>
    have hl1 := (hlen2.resolve_left (by rintro ⟨_, _, _, _, hq⟩; cases hq))
    have hl2 := hl1.1; have hl3 := hl1.2; clear hl1 hlen2; subst hl2; subst hl3
    rcases hE with ⟨ha, -⟩ | ⟨ha, haN, hlink, hinst, hnm0, hrt0, hdesc⟩
    · exfalso
      subst ha
      obtain ⟨q, r, hst, hs⟩ := am_r1_inv (show am_r1 st (fun _ r => bif Nat.ble 1 (d + 1) && Nat.ble (am_cat r + 12) L then some (.inl (pc + am_len (.invokespecial idx), ls, r, h)) else none) = some (.inr (.inr (y, vs, S'))) from hs)
      have hs1 := (am_bif_inv hs).2; cases hs1
    have hb0 : Nat.beq a 999 = false := by
      cases e : Nat.beq a 999
      · rfl
      · exact absurd (Nat.eq_of_beq_eq_true e) ha
    dsimp only [am_do] at hs
    rw [hb0] at hs
    dsimp only [cond] at hs
    split at hs
    · rename_i q vs' rr htake
      have hs0 := am_bif_inv hs; clear hs; obtain ⟨h8, hs⟩ := hs0
      have h8 := Nat.le_of_ble_eq_true h8
      cases hs
      obtain ⟨ht1, ht2⟩ := am_take0 htake
      have hMet := am_met hIH (hP _ haN) hlen hrun
      have hrt : am_rty (P a).2.2.1 = none := by rw [hrt0]; rfl
      rw [hrt] at hMet
      have hst : st.map (am_v ad) = (vs'.map (am_v ad)).reverse ++ .ref (ad q) :: rr.map (am_v ad) := by
        rw [ht2]
        simp [am_v]
      obtain ⟨y1, y2, y3, y4, y5, y6, y7⟩ := hP _ haN
      rw [hrt] at y2
      have hpre : PreS s H (va_Pc ((Value.ref q :: vs').map (am_v ad)) (am_B D ad dA Ls xs h)) (.ref (ad q) :: vs'.map (am_v ad)) := ⟨am_blind, fun U hU hW => ⟨rfl, am_pre g hK hU hW⟩⟩
      have hn : (vs'.map (am_v ad)).length = b := by
        have : (Value.ref q :: vs').length = b + 1 := ht1
        simpa using this
      rcases hlink with hlink | ⟨host, hlink⟩
      · exact am_goC (va_runI fix hMet (cwI b hts (am_goodT hG (am_consT y2)) rfl rfl rfl (hts _ y3) (hts _ hlink) (hts _ hinst) hnm0 ⟨y4, y5, hdesc⟩ (hroom _ rfl)) hpre rfl hn hsize hst (hcat _ _ _ h8) hd ⟨hRc, hRs⟩) hA g hz hle (kk2 rfl _ rfl)
      · exact am_goC (va_runIN fix hMet ⟨va_cnB b hts (am_goodT hG (am_consT y2)) rfl rfl rfl (hK.2.1.2.2.2 _ hlink) (hts _ y3) ⟨y4, y5, hdesc⟩ (hroom _ rfl), hnm0, hts _ hinst⟩ hpre rfl hn hsize hst (hcat _ _ _ h8) hd ⟨hRc, hRs⟩) hA g hz hle (kk2 rfl _ rfl)
    · cases hs
  case invokestatic idx =>
    have hl1 := (hlen2.resolve_left (by rintro ⟨_, _, _, _, hq⟩; cases hq))
    have hl2 := hl1.1; have hl3 := hl1.2; clear hl1 hlen2; subst hl2; subst hl3
    rcases hE with ⟨ha, -⟩ | ⟨ha, -⟩ | ⟨ha, -⟩ | ⟨ha, -⟩ | ⟨ha, ha2, ha3, ha4, haN, hlink, hstat, hdesc⟩
    · exfalso; subst ha
      change (match st with
        | .int n :: .int dp :: .ref q :: .int sp :: .ref p :: r => am_cA (h.2.2 p) 0 fun n0 f => am_cA (h.2.2 q) 0 fun n1 g =>
          if n < 0 ∨ dp < 0 ∨ sp < 0 ∨ n0 < sp.toNatClampNeg + n.toNatClampNeg ∨ n1 < dp.toNatClampNeg + n.toNatClampNeg ∨ p < 8 ∨ q < 8 ∨ d + 1 < 1 ∨ L < am_cat r + 40 then none
          else some (.inl (pc + am_len (.invokestatic idx), ls, r, am_up h q (.inr (0, n1, .inl (va_cpy f g sp.toNatClampNeg dp.toNatClampNeg n.toNatClampNeg)))))
        | _ => (none : am_O)) = some (.inr (.inr (y, vs, S'))) at hs
      split at hs
      · obtain ⟨n0, f, hc0, hs1⟩ := am_cA_inv hs
        obtain ⟨n1, f1, hc1, hs2⟩ := am_cA_inv hs1
        split at hs2 <;> cases hs2
      · cases hs
    · exfalso; subst ha
      obtain ⟨x, y0, r0, hst, hs1⟩ := am_ii_inv (show am_ii st (fun x y r => bif Nat.ble 1 (d + 1) && Nat.ble (am_cat r + 13) L then some (.inl (pc + am_len (.invokestatic idx), ls, .int (if y < x then y else x) :: r, h)) else none) = some (.inr (.inr (y, vs, S'))) from hs)
      have hs2 := (am_bif_inv hs1).2; cases hs2
    · exfalso; subst ha
      obtain ⟨x, y0, r0, hst, hs1⟩ := am_ii_inv (show am_ii st (fun x y r => bif Nat.ble 1 (d + 1) && Nat.ble (am_cat r + 13) L then some (.inl (pc + am_len (.invokestatic idx), ls, .int (if x < y then y else x) :: r, h)) else none) = some (.inr (.inr (y, vs, S'))) from hs)
      have hs2 := (am_bif_inv hs1).2; cases hs2
    · exfalso; subst ha
      obtain ⟨x, y0, r0, hst, hs1⟩ := am_ii_inv (show am_ii st (fun x y r => if x < 0 ∨ ¬ x < y then none else bif Nat.ble 2 (d + 1) && Nat.ble (am_cat r) 8 && Nat.ble 60 L then some (.inl (pc + am_len (.invokestatic idx), ls, r, h)) else none) = some (.inr (.inr (y, vs, S'))) from hs)
      split at hs1
      · cases hs1
      have hs2 := (am_bif_inv hs1).2; cases hs2
    have hbf : ∀ k, ¬ a = k → Nat.beq a k = false := by
      intro k hk
      cases e : Nat.beq a k
      · rfl
      · exact absurd (Nat.eq_of_beq_eq_true e) hk
    dsimp only [am_do] at hs
    rw [hbf 998 ha, hbf 997 ha2, hbf 996 ha3, hbf 994 ha4] at hs
    dsimp only [cond] at hs
    split at hs
    · rename_i vs' rr htake
      have hs0 := am_bif_inv hs; clear hs; obtain ⟨h8, hs⟩ := hs0
      have h8 := Nat.le_of_ble_eq_true h8
      cases hs
      obtain ⟨ht1, ht2⟩ := am_take0 htake
      have hMet := am_met hIH (hP _ haN) hlen hrun
      have hst : st.map (am_v ad) = (vs.map (am_v ad)).reverse ++ rr.map (am_v ad) := by
        rw [ht2]
        simp
      obtain ⟨y1, y2, y3, y4, y5, y6, y7⟩ := hP _ haN
      have hpre : PreS s H (va_Pc (vs.map (am_v ad)) (am_B D ad dA Ls xs h)) (vs.map (am_v ad)) := ⟨am_blind, fun U hU hW => ⟨rfl, am_pre g hK hU hW⟩⟩
      have hn : (vs.map (am_v ad)).length = b := by rw [List.length_map]; exact ht1
      rcases hlink with hlink | ⟨host, hlink⟩
      · exact am_goC (va_runS fix hMet ⟨callB_of b hts (am_goodT hG (am_consT y2)) rfl rfl rfl (hts _ y3) (hts _ hlink) ⟨y4, y5, hdesc⟩ (hroom _ rfl), hts _ hstat⟩ hpre rfl hn hsize hst (hcat _ _ _ h8) hd ⟨hRc, hRs⟩) hA g hz hle (kk2 rfl _ rfl)
      · exact am_goC (va_runSN fix hMet ⟨va_cnB b hts (am_goodT hG (am_consT y2)) rfl rfl rfl (hK.2.1.2.2.2 _ hlink) (hts _ y3) ⟨y4, y5, hdesc⟩ (hroom _ rfl), hts _ hstat, trivial⟩ hpre rfl hn hsize hst (hcat _ _ _ h8) hd ⟨hRc, hRs⟩) hA g hz hle (kk2 rfl _ rfl)
    · cases hs
  case invokevirtual idx =>
    have hl1 := (hlen2.resolve_left (by rintro ⟨_, _, _, _, hq⟩; cases hq))
    have hl2 := hl1.1; have hl3 := hl1.2; clear hl1 hlen2; subst hl2; subst hl3
    obtain ⟨haN, hlink, hinst, hsel, hdesc⟩ := hE
    dsimp only [am_do] at hs
    split at hs
    · rename_i q vs' rr htake
      have hs0 := am_cO_inv hs; clear hs; obtain ⟨ci, fs, hc, hs⟩ := hs0
      have hs0 := am_bif_inv hs; clear hs; obtain ⟨hcd, hs⟩ := hs0
      simp only [Bool.and_eq_true] at hcd
      have hci := Nat.eq_of_beq_eq_true hcd.1
      have h8 := Nat.le_of_ble_eq_true hcd.2
      cases hs
      obtain ⟨ht1, ht2⟩ := am_take0 htake
      have hMet := am_met hIH (hP _ haN) hlen hrun
      have hst : st.map (am_v ad) = (vs'.map (am_v ad)).reverse ++ .ref (ad q) :: rr.map (am_v ad) := by
        rw [ht2]
        simp [am_v]
      obtain ⟨y1, y2, y3, y4, y5, y6, y7⟩ := hP _ haN
      have hn : (vs'.map (am_v ad)).length = b := by
        have : (Value.ref q :: vs').length = b + 1 := ht1
        simpa using this
      have hrecv : ∃ cellB : Cell, H[ad q]? = some cellB ∧ cellB.vm.isStatics = false ∧ s.vm.findClass (yN a).cls = some cellB.cls := by
        rw [y6, ← hci]
        rcases am_loc g q with ⟨h8, hq⟩ | ⟨h8, hlt, hq⟩ | hq
        · rw [hc] at hq
          rcases (am_lt8 h8) with e | e | e | e | e | e | e | e <;> subst e <;> first | (cases hq; done) | skip
          · cases hq; exact vk_recv hK.2.2.1.2.2.2.2.2.2.2.2.1 (i := 0) (by decide) g.2.2.1
          · cases hq; exact vk_recv hK.2.2.1.2.2.2.2.2.2.2.2.1 (i := 1) (by decide) g.2.2.1
          · cases hq; exact vk_recv hK.2.2.1.2.2.2.2.2.2.2.2.1 (i := 2) (by decide) g.2.2.1
        · rw [hc] at hq
          obtain ⟨r0, hr0, -⟩ := g.1 (q - 8) _ hq
          have h12 : ci < 12 := (List.getElem?_eq_some_iff.mp hr0).1
          exact va_recv hK.1 g.1 (am_clAt ci h12) hq
        · rw [hc] at hq; cases hq
      have hpre : PreV s H (yN a).cls (ad q) (va_Pc ((Value.ref q :: vs').map (am_v ad)) (am_B D ad dA Ls xs h)) (vs'.map (am_v ad)) := ⟨am_blind, hrecv, fun U hU hW => ⟨rfl, am_pre g hK hU hW⟩⟩
      refine am_goC (va_runV fix hMet (cwV b hts (am_goodT hG (fun w hw => ?_)) rfl rfl rfl ⟨rfl, y4, y5, hdesc⟩ (hroom _ rfl)) hpre rfl hn hsize hst (hcat _ _ _ h8) hd ⟨hRc, hRs⟩) hA g hz hle (kk2 rfl _ rfl)
      unfold wsV at hw
      rcases List.mem_append.mp hw with hw | hw
      · simp only [List.mem_cons, List.not_mem_nil, or_false] at hw
        rcases hw with e | e | e | e
        · rw [e]; exact hlink
        · rw [e]; exact hinst
        · rw [e]; exact hsel
        · rw [e]; exact y3
      · rcases List.mem_cons.mp hw with e | e
        · rw [e]; exact y2
        · exact e
    · cases hs
end AMN
