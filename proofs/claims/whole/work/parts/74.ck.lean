/-! ===== String.checkIndex within its bounds: it returns and changes nothing ===== -/
section AMK
variable {Ts : List Cond} {l : Launch} {D : va_G} {ad dA : Nat → Nat} {Ls : Nat} {xs : Nat → Int32} {h : am_H}
theorem am_goodT (hG : ∀ w ∈ Ts, goodWord w = true) {ws : List Cond} (h : ∀ w ∈ ws, w ∈ Ts) : GoodIn Ts ws := fun w hw => ⟨h w hw, good_of_word (hG w (h w hw))⟩
theorem am_consT {w0 : Cond} (h : w0 ∈ Ts) : ∀ w ∈ w0 :: Ts, w ∈ Ts := by
  intro w hw
  rcases List.mem_cons.mp hw with e | e
  · rw [e]; exact h
  · exact e
theorem am_dP0 : decode prog_21_method_11_code 0 = .ok (.iload_n 0, 1) := by decide +kernel
theorem am_dP1 : decode prog_21_method_11_code 1 = .ok (.ifCond .lt 8, 3) := by decide +kernel
theorem am_dP4 : decode prog_21_method_11_code 4 = .ok (.iload_n 0, 1) := by decide +kernel
theorem am_dP5 : decode prog_21_method_11_code 5 = .ok (.iload_n 1, 1) := by decide +kernel
theorem am_dP6 : decode prog_21_method_11_code 6 = .ok (.if_icmp .lt 10, 3) := by decide +kernel
theorem am_dP16 : decode prog_21_method_11_code 16 = .ok (.iload_n 0, 1) := by decide +kernel
theorem am_dP17 : decode prog_21_method_11_code 17 = .ok (.ireturn, 1) := by decide +kernel
theorem am_dC0 : decode prog_16_method_155_code 0 = .ok (.iload_n 0, 1) := by decide +kernel
theorem am_dC1 : decode prog_16_method_155_code 1 = .ok (.iload_n 1, 1) := by decide +kernel
theorem am_dC2 : decode prog_16_method_155_code 2 = .ok (.getstatic 1053, 3) := by decide +kernel
theorem am_dC5 : decode prog_16_method_155_code 5 = .ok (.invokestatic 1059, 3) := by decide +kernel
theorem am_dC8 : decode prog_16_method_155_code 8 = .ok (.pop, 1) := by decide +kernel
theorem am_dC9 : decode prog_16_method_155_code 9 = .ok (.return_, 1) := by decide +kernel
theorem am_ck0 {x y : Int32} {fv : Value} (hf : fv.category = 1) (h0 : ¬ x < 0) (hy : x < y) : Met l am_yPr (Cond.code am_yPr prog_21_method_11_code 3 (some .int) :: Ts) ({ frames := 0, cells := h.1 - h.1, slots := h.2.1 - h.2.1, locals := 0 }) (va_Pc [.int x, .int y, fv] (am_B D ad dA Ls xs h)) (am_Qc D ad dA Ls xs (some (.int x)) h) (h.1 - h.1) (h.2.1 - h.2.1) (am_A ad) := by
  refine Met.ofW (cc := prog_21_method_11_code) (maxL := 3) (ret := some .int) (by decide) rfl ?_
  intro p e s m args below meth c s₁ B hml hv
  obtain ⟨rfl, hK, hGh⟩ := hv
  have hx := B.exec
  have hb := B.bytes
  have hlen : (lg_sl [.int x, .int y, fv]).length ≤ 3 := by cases fv <;> first | (cases hf; done) | exact Nat.le_refl 3
  have hl := lv_entry ([.int x, .int y, fv]) (n := 3) hlen
  rw [lg_entry_eq]
  generalize (lg_sl [.int x, .int y, fv] ++ List.replicate (3 - (lg_sl [.int x, .int y, fv]).length) Slot.unset).toArray = ls at hl ⊢
  have h0l : ls[0]? = some (.val (.int x)) := hl.2.2 (0, .int x) (by simp [lv_args])
  have h1l : ls[1]? = some (.val (.int y)) := hl.2.2 (1, .int y) (by simp [lv_args, Value.category])
  refine lv_iload_n hx hb am_dP0 rfl h0l ?_
  refine lv_if_lt (tgt := 9) hx hb am_dP1 (by decide) (fun z => absurd z h0) (fun _ => ?_)
  refine lv_iload_n hx hb am_dP4 rfl h0l ?_
  refine lv_iload_n hx hb am_dP5 rfl h1l ?_
  refine lv_icmp_lt (tgt := 16) hx hb am_dP6 (by decide) (fun _ => ?_) (fun z => absurd hy z)
  refine lv_iload_n hx hb am_dP16 rfl h0l ?_
  refine W.widen (k := h.1 - h.1) (n := h.2.1 - h.2.1) (by omega) (by omega) ?_
  exact W.iret hx hb B.returns (fun t ht _ => ⟨rfl, [], by rw [ht]; exact hGh⟩) (fun q hq => by cases hq) am_dP17 B.notSynchronized
theorem am_ck1 (hG : ∀ w ∈ Ts, goodWord w = true) (hw : ∀ w ∈ am_ckw, w ∈ Ts) {x y : Int32} (h0 : ¬ x < 0) (hy : x < y) : Met l am_yCk (Cond.code am_yCk prog_16_method_155_code 2 none :: Ts) ({ frames := 1, cells := h.1 - h.1, slots := h.2.1 - h.2.1, locals := 22 }) (va_Pc [.int x, .int y] (am_B D ad dA Ls xs h)) (am_Qc D ad dA Ls xs none h) (h.1 - h.1) (h.2.1 - h.2.1) (am_A ad) := by
  refine Met.ofW (cc := prog_16_method_155_code) (maxL := 2) (ret := none) (by decide) rfl ?_
  intro p e s m args below meth c s₁ B hml hv
  obtain ⟨rfl, hK, hGh⟩ := hv
  have hx := B.exec
  have hb := B.bytes
  have hts0 := atoms_spec (ws := Cond.code am_yCk prog_16_method_155_code 2 none :: Ts) B.pre
  have hts : ∀ w ∈ Ts, w.before [Value.int x, Value.int y].toArray s = true := fun w h => hts0 w (List.mem_cons_of_mem _ h)
  have hown : s.vm.findClass "java/lang/String" = some m.cls := findClass_of_methodNamed B.named
  have hl := lv_entry ([.int x, .int y]) (n := 2) (Nat.le_of_ble_eq_true rfl)
  rw [lg_entry_eq]
  generalize (lg_sl [.int x, .int y] ++ List.replicate (2 - (lg_sl [.int x, .int y]).length) Slot.unset).toArray = ls at hl ⊢
  have h0l : ls[0]? = some (.val (.int x)) := hl.2.2 (0, .int x) (by simp [lv_args])
  have h1l : ls[1]? = some (.val (.int y)) := hl.2.2 (1, .int y) (by simp [lv_args, Value.category])
  have hlw : ∀ w ∈ am_ckw, w.before [Value.int x, Value.int y].toArray s = true := fun w h => hts w (hw w h)
  have main : ∀ fv : Value, fv.category = 1 → va_Z "jdk/internal/util/Preconditions" "SIOOBE_FORMATTER" "Ljava/util/function/BiFunction;" fv (am_A ad) s s.heap → W p l e (headSpec (Cond.code am_yCk prog_16_method_155_code 2 none :: Ts) { frames := 1, cells := h.1 - h.1, slots := h.2.1 - h.2.1, locals := 22 }).room s m [Value.int x, Value.int y].toArray below meth c s.heap [] 0 0 (MQ below (am_Qc D ad dA Ls xs none h) [Value.int x, Value.int y].toArray s (h.1 - h.1) (h.2.1 - h.2.1) (am_A ad)) (F0 m 0 ls []) := by
    intro fv hf hZ
    refine lv_iload_n hx hb am_dC0 rfl h0l ?_
    refine lv_iload_n hx hb am_dC1 rfl h1l ?_
    refine va_gets hx hb hZ va_S.rf hown (hlw _ (by simp [am_ckw])) (fun _ h => h) am_dC2 ?_
    refine am_goC (h := h) (h1 := h) (r := some (.int x)) (rest := []) (va_runS (As := [.int x, .int y, fv]) ⟨hx, hb, hml, hown, hts⟩ (am_ck0 hf h0 hy) ⟨callB_of 3 hts (am_goodT hG (am_consT (hw _ (by simp [am_ckw])))) rfl rfl rfl (hlw _ (by simp [am_ckw, am_yPr])) (hlw _ (by simp [am_ckw])) (by decide +kernel) ⟨Nat.le_refl _, Nat.le_refl _⟩, hlw _ (by simp [am_ckw])⟩ ⟨am_blind, fun U hU hW => ⟨rfl, am_pre hGh hK hU hW⟩⟩ rfl rfl hl.1 rfl (lv_room (by decide)) am_dC5 ⟨Nat.le_of_eq (Nat.zero_add _), Nat.le_of_eq (Nat.zero_add _)⟩) hK.2.2.2.2 hGh rfl (Nat.le_refl _) ?_
    intro H1 locs1 g1 hz1
    refine lv_pop hx hb am_dC8 rfl ?_
    rw [Nat.zero_add, Nat.zero_add]
    exact W.vret hx hb B.returns (fun t ht _ => ⟨rfl, locs1, by rw [ht]; exact g1⟩) g1.2.2.1.2.2 am_dC9 B.notSynchronized
  rcases hK.2.2.1.2.2.2.2.2.2.2.2.2 with hZ | ⟨t, hZ⟩
  · exact main _ rfl hZ
  · exact main _ rfl hZ
variable {p : Program} {e : Env} {R : Room} {s : State} {m : MethodId} {args : Array Value} {below : List Frame} {meth : Method} {c : Code} {H : Heap} {locs : List Loc} {cells slots : Nat} {Q : State → Prop}
theorem am_ckrun (hG : ∀ w ∈ Ts, goodWord w = true) (hw : ∀ w ∈ am_ckw, w ∈ Ts) {cc : ByteArray} {nL pc index : Nat} {own : String} {lsr : Array Slot} {r : List Value} {x y : Int32} (hx : p.tables.exec = Jvm.exec) (hb : c.code = cc) (hml : c.maxLocals = nL) (hown : s.vm.findClass own = some m.cls) (hts : ∀ w ∈ Ts, w.before args s = true) (hsz : lsr.size = nL) (hK : am_K D ad dA Ls xs s) (g : am_G D ad dA Ls xs s.heap H h locs) (hz : H.size = s.heap.size + cells) (hlink : (Cond.methodLink own index am_yCk).before args s = true) (h0 : ¬ x < 0) (hy : x < y) (h8 : am_cat r ≤ 8) (hf : 2 ≤ R.frames) (hL : 60 ≤ R.locals) (hRc : cells + (h.1 - h.1) ≤ R.cells) (hRs : slots + (h.2.1 - h.2.1) ≤ R.slots) (hdg : decode cc pc = .ok (.invokestatic index, 3))
    (kk : ∀ (H1 : Heap) (locs1 : List Loc), am_G D ad dA Ls xs s.heap H1 h locs1 → H1.size = s.heap.size + cells → W p l e R s m args below meth c H1 locs1 cells slots Q (F0 m (pc + 3) lsr (r.map (am_v ad)))) : W p l e R s m args below meth c H locs cells slots Q (F0 m pc lsr ((.int y :: .int x :: r).map (am_v ad))) := by
  refine am_goC (h := h) (h1 := h) (r := none) (rest := r.map (am_v ad)) (va_runS (As := [.int x, .int y]) ⟨hx, hb, hml, hown, hts⟩ (am_ck1 hG hw h0 hy) ⟨callB_of 2 hts (am_goodT hG (am_consT (hw _ (by simp [am_ckw])))) rfl rfl rfl (hts _ (hw _ (by simp [am_ckw, am_yCk]))) hlink (by decide +kernel) ⟨hf, Nat.le_trans (show 8 + (2 + 11) + 22 ≤ 60 by decide) hL⟩, hts _ (hw _ (by simp [am_ckw]))⟩ ⟨am_blind, fun U hU hW => ⟨rfl, am_pre g hK hU hW⟩⟩ rfl rfl hsz rfl ?_ hdg ⟨hRc, hRs⟩) hK.2.2.2.2 g hz (Nat.le_refl _) ?_
  · rw [am_v_sum]
    show 2 * 0 + am_cat r ≤ 8
    omega
  · intro H1 locs1 g1 hz1
    rw [Nat.sub_self] at hz1
    have := kk H1 locs1 g1 hz1
    rw [Nat.sub_self, Nat.sub_self, Nat.add_zero, Nat.add_zero]
    exact this
end AMK
