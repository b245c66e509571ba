/-! ===== the JVM does what the abstract machine says: what is asked of a table, and the plain instructions ===== -/
def am_rty : Nat → Option FieldType
  | 0 => none
  | 1 => some .int
  | 2 => some .boolean
  | 3 => some .char
  | 4 => some .long
  | _ => some .byte
def am_len : Instr → Nat
  | .aload _ | .iload _ | .lload _ | .astore _ | .istore _ | .lstore _ | .bipush _ | .ldc _ | .newarray _ => 2
  | .iinc _ _ | .sipush _ | .ldc_w _ | .ldc2_w _ | .goto _ | .ifCond _ _ | .if_icmp _ _ | .ifnonnull _ | .getfield _ | .putfield _ | .getstatic _ | .new _ | .anewarray _ | .invokevirtual _ | .invokespecial _ | .invokestatic _ => 3
  | _ => 1
/-- String.checkIndex and what it calls: one instruction of the abstract machine -/
def am_yCk : MethodName := ⟨"java/lang/String", "checkIndex", "(II)V"⟩
def am_yPr : MethodName := ⟨"jdk/internal/util/Preconditions", "checkIndex", "(IILjava/util/function/BiFunction;)I"⟩
def am_ckw : List Cond := [.code am_yCk prog_16_method_155_code 2 none, .static am_yCk, .initialized "java/lang/String", .methodLink "java/lang/String" 1059 am_yPr, .static am_yPr, .initialized "jdk/internal/util/Preconditions", .code am_yPr prog_21_method_11_code 3 (some .int), .fieldLink "java/lang/String" 1053 "jdk/internal/util/Preconditions" "SIOOBE_FORMATTER" "Ljava/util/function/BiFunction;"]
/-- what the tables must say of an instruction of a method of class own, with maxL locals -/
def am_Ei (P : Nat → am_M) (yN : Nat → MethodName) (NM : Nat) (Ts : List Cond) (own yn : String) (maxL : Nat) (i : Instr) (pc a b : Nat) : Prop := match i with
  | .aload k | .iload k | .lload k => a = k
  | .aload_n k | .iload_n k | .lload_n k => a = k.val
  | .astore k | .istore k => a = k ∧ k < maxL
  | .astore_n k | .istore_n k => a = k.val ∧ k.val < maxL
  | .lstore k => a = k ∧ k + 1 < maxL
  | .lstore_n k => a = k.val ∧ k.val + 1 < maxL
  | .iinc k _ => a = k ∧ k < maxL
  | .ldc idx => (a = 0 ∧ Cond.constant own idx (Int32.ofNat b) ∈ Ts) ∨ (a = 1 ∧ ((b = 2 ∧ own = RX9 ∧ idx = 84) ∨ (b = 3 ∧ own = RX9 ∧ idx = 73) ∨ (b = 4 ∧ own = RX4 ∧ idx = 139)))
  | .ldc_w idx => Cond.constant own idx (Int32.ofNat b) ∈ Ts
  | .ldc2_w idx => Cond.constantLong own idx (Int64.ofNat b) ∈ Ts
  | .goto off | .ifCond _ off | .if_icmp _ off | .ifnonnull off => (pc : Int) + off = (a : Int)
  | .tableswitch dflt _ _ _ => (pc : Int) + dflt = (a : Int)
  | .baload | .bastore => a = 1 ∨ a = 2
  | .aaload => a = 4 ∨ a = 5
  | .newarray ty => am_aty ty < 4 ∧ Cond.arrayClass (newarray.typeOf ty) ∈ Ts
  | .anewarray idx => (a = 4 ∧ Cond.classLink own idx RX6 ∈ Ts) ∨ (a = 5 ∧ Cond.classLink own idx "[I" ∈ Ts)
  | .new idx => a < 12 ∧ Cond.classLink own idx (am_cn a) ∈ Ts ∧ Cond.instantiable (am_cn a) (am_nf a) ∈ Ts ∧ Cond.initialized (am_cn a) ∈ Ts
  | .getfield idx => (a < 12 ∧ b < am_nf a ∧ Cond.fieldLink own idx (am_tb a b).1 (am_tb a b).2.1 (am_tb a b).2.2.1 ∈ Ts) ∨ (a = 15 ∧ ((b = 0 ∧ Cond.fieldLink own idx "java/lang/String" "value" "[B" ∈ Ts) ∨ (b = 1 ∧ Cond.fieldLink own idx "java/lang/String" "coder" "B" ∈ Ts)))
  | .putfield idx => a < 12 ∧ b / 8 < am_nf a ∧ Cond.fieldLink own idx (am_tb a (b / 8)).1 (am_tb a (b / 8)).2.1 (am_tb a (b / 8)).2.2.1 ∈ Ts ∧ ((b % 4 = 0 ∧ am_ft a (b / 8) = .int) ∨ (b % 4 = 1 ∧ am_ft a (b / 8) = .boolean) ∨ (b % 4 = 2 ∧ ∃ n, am_ft a (b / 8) = .object n) ∨ (b % 4 = 2 ∧ ∃ n, am_ft a (b / 8) = .array n)) ∧ ((am_tb a (b / 8)).2.2.2 = false ∨ ((am_tb a (b / 8)).2.2.2 = true ∧ yn = "<init>" ∧ (am_tb a (b / 8)).1 = own))
  | .getstatic idx => (a = 0 ∧ Cond.fieldLink own idx "StoneHome" "SIXES" "[I" ∈ Ts) ∨ (a = 1 ∧ Cond.fieldLink own idx "java/lang/String" "COMPACT_STRINGS" "Z" ∈ Ts)
  | .invokevirtual idx => a < NM ∧ Cond.methodLink own idx (yN a) ∈ Ts ∧ Cond.instanceMethod (yN a) ∈ Ts ∧ Cond.selects (yN a).cls (yN a) (yN a) ∈ Ts ∧ (parseMethodDescriptor (yN a).desc).map (fun d => d.parameters.length) = some b
  | .invokespecial idx => (a = 999 ∧ Cond.methodLink own idx objectInit ∈ Ts ∧ Cond.instanceMethod objectInit ∈ Ts ∧ Cond.code objectInit ⟨#[0xb1]⟩ 1 none ∈ Ts) ∨ (¬ a = 999 ∧ a < NM ∧ (Cond.methodLink own idx (yN a) ∈ Ts ∨ ∃ host, Cond.methodLinkNest own idx (yN a) host ∈ am_Ns) ∧ Cond.instanceMethod (yN a) ∈ Ts ∧ (yN a).name = "<init>" ∧ (P a).2.2.1 = 0 ∧ (parseMethodDescriptor (yN a).desc).map (fun d => d.parameters.length) = some b)
  | .invokestatic idx => (a = 998 ∧ Cond.methodLink own idx arraycopyName ∈ Ts ∧ Cond.native arraycopyName ∈ Ts ∧ Cond.static arraycopyName ∈ Ts ∧ Cond.initialized "java/lang/System" ∈ Ts) ∨ (a = 997 ∧ Cond.methodLink own idx Lib.Math.min.name ∈ Ts ∧ Cond.static Lib.Math.min.name ∈ Ts ∧ Cond.initialized "java/lang/Math" ∈ Ts ∧ Cond.code Lib.Math.min.name Lib.Math.min.code 2 (some .int) ∈ Ts) ∨ (a = 996 ∧ Cond.methodLink own idx Lib.Math.max.name ∈ Ts ∧ Cond.static Lib.Math.max.name ∈ Ts ∧ Cond.initialized "java/lang/Math" ∈ Ts ∧ Cond.code Lib.Math.max.name Lib.Math.max.code 2 (some .int) ∈ Ts) ∨ (a = 994 ∧ Cond.methodLink own idx am_yCk ∈ Ts ∧ ∀ w ∈ am_ckw, w ∈ Ts) ∨ (¬ a = 998 ∧ ¬ a = 997 ∧ ¬ a = 996 ∧ ¬ a = 994 ∧ a < NM ∧ (Cond.methodLink own idx (yN a) ∈ Ts ∨ ∃ host, Cond.methodLinkNest own idx (yN a) host ∈ am_Ns) ∧ Cond.static (yN a) ∈ Ts ∧ (parseMethodDescriptor (yN a).desc).map (fun d => d.parameters.length) = some b)
  | _ => True
/-- an entry of a table is right -/
def am_E (P : Nat → am_M) (yN : Nat → MethodName) (cN : Nat → ByteArray) (NM : Nat) (Ts : List Cond) (M pc : Nat) (q : am_I) : Prop :=
  (∃ len, decode (cN M) pc = .ok (q.1, len) ∧ ((∃ d lo hi os, q.1 = .tableswitch d lo hi os) ∨ (len = am_len q.1 ∧ q.2.1 = pc + len))) ∧ am_Ei P yN NM Ts (am_cn (P M).1) (yN M).name (P M).2.1 q.1 pc q.2.2.1 q.2.2.2
/-- the frame in which a method is walked -/
def am_X (P : Nat → am_M) (yN : Nat → MethodName) (cN : Nat → ByteArray) (Ts : List Cond) (p : Program) (s : State) (m : MethodId) (args : Array Value) (meth : Method) (c : Code) (M : Nat) : Prop :=
  p.tables.exec = Jvm.exec ∧ c.code = cN M ∧ c.maxLocals = (P M).2.1 ∧ s.vm.findClass (am_cn (P M).1) = some m.cls ∧ (∀ w ∈ Ts, w.before args s = true) ∧ meth.sig.returnType = am_rty (P M).2.2.1 ∧ meth.locks = false ∧ meth.name = (yN M).name
def am_LN (ad : Nat → Nat) (ls : List (Option Value)) (lsr : Array Slot) (nL : Nat) : Prop := am_L ad ls lsr nL ∧ am_nd ls
theorem am_nd_set {ls : List (Option Value)} {i : Nat} {v : Option Value} (h : am_nd ls) (hv : ∀ w, v = some w → w.category = 2 → am_isL (some w) = true) : am_nd (am_set ls i v) := by
  intro j w hw h2
  rcases am_get_set _ _ _ _ _ hw with ⟨a, b⟩ | ⟨a, b⟩
  · exact hv w b h2
  · exact h j w b h2
theorem am_nd_cut {ls : List (Option Value)} {i : Nat} (h : am_nd ls) : am_nd (am_cut ls i) := fun j w hw h2 => h j w (am_get_cut hw).1 h2
section AMP
variable {p : Program} {l : Launch} {e : Env} {R : Room} {s : State} {m : MethodId} {args : Array Value} {below : List Frame} {meth : Method} {c : Code} {H : Heap} {locs : List Loc} {cells slots : Nat} {Q : State → Prop}
variable {D : va_G} {ad dA : Nat → Nat} {Ls : Nat} {xs : Nat → Int32} {h : am_H} {P : Nat → am_M} {yN : Nat → MethodName} {cN : Nat → ByteArray} {Ts : List Cond} {NM M pc nx a b d L ret nL : Nat} {ls : List (Option Value)} {lsr : Array Slot} {st : List Value} {S' : am_S}
/-- what stands behind an instruction -/
def am_KK (p : Program) (l : Launch) (e : Env) (R : Room) (s : State) (m : MethodId) (args : Array Value) (below : List Frame) (meth : Method) (c : Code) (cells slots : Nat) (Q : State → Prop) (D : va_G) (ad dA : Nat → Nat) (Ls : Nat) (xs : Nat → Int32) (nL : Nat) (h : am_H) (S' : am_S) : Prop :=
  ∀ (H1 : Heap) (locs1 : List Loc) (lsr1 : Array Slot), am_G D ad dA Ls xs s.heap H1 S'.2.2.2 locs1 → am_LN ad S'.2.1 lsr1 nL → H1.size = s.heap.size + (cells + (S'.2.2.2.1 - h.1)) → W p l e R s m args below meth c H1 locs1 (cells + (S'.2.2.2.1 - h.1)) (slots + (S'.2.2.2.2.1 - h.2.1)) Q (F0 m S'.1 lsr1 (S'.2.2.1.map (am_v ad)))
theorem am_go {pc' : Nat} {ls' : List (Option Value)} {lsr' : Array Slot} {st' : List Value} (kk : am_KK p l e R s m args below meth c cells slots Q D ad dA Ls xs nL h (pc', ls', st', h)) (g : am_G D ad dA Ls xs s.heap H h locs) (hl : am_LN ad ls' lsr' nL) (hz : H.size = s.heap.size + cells) : W p l e R s m args below meth c H locs cells slots Q (F0 m pc' lsr' (st'.map (am_v ad))) := by
  have := kk H locs lsr' g hl (by show H.size = s.heap.size + (cells + (h.1 - h.1)); rw [Nat.sub_self]; exact hz)
  simpa only [Nat.sub_self, Nat.add_zero] using this
/-- the instructions that look at the heap or at the tables -/
def am_hp : Instr → Bool
  | .iaload | .baload | .laload | .aaload | .iastore | .bastore | .lastore | .aastore | .arraylength | .newarray _ | .anewarray _ | .new _ | .getfield _ | .putfield _ | .getstatic _ | .invokevirtual _ | .invokespecial _ | .invokestatic _ | .ldc _ => true
  | _ => false
/-- the plain instructions: stack and locals alone -/
theorem am_sd1 (X : am_X P yN cN Ts p s m args meth c M) (hml : nL = (P M).2.1) (hK : am_K D ad dA Ls xs s) {i : Instr} (hd : ∃ len, decode (cN M) pc = .ok (i, len) ∧ ((∃ d lo hi os, i = .tableswitch d lo hi os) ∨ (len = am_len i ∧ nx = pc + len))) (hE : am_Ei P yN NM Ts (am_cn (P M).1) (yN M).name (P M).2.1 i pc a b)
    (g : am_G D ad dA Ls xs s.heap H h locs) (hl : am_LN ad ls lsr nL) (hz : H.size = s.heap.size + cells) (kk : am_KK p l e R s m args below meth c cells slots Q D ad dA Ls xs nL h S') (hs : am_do P d L ret i pc nx a b ls st h = some (.inl S'))
    (hh : am_hp i = false) :
    W p l e R s m args below meth c H locs cells slots Q (F0 m pc lsr (st.map (am_v ad))) := by
  obtain ⟨hx, hb, hml2, hown, hts, hr, hlocks, hnm⟩ := X
  obtain ⟨len, hd, hlen⟩ := hd
  cases i
  case tableswitch dflt lo hi offs =>
    have hs0 := am_i1_inv hs; clear hs; obtain ⟨x, r, hst, hs⟩ := hs0; subst hst
    split at hs
    · rename_i hc
      cases hs
      exact lv_tableOut hx hb hd hc hE (am_go kk g hl hz)
    · rename_i hc
      split at hs
      · rename_i off ho
        split at hs
        · cases hs
        · rename_i hn
          cases hs
          exact lv_tableIn hx hb hd (fun z => hc (Or.inl z)) (fun z => hc (Or.inr z)) ho (by omega) (am_go kk g hl hz)
      · cases hs
  all_goals (have hl1 := hlen.resolve_left (by rintro ⟨_, _, _, _, hq⟩; cases hq); have hl2 := hl1.1; have hl3 := hl1.2; clear hl1 hlen; subst hl2; subst hl3)
  case aload k =>
    cases hE
    dsimp only [am_do] at hs
    split at hs
    · rename_i q hq
      cases hs
      exact lv_aload hx hb hd (hl.1.2.2 _ _ hq) (am_go kk g hl hz)
    · cases hs
  case aload_n k =>
    cases hE
    dsimp only [am_do] at hs
    split at hs
    · rename_i q hq
      cases hs
      exact lv_aload_n hx hb hd rfl (hl.1.2.2 _ _ hq) (am_go kk g hl hz)
    · cases hs
  case iload k =>
    cases hE
    dsimp only [am_do] at hs
    split at hs
    · rename_i q hq
      cases hs
      exact lv_iload hx hb hd (hl.1.2.2 _ _ hq) (am_go kk g hl hz)
    · cases hs
  case iload_n k =>
    cases hE
    dsimp only [am_do] at hs
    split at hs
    · rename_i q hq
      cases hs
      exact lv_iload_n hx hb hd rfl (hl.1.2.2 _ _ hq) (am_go kk g hl hz)
    · cases hs
  case lload k =>
    cases hE
    dsimp only [am_do] at hs
    split at hs
    · rename_i q hq
      cases hs
      exact lv_lload hx hb hd (hl.1.2.2 _ _ hq) (am_go kk g hl hz)
    · cases hs
  case lload_n k =>
    cases hE
    dsimp only [am_do] at hs
    split at hs
    · rename_i q hq
      cases hs
      exact lv_lload_n hx hb hd rfl (hl.1.2.2 _ _ hq) (am_go kk g hl hz)
    · cases hs
  case astore k =>
    obtain ⟨rfl, hk⟩ := hE
    have hs0 := am_r1_inv hs; clear hs; obtain ⟨q, r, hst, hs⟩ := hs0; subst hst
    cases hs
    exact lv_astore hx hb hd (am_L_has hl.1) (by rw [hml]; exact hk) rfl (fun ls' h' => am_go kk g ⟨am_L_st1 (v := .ref q) hl.2 h', am_nd_set (am_nd_cut hl.2) (fun w e h2 => by cases e; cases h2)⟩ hz)
  case astore_n k =>
    obtain ⟨rfl, hk⟩ := hE
    have hs0 := am_r1_inv hs; clear hs; obtain ⟨q, r, hst, hs⟩ := hs0; subst hst
    cases hs
    exact lv_astore_n hx hb hd rfl (am_L_has hl.1) (by rw [hml]; exact hk) rfl (fun ls' h' => am_go kk g ⟨am_L_st1 (v := .ref q) hl.2 h', am_nd_set (am_nd_cut hl.2) (fun w e h2 => by cases e; cases h2)⟩ hz)
  case istore k =>
    obtain ⟨rfl, hk⟩ := hE
    have hs0 := am_i1_inv hs; clear hs; obtain ⟨q, r, hst, hs⟩ := hs0; subst hst
    cases hs
    exact lv_istore hx hb hd (am_L_has hl.1) (by rw [hml]; exact hk) rfl (fun ls' h' => am_go kk g ⟨am_L_st1 (v := .int q) hl.2 h', am_nd_set (am_nd_cut hl.2) (fun w e h2 => by cases e; cases h2)⟩ hz)
  case istore_n k =>
    obtain ⟨rfl, hk⟩ := hE
    have hs0 := am_i1_inv hs; clear hs; obtain ⟨q, r, hst, hs⟩ := hs0; subst hst
    cases hs
    exact lv_istore_n hx hb hd rfl (am_L_has hl.1) (by rw [hml]; exact hk) rfl (fun ls' h' => am_go kk g ⟨am_L_st1 (v := .int q) hl.2 h', am_nd_set (am_nd_cut hl.2) (fun w e h2 => by cases e; cases h2)⟩ hz)
  case lstore k =>
    obtain ⟨rfl, hk⟩ := hE
    have hs0 := am_l1_inv hs; clear hs; obtain ⟨q, r, hst, hs⟩ := hs0; subst hst
    cases hs
    exact lv_lstore hx hb hd (am_L_has hl.1) (by rw [hml]; exact hk) rfl (fun ls' h' => am_go kk g ⟨am_L_st2 (v := .long q) hl.2 h', am_nd_set (am_nd_set (am_nd_cut hl.2) (fun w e h2 => by cases e; rfl)) (fun w e => by cases e)⟩ hz)
  case lstore_n k =>
    obtain ⟨rfl, hk⟩ := hE
    have hs0 := am_l1_inv hs; clear hs; obtain ⟨q, r, hst, hs⟩ := hs0; subst hst
    cases hs
    exact lv_lstore_n hx hb hd rfl (am_L_has hl.1) (by rw [hml]; exact hk) rfl (fun ls' h' => am_go kk g ⟨am_L_st2 (v := .long q) hl.2 h', am_nd_set (am_nd_set (am_nd_cut hl.2) (fun w e h2 => by cases e; rfl)) (fun w e => by cases e)⟩ hz)
  case iinc k n =>
    obtain ⟨rfl, hk⟩ := hE
    dsimp only [am_do] at hs
    split at hs
    · rename_i q hq
      cases hs
      obtain ⟨j, hj⟩ := List.mem_iff_getElem?.mp ((am_prs_mem ls 0 (a, .int q)).mpr ⟨a, .int q, hq, by rw [Nat.zero_add]; rfl⟩)
      exact lv_iinc hx hb hd (am_L_has hl.1) hj rfl (by rw [hml]; exact hk) rfl (fun ls' h' => am_go kk g ⟨am_L_st1 (v := .int _) hl.2 h', am_nd_set (am_nd_cut hl.2) (fun w e h2 => by cases e; cases h2)⟩ hz)
    · cases hs
  case iconst n => cases hs; exact lv_iconst hx hb hd rfl (am_go kk g hl hz)
  case bipush n => cases hs; exact lv_bipush hx hb hd rfl (am_go kk g hl hz)
  case sipush n => cases hs; exact lv_sipush hx hb hd rfl (am_go kk g hl hz)
  case lconst n => cases hs; exact lv_lconst hx hb hd rfl (am_go kk g hl hz)
  case ldc_w idx => cases hs; exact lv_ldcw hx hb hown (hts _ hE) hd (am_go kk g hl hz)
  case ldc2_w idx => cases hs; exact lv_ldc2 hx hb hown (hts _ hE) hd (am_go kk g hl hz)
  case iadd => have hs0 := am_ii_inv hs; clear hs; obtain ⟨x, y, r, hst, hs⟩ := hs0; subst hst; cases hs; exact lv_iadd hx hb hd (am_go kk g hl hz)
  case isub => have hs0 := am_ii_inv hs; clear hs; obtain ⟨x, y, r, hst, hs⟩ := hs0; subst hst; cases hs; exact lv_isub hx hb hd (am_go kk g hl hz)
  case imul => have hs0 := am_ii_inv hs; clear hs; obtain ⟨x, y, r, hst, hs⟩ := hs0; subst hst; cases hs; exact lv_imul hx hb hd (am_go kk g hl hz)
  case iand => have hs0 := am_ii_inv hs; clear hs; obtain ⟨x, y, r, hst, hs⟩ := hs0; subst hst; cases hs; exact lv_iand hx hb hd (am_go kk g hl hz)
  case ior => have hs0 := am_ii_inv hs; clear hs; obtain ⟨x, y, r, hst, hs⟩ := hs0; subst hst; cases hs; exact lv_ior hx hb hd (am_go kk g hl hz)
  case ixor => have hs0 := am_ii_inv hs; clear hs; obtain ⟨x, y, r, hst, hs⟩ := hs0; subst hst; cases hs; exact lv_ixor hx hb hd (am_go kk g hl hz)
  case ishl => have hs0 := am_ii_inv hs; clear hs; obtain ⟨x, y, r, hst, hs⟩ := hs0; subst hst; cases hs; exact lv_ishl hx hb hd (am_go kk g hl hz)
  case ishr => have hs0 := am_ii_inv hs; clear hs; obtain ⟨x, y, r, hst, hs⟩ := hs0; subst hst; cases hs; exact lv_ishr hx hb hd (am_go kk g hl hz)
  case iushr => have hs0 := am_ii_inv hs; clear hs; obtain ⟨x, y, r, hst, hs⟩ := hs0; subst hst; cases hs; exact lv_iushr hx hb hd rfl (am_go kk g hl hz)
  case idiv =>
    have hs0 := am_ii_inv hs; clear hs; obtain ⟨x, y, r, hst, hs⟩ := hs0; subst hst
    split at hs
    · cases hs
    · rename_i hy
      cases hs; exact lv_idiv hx hb hd hy (am_go kk g hl hz)
  case irem =>
    have hs0 := am_ii_inv hs; clear hs; obtain ⟨x, y, r, hst, hs⟩ := hs0; subst hst
    split at hs
    · cases hs
    · rename_i hy
      cases hs; exact lv_irem hx hb hd hy (am_go kk g hl hz)
  case ineg => have hs0 := am_i1_inv hs; clear hs; obtain ⟨x, r, hst, hs⟩ := hs0; subst hst; cases hs; exact lv_ineg hx hb hd (am_go kk g hl hz)
  case ladd => have hs0 := am_ll_inv hs; clear hs; obtain ⟨x, y, r, hst, hs⟩ := hs0; subst hst; cases hs; exact lv_ladd hx hb hd (am_go kk g hl hz)
  case lmul => have hs0 := am_ll_inv hs; clear hs; obtain ⟨x, y, r, hst, hs⟩ := hs0; subst hst; cases hs; exact lv_lmul hx hb hd (am_go kk g hl hz)
  case lor => have hs0 := am_ll_inv hs; clear hs; obtain ⟨x, y, r, hst, hs⟩ := hs0; subst hst; cases hs; exact lv_lor hx hb hd (am_go kk g hl hz)
  case lcmp => have hs0 := am_ll_inv hs; clear hs; obtain ⟨x, y, r, hst, hs⟩ := hs0; subst hst; cases hs; exact W.lcmp hx hb hd (am_go kk g hl hz)
  case ldiv =>
    have hs0 := am_ll_inv hs; clear hs; obtain ⟨x, y, r, hst, hs⟩ := hs0; subst hst
    split at hs
    · cases hs
    · rename_i hy
      cases hs; exact lv_ldiv hx hb hd hy (am_go kk g hl hz)
  case lrem =>
    have hs0 := am_ll_inv hs; clear hs; obtain ⟨x, y, r, hst, hs⟩ := hs0; subst hst
    split at hs
    · cases hs
    · rename_i hy
      cases hs; exact lv_lrem hx hb hd hy (am_go kk g hl hz)
  case lshl =>
    have hs0 := am_i1_inv hs; clear hs; obtain ⟨y, r, hst, hs⟩ := hs0; subst hst
    have hs0 := am_l1_inv hs; clear hs; obtain ⟨x, r, hst, hs⟩ := hs0; subst hst
    cases hs; exact lv_lshl hx hb hd rfl (am_go kk g hl hz)
  case i2l => have hs0 := am_i1_inv hs; clear hs; obtain ⟨x, r, hst, hs⟩ := hs0; subst hst; cases hs; exact lv_i2l hx hb hd rfl (am_go kk g hl hz)
  case l2i => have hs0 := am_l1_inv hs; clear hs; obtain ⟨x, r, hst, hs⟩ := hs0; subst hst; cases hs; exact lv_l2i hx hb hd rfl (am_go kk g hl hz)
  case i2b => have hs0 := am_i1_inv hs; clear hs; obtain ⟨x, r, hst, hs⟩ := hs0; subst hst; cases hs; exact lv_i2b hx hb hd rfl (am_go kk g hl hz)
  case i2c => have hs0 := am_i1_inv hs; clear hs; obtain ⟨x, r, hst, hs⟩ := hs0; subst hst; cases hs; exact lv_i2c hx hb hd rfl (am_go kk g hl hz)
  case dup =>
    dsimp only [am_do] at hs
    split at hs
    · cases hs; exact lv_dup hx hb hd rfl (am_go kk g hl hz)
    · cases hs; exact lv_dup hx hb hd rfl (am_go kk g hl hz)
    · cases hs
  case dup2 => have hs0 := am_ri_inv hs; clear hs; obtain ⟨q, j, r, hst, hs⟩ := hs0; subst hst; cases hs; exact lv_dup2_11 hx hb hd rfl rfl (am_go kk g hl hz)
  case pop => have hs0 := am_i1_inv hs; clear hs; obtain ⟨x, r, hst, hs⟩ := hs0; subst hst; cases hs; exact lv_pop hx hb hd rfl (am_go kk g hl hz)
  case goto off => cases hs; exact lv_goto hx hb hd hE (am_go kk g hl hz)
  case ifnonnull off =>
    dsimp only [am_do] at hs
    split at hs
    · cases hs; exact lv_ifnonnull hx hb hd hE (am_go kk g hl hz)
    · cases hs; exact lv_ifnonnullN hx hb hd (am_go kk g hl hz)
    · cases hs
  case ifCond cd off =>
    have hs0 := am_i1_inv hs; clear hs; obtain ⟨x, r, hst, hs⟩ := hs0; subst hst
    cases hc : am_cnd cd x 0 with
    | true =>
      rw [hc] at hs; cases hs
      cases cd
      · exact lv_if_eq hx hb hd hE (fun _ => am_go kk g hl hz) (fun z => absurd (of_decide_eq_true hc) z)
      · exact lv_if_ne hx hb hd hE (fun _ => am_go kk g hl hz) (fun z => absurd z (of_decide_eq_true hc))
      · exact lv_if_lt hx hb hd hE (fun _ => am_go kk g hl hz) (fun z => absurd (of_decide_eq_true hc) z)
      · exact lv_if_ge hx hb hd hE (fun _ => am_go kk g hl hz) (fun z => absurd (of_decide_eq_true hc) z)
      · exact lv_if_gt hx hb hd hE (fun _ => am_go kk g hl hz) (fun z => absurd (of_decide_eq_true hc) z)
      · exact lv_if_le hx hb hd hE (fun _ => am_go kk g hl hz) (fun z => absurd (of_decide_eq_true hc) z)
    | false =>
      rw [hc] at hs; cases hs
      cases cd
      · exact lv_if_eq hx hb hd hE (fun z => absurd z (of_decide_eq_false hc)) (fun _ => am_go kk g hl hz)
      · exact lv_if_ne hx hb hd hE (fun z => absurd z (of_decide_eq_false hc)) (fun _ => am_go kk g hl hz)
      · exact lv_if_lt hx hb hd hE (fun z => absurd z (of_decide_eq_false hc)) (fun _ => am_go kk g hl hz)
      · exact lv_if_ge hx hb hd hE (fun z => absurd z (of_decide_eq_false hc)) (fun _ => am_go kk g hl hz)
      · exact lv_if_gt hx hb hd hE (fun z => absurd z (of_decide_eq_false hc)) (fun _ => am_go kk g hl hz)
      · exact lv_if_le hx hb hd hE (fun z => absurd z (of_decide_eq_false hc)) (fun _ => am_go kk g hl hz)
  case if_icmp cd off =>
    have hs0 := am_ii_inv hs; clear hs; obtain ⟨x, y, r, hst, hs⟩ := hs0; subst hst
    cases hc : am_cnd cd x y with
    | true =>
      rw [hc] at hs; cases hs
      cases cd
      · exact lv_icmp_eq hx hb hd hE (fun _ => am_go kk g hl hz) (fun z => absurd (of_decide_eq_true hc) z)
      · exact lv_icmp_ne hx hb hd hE (fun _ => am_go kk g hl hz) (fun z => absurd z (of_decide_eq_true hc))
      · exact lv_icmp_lt hx hb hd hE (fun _ => am_go kk g hl hz) (fun z => absurd (of_decide_eq_true hc) z)
      · exact lv_icmp_ge hx hb hd hE (fun _ => am_go kk g hl hz) (fun z => absurd (of_decide_eq_true hc) z)
      · exact lv_icmp_gt hx hb hd hE (fun _ => am_go kk g hl hz) (fun z => absurd (of_decide_eq_true hc) z)
      · exact lv_icmp_le hx hb hd hE (fun _ => am_go kk g hl hz) (fun z => absurd (of_decide_eq_true hc) z)
    | false =>
      rw [hc] at hs; cases hs
      cases cd
      · exact lv_icmp_eq hx hb hd hE (fun z => absurd z (of_decide_eq_false hc)) (fun _ => am_go kk g hl hz)
      · exact lv_icmp_ne hx hb hd hE (fun z => absurd z (of_decide_eq_false hc)) (fun _ => am_go kk g hl hz)
      · exact lv_icmp_lt hx hb hd hE (fun z => absurd z (of_decide_eq_false hc)) (fun _ => am_go kk g hl hz)
      · exact lv_icmp_ge hx hb hd hE (fun z => absurd z (of_decide_eq_false hc)) (fun _ => am_go kk g hl hz)
      · exact lv_icmp_gt hx hb hd hE (fun z => absurd z (of_decide_eq_false hc)) (fun _ => am_go kk g hl hz)
      · exact lv_icmp_le hx hb hd hE (fun z => absurd z (of_decide_eq_false hc)) (fun _ => am_go kk g hl hz)
  all_goals (first | (cases hh; done) | (cases hs; done) | (exfalso; dsimp only [am_do] at hs; split at hs <;> first | (cases hs; done) | (have hs1 := (am_bif_inv hs).2; cases hs1)))
end AMP
