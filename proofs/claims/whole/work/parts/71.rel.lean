/-! ===== what the abstract machine's state is on the JVM ===== -/
def am_v (ad : Nat → Nat) : Value → Value
  | .ref a => .ref (ad a)
  | v => v
theorem am_v_cat (ad : Nat → Nat) (v : Value) : (am_v ad v).category = v.category := by cases v <;> rfl
theorem am_v_sum (ad : Nat → Nat) (l : List Value) : ((l.map (am_v ad)).map fun v => v.category).sum = am_cat l := by
  induction l with
  | nil => rfl
  | cons v t ih =>
    rw [List.map_cons, List.map_cons, List.sum_cons, ih]
    cases v <;> rfl
def am_e (ad dA : Nat → Nat) : am_C → va_E
  | .inl (ci, fs) => .inr (ci, fs.map (am_v ad))
  | .inr (t, n, .inl f) => .inl (dA t, n, .inl f)
  | .inr (t, n, .inr (.inl f)) => .inl (dA t, n, .inr (.inl f))
  | .inr (t, n, .inr (.inr f)) => .inl (dA t, n, .inr (.inr (.inr (.inr (fun j => (f j).map ad)))))
def am_W (ad dA : Nat → Nat) (h : am_H) : va_W := (List.range (h.1 - 8)).map (fun i => (ad (i + 8), am_e ad dA (h.2.2 (i + 8))))
def am_A (ad : Nat → Nat) : Nat → Prop := fun q => ad 8 ≤ q
def am_ty (dA : Nat → Nat) : List (ClassId × FieldType) := [(dA 0, .int), (dA 1, .byte), (dA 2, .boolean), (dA 3, .long), (dA 4, .object RX6), (dA 5, .array .int)]
/-- the words that don't count among those that last, and yet do -/
def am_Ns : List Cond := [.methodLinkNest "StoneHome" 22 ⟨"StoneHome$Street", "<init>", "()V"⟩ "StoneHome", .methodLinkNest "StoneHome$Street" 45 ⟨"StoneHome$Laws", "<init>", "()V"⟩ "StoneHome", .methodLinkNest "StoneHome" 41 ⟨"StoneHome$Stone", "<init>", "()V"⟩ "StoneHome", .methodLinkNest "StoneHome$Past" 24 ⟨"StoneHome$Stone", "<init>", "()V"⟩ "StoneHome", .methodLinkNest "StoneHome" 84 ⟨"StoneHome$Scratches", "<init>", "()V"⟩ "StoneHome", .methodLinkNest "StoneHome$Street" 83 ⟨"StoneHome", "squareOf", "(II)I"⟩ "StoneHome", .methodLinkNest "StoneHome$Street" 87 ⟨"StoneHome", "lieOf", "(II)I"⟩ "StoneHome", .methodLinkNest "StoneHome$Street" 101 ⟨"StoneHome", "alongOf", "(I)I"⟩ "StoneHome", .methodLinkNest "StoneHome$Street" 104 ⟨"StoneHome", "acrossOf", "(I)I"⟩ "StoneHome", .methodLinkNest "StoneHome$Stone" 37 ⟨"StoneHome", "lieOf", "(II)I"⟩ "StoneHome", .methodLinkNest "StoneHome$Street" 121 ⟨"StoneHome", "held", "(II)I"⟩ "StoneHome", .methodLinkNest "StoneHome$Forecast" 99 ⟨"StoneHome", "sixesOf", "(I)I"⟩ "StoneHome", .methodLinkNest "StoneHome$Race" 95 ⟨"StoneHome", "sixesOf", "(I)I"⟩ "StoneHome", .methodLinkNest "StoneHome$Scratches" 65 ⟨"StoneHome", "lieOf", "(II)I"⟩ "StoneHome"]
def am_AA (U : State) : Prop := (Cond.arrayOver (.array .int)).before #[] U = true
def am_K5 (dA : Nat → Nat) (U : State) : Prop := (∃ kA : Class, U.vm.classes[dA 5]? = some kA ∧ kA.kind = .array (dA 0) (.array .int)) ∧ va_AO RX6 U ∧ am_AA U ∧ ∀ w ∈ am_Ns, va_Nw w U
/-- what never changes: the script, SIXES, the Strings -/
def am_Z (ad : Nat → Nat) (Ls : Nat) (xs : Nat → Int32) (U : State) (H : Heap) : Prop := va_X (ad 0) Ls xs U H ∧ ¬ am_A ad (ad 0) ∧ va_Z "StoneHome" "SIXES" "[I" (.ref (ad 1)) (am_A ad) U H ∧ va_T .int (ad 1) 11 (fun j => .int (am_sl.getD j 0)) (am_A ad) U H ∧ va_Z "java/lang/String" "COMPACT_STRINGS" "Z" (.int 1) (am_A ad) U H ∧ vk_R RX9 84 (am_tx 0) (ad 2) U ∧ vk_R RX9 73 (am_tx 1) (ad 3) U ∧ vk_R RX4 139 (am_tx 2) (ad 4) U ∧ vk_S 3 [123, 9, 7] am_by (fun i => ad (i + 2)) (fun i => ad (i + 5)) (am_A ad) U H ∧ va_Zq "jdk/internal/util/Preconditions" "SIOOBE_FORMATTER" "Ljava/util/function/BiFunction;" (am_A ad) U H
def am_K (D : va_G) (ad dA : Nat → Nat) (Ls : Nat) (xs : Nat → Int32) (U : State) : Prop := va_K D am_cl (am_ty dA) U ∧ am_K5 dA U ∧ am_Z ad Ls xs U U.heap ∧ ad 8 ≤ U.heap.size ∧ ∀ i, 8 ≤ i → ad (i + 1) = ad i + 1
def am_G (D : va_G) (ad dA : Nat → Nat) (Ls : Nat) (xs : Nat → Int32) (H0 H : Heap) (h : am_H) (locs : List Loc) : Prop := va_P D am_cl (am_W ad dA h) H ∧ va_D (am_A ad) (am_W ad dA h) ∧ va_S (am_A ad) H0 H locs ∧ 8 ≤ h.1 ∧ ad h.1 = H.size ∧ (∀ p, h.1 ≤ p → h.2.2 p = am_nil) ∧ (∀ p, p < 8 → h.2.2 p = am_im Ls xs p)
theorem am_ad {ad : Nat → Nat} (h : ∀ i, 8 ≤ i → ad (i + 1) = ad i + 1) : ∀ k, ad (8 + k) = ad 8 + k := by
  intro k
  induction k with
  | zero => rfl
  | succ k ih => rw [← Nat.add_assoc, h (8 + k) (by omega), ih, Nat.add_assoc]
theorem am_W_at {ad dA : Nat → Nat} {h : am_H} {p : Nat} (h8 : 8 ≤ p) (hp : p < h.1) : (am_W ad dA h)[p - 8]? = some (ad p, am_e ad dA (h.2.2 p)) := by
  unfold am_W
  rw [List.getElem?_map, List.getElem?_range (by omega)]
  simp [show p - 8 + 8 = p by omega]
theorem am_W_get {ad dA : Nat → Nat} {h : am_H} {k : Nat} {q : Nat × va_E} (hq : (am_W ad dA h)[k]? = some q) : k + 8 < h.1 ∧ q = (ad (k + 8), am_e ad dA (h.2.2 (k + 8))) := by
  unfold am_W at hq
  rw [List.getElem?_map] at hq
  by_cases hk : k < h.1 - 8
  · rw [List.getElem?_range hk] at hq
    simp at hq
    exact ⟨by omega, hq.symm⟩
  · rw [List.getElem?_eq_none (by simp; omega)] at hq
    simp at hq
theorem am_W_set {ad dA : Nat → Nat} {h : am_H} {p : Nat} (c : am_C) (h8 : 8 ≤ p) : (am_W ad dA h).set (p - 8) (ad p, am_e ad dA c) = am_W ad dA (am_up h p c) := by
  apply List.ext_getElem?
  intro k
  unfold am_W am_up
  rw [List.getElem?_set, List.getElem?_map, List.getElem?_map]
  dsimp only
  by_cases hk : k < h.1 - 8
  · rw [List.getElem?_range hk]
    by_cases e : p - 8 = k
    · subst e
      simp [va_up, show p - 8 + 8 = p by omega, hk]
    · rw [if_neg e]
      simp [va_up, show ¬ k + 8 = p by omega]
  · rw [List.getElem?_eq_none (show (List.range (h.1 - 8)).length ≤ k by simp; omega)]
    by_cases e : p - 8 = k
    · rw [if_pos e, if_neg (by simp; omega)]
      rfl
    · rw [if_neg e]
      rfl
theorem am_W_push {ad dA : Nat → Nat} {h : am_H} {k : Nat} (c : am_C) (h8 : 8 ≤ h.1) : am_W ad dA h ++ [(ad h.1, am_e ad dA c)] = am_W ad dA (am_nw h k c) := by
  unfold am_W am_nw
  dsimp only
  rw [show h.1 + 1 - 8 = h.1 - 8 + 1 by omega, List.range_succ, List.map_append]
  congr 1
  · apply List.map_congr_left
    intro i hi
    have := List.mem_range.mp hi
    simp [va_up, show ¬ i + 8 = h.1 by omega]
  · simp [va_up, show h.1 - 8 + 8 = h.1 by omega]
theorem am_S_tr {A : Nat → Prop} {H0 H H1 : Heap} {l l1 : List Loc} (h : va_S A H0 H l) (h1 : va_S A H H1 l1) : va_S A H0 H1 l1 :=
  ⟨Nat.le_trans h.1 h1.1, fun q a b => (h1.2.1 q (Nat.lt_of_lt_of_le a h.1) b).trans (h.2.1 q a b), h1.2.2⟩
theorem am_S_self {A : Nat → Prop} {H0 H : Heap} {l : List Loc} (h : va_S A H0 H l) : va_S A H H l := ⟨Nat.le_refl _, fun _ _ _ => rfl, h.2.2⟩
section AMS
variable {p : Program} {l : Launch} {e : Env} {R : Room} {s : State} {m : MethodId} {args : Array Value} {below : List Frame} {meth : Method} {c : Code} {H : Heap} {locs : List Loc} {cells slots : Nat} {Q : State → Prop}
variable {D : va_G} {ad dA : Nat → Nat} {Ls : Nat} {xs : Nat → Int32} {H0 H1 : Heap} {h : am_H} {locs1 : List Loc}
theorem am_sz {g : JFrame} (k : H.size ≤ s.heap.size + cells → W p l e R s m args below meth c H locs cells slots Q g) : W p l e R s m args below meth c H locs cells slots Q g := by
  intro T hT X
  exact k (by rw [← hT]; exact X.heapSize) T hT X
/-- a cell was written -/
theorem am_G_up {q : Nat} {x : am_C} (g : am_G D ad dA Ls xs H0 H h locs) (h8 : 8 ≤ q) (hq : q < h.1) (hz : H1.size ≤ H.size) (hP : va_P D am_cl ((am_W ad dA h).set (q - 8) (ad q, am_e ad dA x)) H1) (hD : va_D (am_A ad) ((am_W ad dA h).set (q - 8) (ad q, am_e ad dA x))) (hS : va_S (am_A ad) H H1 locs1) : am_G D ad dA Ls xs H0 H1 (am_up h q x) locs1 := by
  obtain ⟨g1, g2, g3, g4, g5, g6, g7⟩ := g
  rw [am_W_set x h8] at hP hD
  refine ⟨hP, hD, am_S_tr g3 hS, g4, ?_, fun p hp => ?_, fun p hp => ?_⟩
  · show ad h.1 = H1.size
    have := hS.1
    omega
  · show va_up h.2.2 q x p = am_nil
    have : p ≠ q := by intro e; subst e; exact absurd (show h.1 ≤ p from hp) (by omega)
    simp only [va_up, if_neg this]
    exact g6 p hp
  · show va_up h.2.2 q x p = am_im Ls xs p
    simp only [va_up, if_neg (show ¬ p = q by omega)]
    exact g7 p hp
/-- a cell was made -/
theorem am_G_nw {k : Nat} {x : am_C} (g : am_G D ad dA Ls xs H0 H h locs) (hA : ∀ i, 8 ≤ i → ad (i + 1) = ad i + 1) (hz : H1.size = H.size + 1) (hx : va_at D am_cl (ad h.1, am_e ad dA x) H1) (ho : ∀ q : Nat, q < H.size → H1[q]? = H[q]?) : am_G D ad dA Ls xs H0 H1 (am_nw h k x) locs := by
  obtain ⟨g1, g2, g3, g4, g5, g6, g7⟩ := g
  have hP : va_P D am_cl (am_W ad dA h ++ [(ad h.1, am_e ad dA x)]) H1 := by
    refine va_P.app (va_P.kept g1 (fun i q hq => ho q.1 ((g1 i q hq).lt))) (fun i q hq => ?_)
    have hi : i < 1 := (List.getElem?_eq_some_iff.mp hq).1
    rw [show i = 0 by omega] at hq
    cases hq
    exact hx
  have hD : va_D (am_A ad) (am_W ad dA h ++ [(ad h.1, am_e ad dA x)]) := g2.push g1 g5 (by
    show ad 8 ≤ ad h.1
    have := am_ad hA (h.1 - 8)
    rw [show 8 + (h.1 - 8) = h.1 by omega] at this
    omega)
  rw [am_W_push (k := k) x g4] at hP hD
  refine ⟨hP, hD, ⟨Nat.le_trans g3.1 (by omega), fun q a b => (ho q (Nat.lt_of_lt_of_le a g3.1)).trans (g3.2.1 q a b), g3.2.2⟩, Nat.le_succ_of_le g4, ?_, fun q hq => ?_, fun q hq => ?_⟩
  · show ad (h.1 + 1) = H1.size
    rw [hA h.1 g4, g5, hz]
  · show va_up h.2.2 h.1 x q = am_nil
    have hq' : h.1 + 1 ≤ q := hq
    simp only [va_up, if_neg (show ¬ q = h.1 by omega)]
    exact g6 q (by omega)
  · show va_up h.2.2 h.1 x q = am_im Ls xs q
    simp only [va_up, if_neg (show ¬ q = h.1 by omega)]
    exact g7 q hq
end AMS
/-- the locals: what is known of them lies there -/
def am_L (ad : Nat → Nat) (ls : List (Option Value)) (lsr : Array Slot) (nL : Nat) : Prop := lsr.size = nL ∧ lv_wf lsr ∧ ∀ i v, am_get ls i = some v → lsr[i]? = some (.val (am_v ad v))
def am_prs (ad : Nat → Nat) : Nat → List (Option Value) → List (Nat × Value)
  | _, [] => []
  | k, none :: t => am_prs ad (k + 1) t
  | k, some v :: t => (k, am_v ad v) :: am_prs ad (k + 1) t
theorem am_prs_mem {ad : Nat → Nat} : ∀ (ls : List (Option Value)) (k : Nat) (q : Nat × Value), q ∈ am_prs ad k ls ↔ ∃ i v, am_get ls i = some v ∧ q = (k + i, am_v ad v) := by
  intro ls
  induction ls with
  | nil => intro k q; simp [am_prs, am_get]
  | cons w t ih =>
    intro k q
    cases w with
    | none =>
      rw [am_prs, ih]
      constructor
      · rintro ⟨i, v, h, rfl⟩
        exact ⟨i + 1, v, h, by rw [Nat.add_assoc, Nat.add_comm 1 i]⟩
      · rintro ⟨i, v, h, rfl⟩
        cases i with
        | zero => simp [am_get] at h
        | succ i => exact ⟨i, v, h, by rw [Nat.add_assoc, Nat.add_comm 1 i]⟩
    | some w =>
      rw [am_prs, List.mem_cons, ih]
      constructor
      · rintro (rfl | ⟨i, v, h, rfl⟩)
        · exact ⟨0, w, rfl, rfl⟩
        · exact ⟨i + 1, v, h, by rw [Nat.add_assoc, Nat.add_comm 1 i]⟩
      · rintro ⟨i, v, h, rfl⟩
        cases i with
        | zero => left; simp [am_get] at h; subst h; rfl
        | succ i => right; exact ⟨i, v, h, by rw [Nat.add_assoc, Nat.add_comm 1 i]⟩
theorem am_L_has {ad : Nat → Nat} {ls : List (Option Value)} {lsr : Array Slot} {nL : Nat} (h : am_L ad ls lsr nL) : lv_has lsr nL (am_prs ad 0 ls) := by
  refine ⟨h.1, h.2.1, fun q hq => ?_⟩
  obtain ⟨i, v, hv, rfl⟩ := (am_prs_mem ls 0 q).mp hq
  rw [Nat.zero_add]
  exact h.2.2 i v hv
theorem am_get_set : ∀ (ls : List (Option Value)) (i j : Nat) (v : Option Value) (w : Value), am_get (am_set ls i v) j = some w → (j = i ∧ v = some w) ∨ (j ≠ i ∧ am_get ls j = some w) := by
  intro ls
  induction ls with
  | nil => intro i j v w h; simp [am_set, am_get] at h
  | cons a t ih =>
    intro i j v w h
    cases i with
    | zero =>
      cases j with
      | zero => left; exact ⟨rfl, h⟩
      | succ j => right; exact ⟨by omega, h⟩
    | succ i =>
      cases j with
      | zero => right; exact ⟨by omega, h⟩
      | succ j =>
        rcases ih i j v w h with ⟨a, b⟩ | ⟨a, b⟩
        · left; exact ⟨by omega, b⟩
        · right; exact ⟨by omega, b⟩
theorem am_get_cut {ls : List (Option Value)} {i j : Nat} {w : Value} (h : am_get (am_cut ls i) j = some w) : am_get ls j = some w ∧ ¬ (j + 1 = i ∧ w.category = 2 ∧ am_isL (some w) = true) := by
  cases i with
  | zero => exact ⟨h, by omega⟩
  | succ i =>
    change am_get (bif am_isL (am_get ls i) then am_set ls i none else ls) j = some w at h
    cases hb : am_isL (am_get ls i) with
    | true =>
      rw [hb] at h
      rcases am_get_set _ _ _ _ _ h with ⟨a, b⟩ | ⟨a, b⟩
      · cases b
      · exact ⟨b, by omega⟩
    | false =>
      rw [hb] at h
      refine ⟨h, fun z => ?_⟩
      have : j = i := by omega
      subst this
      rw [show am_get ls j = some w from h, z.2.2] at hb
      cases hb
/-- no double lies in the locals -/
def am_nd (ls : List (Option Value)) : Prop := ∀ i v, am_get ls i = some v → v.category = 2 → am_isL (some v) = true
theorem am_L_st1 {ad : Nat → Nat} {ls : List (Option Value)} {lsr : Array Slot} {nL i : Nat} {v : Value} (hn : am_nd ls) (h : lv_has lsr nL ((i, am_v ad v) :: (am_prs ad 0 ls).filter (fun q => !(q.1 == i) && !(q.1 + 1 == i && q.2.category == 2)))) : am_L ad (am_st1 ls i v) lsr nL := by
  refine ⟨h.1, h.2.1, fun j w hw => ?_⟩
  rcases am_get_set _ _ _ _ _ hw with ⟨a, b⟩ | ⟨a, b⟩
  · subst a; cases b
    exact h.2.2 (j, am_v ad v) List.mem_cons_self
  · obtain ⟨h1, h2⟩ := am_get_cut b
    refine h.2.2 (j, am_v ad w) (List.mem_cons_of_mem _ (List.mem_filter.mpr ⟨(am_prs_mem ls 0 _).mpr ⟨j, w, h1, by rw [Nat.zero_add]⟩, ?_⟩))
    have e1 : (j == i) = false := by simp [a]
    dsimp only
    rw [e1, am_v_cat]
    by_cases e2 : j + 1 = i
    · by_cases e3 : w.category = 2
      · exact absurd ⟨e2, e3, hn j w h1 e3⟩ h2
      · simp [e3]
    · simp [e2]
theorem am_L_st2 {ad : Nat → Nat} {ls : List (Option Value)} {lsr : Array Slot} {nL i : Nat} {v : Value} (hn : am_nd ls) (h : lv_has lsr nL ((i, am_v ad v) :: (am_prs ad 0 ls).filter (fun q => !(q.1 == i) && (!(q.1 == i + 1) && !(q.1 + 1 == i && q.2.category == 2))))) : am_L ad (am_st2 ls i v) lsr nL := by
  refine ⟨h.1, h.2.1, fun j w hw => ?_⟩
  rcases am_get_set _ _ _ _ _ hw with ⟨a, b⟩ | ⟨a0, b⟩
  · cases b
  · rcases am_get_set _ _ _ _ _ b with ⟨a, b2⟩ | ⟨a, b2⟩
    · cases b2; subst a
      exact h.2.2 (j, am_v ad v) List.mem_cons_self
    · obtain ⟨h1, h2⟩ := am_get_cut b2
      refine h.2.2 (j, am_v ad w) (List.mem_cons_of_mem _ (List.mem_filter.mpr ⟨(am_prs_mem ls 0 _).mpr ⟨j, w, h1, by rw [Nat.zero_add]⟩, ?_⟩))
      have e1 : (j == i) = false := by simp [a]
      have e0 : (j == i + 1) = false := by simp [a0]
      dsimp only
      rw [e1, e0, am_v_cat]
      by_cases e2 : j + 1 = i
      · by_cases e3 : w.category = 2
        · exact absurd ⟨e2, e3, hn j w h1 e3⟩ h2
        · simp [e3]
      · simp [e2]
theorem am_AA.moved {u U : State} (hvm : u.vm.Alike U.vm) (h : am_AA u) : am_AA U := over_moved hvm h
theorem am_Ns_warm {s U : State} (hW : s.WarmedH U.vm) (h : ∀ w ∈ am_Ns, va_Nw w s) : ∀ w ∈ am_Ns, va_Nw w U := by
  intro w hw
  have h1 := h w hw
  simp only [am_Ns, List.mem_cons, List.not_mem_nil, or_false] at hw
  rcases hw with e | e | e | e | e | e | e | e | e | e | e | e | e | e <;> subst e <;> exact va_Nw.warmM hW h1
theorem am_Ns_same {s U : State} (hv : s.vm = U.vm) (h : ∀ w ∈ am_Ns, va_Nw w s) : ∀ w ∈ am_Ns, va_Nw w U := by
  intro w hw
  have h1 := h w hw
  simp only [am_Ns, List.mem_cons, List.not_mem_nil, or_false] at hw
  rcases hw with e | e | e | e | e | e | e | e | e | e | e | e | e | e <;> subst e <;> exact va_Nw.same rfl hv h1
