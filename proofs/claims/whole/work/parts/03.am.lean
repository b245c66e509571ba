/-! ===== THE ABSTRACT MACHINE: the instructions that the class, the reference and the law use, over a heap by places; am_run is a function; part 04 shows that the JVM does what it says ===== -/
/-- a cell: an object (class, fields), or an array (0 int, 1 byte, 2 boolean, 3 long, 4 stones, 5 int rows; length; contents); a reference is a place -/
abbrev am_C : Type := (Nat × List Value) ⊕ (Nat × Nat × ((Nat → Int32) ⊕ (Nat → Int64) ⊕ (Nat → Option Nat)))
/-- a heap: how many places are taken, how many slots, what lies there. Places 0 to 7: the script, SIXES, three Strings, their bytes: they are never written -/
abbrev am_H : Type := Nat × Nat × (Nat → am_C)
/-- an instruction, the pc behind it, two numbers that it needs -/
abbrev am_I : Type := Instr × Nat × Nat × Nat
/-- a method: its class, its locals, what it returns (0 nothing, 1 int, 2 boolean, 3 char, 4 long, 5 byte), its instructions -/
abbrev am_M : Type := Nat × Nat × Nat × List (Nat × am_I)
abbrev am_S : Type := Nat × List (Option Value) × List Value × am_H
abbrev am_O : Type := Option (am_S ⊕ (Option Value) ⊕ (Nat × List Value × am_S))
def am_at : List (Nat × am_I) → Nat → Option am_I
  | [], _ => none
  | q :: t, pc => bif Nat.beq q.1 pc then some q.2 else am_at t pc
def am_get : List (Option Value) → Nat → Option Value
  | [], _ => none
  | v :: _, 0 => v
  | _ :: t, n + 1 => am_get t n
def am_set : List (Option Value) → Nat → Option Value → List (Option Value)
  | [], _, _ => []
  | _ :: t, 0, v => v :: t
  | w :: t, n + 1, v => w :: am_set t n v
def am_isL : Option Value → Bool
  | some (.long _) => true
  | _ => false
def am_cut (ls : List (Option Value)) : Nat → List (Option Value)
  | 0 => ls
  | i + 1 => bif am_isL (am_get ls i) then am_set ls i none else ls
def am_st1 (ls : List (Option Value)) (i : Nat) (v : Value) : List (Option Value) := am_set (am_cut ls i) i (some v)
def am_st2 (ls : List (Option Value)) (i : Nat) (v : Value) : List (Option Value) := am_set (am_set (am_cut ls i) i (some v)) (i + 1) none
def am_ent0 : List Value → List (Option Value)
  | [] => []
  | .long x :: t => some (.long x) :: none :: am_ent0 t
  | .double _ :: t => none :: none :: am_ent0 t
  | v :: t => some v :: am_ent0 t
def am_pad : Nat → List (Option Value) → List (Option Value)
  | 0, _ => []
  | n + 1, [] => none :: am_pad n []
  | n + 1, v :: t => v :: am_pad n t
def am_ent (vs : List Value) (n : Nat) : List (Option Value) := am_pad n (am_ent0 vs)
def am_take : Nat → List Value → List Value → Option (List Value × List Value)
  | 0, acc, st => some (acc, st)
  | _ + 1, _, [] => none
  | n + 1, acc, v :: st => am_take n (v :: acc) st
def am_cat : List Value → Nat
  | [] => 0
  | .long _ :: t => 2 + am_cat t
  | .double _ :: t => 2 + am_cat t
  | _ :: t => 1 + am_cat t
def am_fit : Nat → Value → Bool
  | 0, .int _ => true
  | 1, .int x => x == 0 || x == 1
  | 2, .ref _ => true
  | 2, .null => true
  | _, _ => false
def am_cnd : ClassFile.Cond → Int32 → Int32 → Bool
  | .eq, x, y => decide (x = y)
  | .ne, x, y => decide (¬ x = y)
  | .lt, x, y => decide (x < y)
  | .ge, x, y => decide (y ≤ x)
  | .gt, x, y => decide (y < x)
  | .le, x, y => decide (x ≤ y)
def am_rt : Nat → Int32 → Bool
  | 1, _ => true
  | 2, x => x == 0 || x == 1
  | 3, x => decide (vp_nar .char x = x)
  | 5, x => decide (vp_nar .byte x = x)
  | _, _ => false
def am_ii (st : List Value) (k : Int32 → Int32 → List Value → am_O) : am_O := match st with
  | .int y :: .int x :: r => k x y r
  | _ => none
def am_i1 (st : List Value) (k : Int32 → List Value → am_O) : am_O := match st with
  | .int x :: r => k x r
  | _ => none
def am_ll (st : List Value) (k : Int64 → Int64 → List Value → am_O) : am_O := match st with
  | .long y :: .long x :: r => k x y r
  | _ => none
def am_l1 (st : List Value) (k : Int64 → List Value → am_O) : am_O := match st with
  | .long x :: r => k x r
  | _ => none
def am_r1 (st : List Value) (k : Nat → List Value → am_O) : am_O := match st with
  | .ref p :: r => k p r
  | _ => none
def am_ri (st : List Value) (k : Nat → Int32 → List Value → am_O) : am_O := match st with
  | .int j :: .ref p :: r => k p j r
  | _ => none
def am_cA (c : am_C) (ty : Nat) (k : Nat → (Nat → Int32) → am_O) : am_O := match c with
  | .inr (t, n, .inl f) => bif Nat.beq t ty then k n f else none
  | _ => none
def am_cL (c : am_C) (k : Nat → (Nat → Int64) → am_O) : am_O := match c with
  | .inr (t, n, .inr (.inl f)) => bif Nat.beq t 3 then k n f else none
  | _ => none
def am_cQ (c : am_C) (k : Nat → Nat → (Nat → Option Nat) → am_O) : am_O := match c with
  | .inr (t, n, .inr (.inr f)) => k t n f
  | _ => none
def am_cO (c : am_C) (k : Nat → List Value → am_O) : am_O := match c with
  | .inl (ci, fs) => k ci fs
  | _ => none
def am_ix (j : Int32) (n : Nat) (o : am_O) : am_O := if j < 0 ∨ n ≤ j.toNatClampNeg then none else o
def am_up (h : am_H) (p : Nat) (c : am_C) : am_H := (h.1, h.2.1, va_up h.2.2 p c)
def am_nw (h : am_H) (k : Nat) (c : am_C) : am_H := (h.1 + 1, h.2.1 + k, va_up h.2.2 h.1 c)
def am_z (ty n : Nat) : am_C := bif Nat.beq ty 3 then .inr (3, n, .inr (.inl (fun _ => 0))) else bif Nat.blt ty 3 then .inr (ty, n, .inl (fun _ => 0)) else .inr (ty, n, .inr (.inr (fun _ => none)))
def am_aty : ArrayType → Nat
  | .int => 0
  | .byte => 1
  | .boolean => 2
  | .long => 3
  | _ => 9
/-- the object q may lie in an array of the kind t -/
def am_elt (t : Nat) (c : am_C) : Bool := match t, c with
  | 4, .inl (6, _) => true
  | 5, .inr (0, _, .inl _) => true
  | _, _ => false
def am_do (P : Nat → am_M) (d L : Nat) (ret : Nat) (i : Instr) (pc nx a b : Nat) (ls : List (Option Value)) (st : List Value) (h : am_H) : am_O :=
  let go : List Value → am_O := fun st' => some (.inl (nx, ls, st', h))
  match i with
  | .aload _ | .aload_n _ => match am_get ls a with
    | some (.ref p) => go (.ref p :: st)
    | _ => none
  | .iload _ | .iload_n _ => match am_get ls a with
    | some (.int x) => go (.int x :: st)
    | _ => none
  | .lload _ | .lload_n _ => match am_get ls a with
    | some (.long x) => go (.long x :: st)
    | _ => none
  | .astore _ | .astore_n _ => am_r1 st fun p r => some (.inl (nx, am_st1 ls a (.ref p), r, h))
  | .istore _ | .istore_n _ => am_i1 st fun x r => some (.inl (nx, am_st1 ls a (.int x), r, h))
  | .lstore _ | .lstore_n _ => am_l1 st fun x r => some (.inl (nx, am_st2 ls a (.long x), r, h))
  | .iinc _ n => match am_get ls a with
    | some (.int x) => some (.inl (nx, am_st1 ls a (.int (x + Int32.ofInt n)), st, h))
    | _ => none
  | .iconst n => go (.int (Int32.ofInt n) :: st)
  | .bipush n => go (.int ((Int8.ofInt n).toInt32) :: st)
  | .sipush n => go (.int ((Int16.ofInt n).toInt32) :: st)
  | .ldc _ => bif Nat.beq a 0 then go (.int (Int32.ofNat b) :: st) else go (.ref b :: st)
  | .ldc_w _ => go (.int (Int32.ofNat b) :: st)
  | .ldc2_w _ => go (.long (Int64.ofNat b) :: st)
  | .lconst n => go (.long (Int64.ofNat n) :: st)
  | .iadd => am_ii st fun x y r => go (.int (x + y) :: r)
  | .isub => am_ii st fun x y r => go (.int (x - y) :: r)
  | .imul => am_ii st fun x y r => go (.int (x * y) :: r)
  | .idiv => am_ii st fun x y r => if y = 0 then none else go (.int (x / y) :: r)
  | .irem => am_ii st fun x y r => if y = 0 then none else go (.int (x - x / y * y) :: r)
  | .iand => am_ii st fun x y r => go (.int (x &&& y) :: r)
  | .ior => am_ii st fun x y r => go (.int (x ||| y) :: r)
  | .ixor => am_ii st fun x y r => go (.int (x ^^^ y) :: r)
  | .ishl => am_ii st fun x y r => go (.int (x <<< (y &&& 31)) :: r)
  | .ishr => am_ii st fun x y r => go (.int (x >>> (y &&& 31)) :: r)
  | .iushr => am_ii st fun x y r => go (.int ((x.toUInt32 >>> (y.toUInt32 &&& Int32.toUInt32 31)).toInt32) :: r)
  | .ineg => am_i1 st fun x r => go (.int (-x) :: r)
  | .ladd => am_ll st fun x y r => go (.long (x + y) :: r)
  | .lmul => am_ll st fun x y r => go (.long (x * y) :: r)
  | .ldiv => am_ll st fun x y r => if y = 0 then none else go (.long (x / y) :: r)
  | .lrem => am_ll st fun x y r => if y = 0 then none else go (.long (x - x / y * y) :: r)
  | .lor => am_ll st fun x y r => go (.long (x ||| y) :: r)
  | .lcmp => am_ll st fun x y r => go (.int (lg_cmp x y) :: r)
  | .lshl => am_i1 st fun y r => am_l1 r fun x r => go (.long (x <<< (y.toInt64 &&& 63)) :: r)
  | .i2l => am_i1 st fun x r => go (.long x.toInt64 :: r)
  | .l2i => am_l1 st fun x r => go (.int x.toInt32 :: r)
  | .i2b => am_i1 st fun x r => go (.int x.toInt8.toInt32 :: r)
  | .i2c => am_i1 st fun x r => go (.int (x.toUInt32 % 65536).toInt32 :: r)
  | .dup => match st with
    | .int x :: r => go (.int x :: .int x :: r)
    | .ref x :: r => go (.ref x :: .ref x :: r)
    | _ => none
  | .dup2 => am_ri st fun p j r => go (.int j :: .ref p :: .int j :: .ref p :: r)
  | .pop => am_i1 st fun _ r => go r
  | .goto _ => some (.inl (a, ls, st, h))
  | .ifCond c _ => am_i1 st fun x r => some (.inl (bif am_cnd c x 0 then a else nx, ls, r, h))
  | .if_icmp c _ => am_ii st fun x y r => some (.inl (bif am_cnd c x y then a else nx, ls, r, h))
  | .ifnonnull _ => match st with
    | .ref _ :: r => some (.inl (a, ls, r, h))
    | .null :: r => some (.inl (nx, ls, r, h))
    | _ => none
  | .tableswitch _ lo hi offs => am_i1 st fun x r => if x.toInt < lo ∨ hi < x.toInt then some (.inl (a, ls, r, h)) else
      match offs[(x.toInt - lo).toNat]? with
      | some off => if (pc : Int) + off < 0 then none else some (.inl (((pc : Int) + off).toNat, ls, r, h))
      | none => none
  | .iaload => am_ri st fun p j r => am_cA (h.2.2 p) 0 fun n f => am_ix j n (go (.int (f j.toNatClampNeg) :: r))
  | .baload => am_ri st fun p j r => am_cA (h.2.2 p) a fun n f => am_ix j n (go (.int (f j.toNatClampNeg) :: r))
  | .laload => am_ri st fun p j r => am_cL (h.2.2 p) fun n f => am_ix j n (go (.long (f j.toNatClampNeg) :: r))
  | .aaload => am_ri st fun p j r => am_cQ (h.2.2 p) fun t n f => bif Nat.beq t a then am_ix j n (go (va_rf (f j.toNatClampNeg) :: r)) else none
  | .iastore => am_i1 st fun x r => am_ri r fun p j r => am_cA (h.2.2 p) 0 fun n f => am_ix j n (if p < 8 then none else some (.inl (nx, ls, r, am_up h p (.inr (0, n, .inl (upd f j.toNatClampNeg x))))))
  | .bastore => am_i1 st fun x r => am_ri r fun p j r => am_cA (h.2.2 p) a fun n f => am_ix j n (if p < 8 then none else some (.inl (nx, ls, r, am_up h p (.inr (a, n, .inl (upd f j.toNatClampNeg (vp_nar (bif Nat.beq a 1 then .byte else .boolean) x)))))))
  | .lastore => am_l1 st fun x r => am_ri r fun p j r => am_cL (h.2.2 p) fun n f => am_ix j n (if p < 8 then none else some (.inl (nx, ls, r, am_up h p (.inr (3, n, .inr (.inl (vp_updL f j.toNatClampNeg x)))))))
  | .aastore => am_r1 st fun q r => am_ri r fun p j r => am_cQ (h.2.2 p) fun t n f => am_ix j n (if p < 8 ∨ q < 8 ∨ h.1 ≤ q then none else bif am_elt t (h.2.2 q) then some (.inl (nx, ls, r, am_up h p (.inr (t, n, .inr (.inr (va_up f j.toNatClampNeg (some q))))))) else none)
  | .arraylength => am_r1 st fun p r => match h.2.2 p with
    | .inr (t, n, _) => bif Nat.blt t 6 then go (.int (Int32.ofNat n) :: r) else none
    | _ => none
  | .newarray ty => am_i1 st fun x r => if x < 0 ∨ 1000000 < x.toNatClampNeg then none else some (.inl (nx, ls, .ref h.1 :: r, am_nw h x.toNatClampNeg (am_z (am_aty ty) x.toNatClampNeg)))
  | .anewarray _ => am_i1 st fun x r => if x < 0 ∨ 1000000 < x.toNatClampNeg then none else some (.inl (nx, ls, .ref h.1 :: r, am_nw h x.toNatClampNeg (.inr (a, x.toNatClampNeg, .inr (.inr (fun _ => none))))))
  | .new _ => some (.inl (nx, ls, .ref h.1 :: st, am_nw h (am_nf a) (.inl (a, am_df a))))
  | .getfield _ => am_r1 st fun p r => am_cO (h.2.2 p) fun ci fs => bif Nat.beq ci a then (match fs[b]? with
    | some v => go (v :: r)
    | none => none) else none
  | .putfield _ => match st with
    | v :: .ref p :: r => am_cO (h.2.2 p) fun ci fs => bif Nat.beq ci a && Nat.blt (b / 8) fs.length && am_fit (b % 4) v && Nat.ble 8 p then some (.inl (nx, ls, r, am_up h p (.inl (ci, fs.set (b / 8) v)))) else none
    | _ => none
  | .getstatic _ => bif Nat.beq a 0 then go (.ref 1 :: st) else go (.int 1 :: st)
  | .invokevirtual _ => match am_take (b + 1) [] st with
    | some (.ref p :: vs, r) => am_cO (h.2.2 p) fun ci _ => bif Nat.beq ci (P a).1 && Nat.ble (am_cat r) 8 then some (.inr (.inr (a, .ref p :: vs, nx, ls, r, h))) else none
    | _ => none
  | .invokespecial _ => bif Nat.beq a 999 then am_r1 st fun _ r => (bif Nat.ble 1 d && Nat.ble (am_cat r + 12) L then go r else none) else match am_take (b + 1) [] st with
    | some (.ref p :: vs, r) => bif Nat.ble (am_cat r) 8 then some (.inr (.inr (a, .ref p :: vs, nx, ls, r, h))) else none
    | _ => none
  | .invokestatic _ => bif Nat.beq a 998 then (match st with
      | .int n :: .int dp :: .ref q :: .int sp :: .ref p :: r => am_cA (h.2.2 p) 0 fun n0 f => am_cA (h.2.2 q) 0 fun n1 g =>
        if n < 0 ∨ dp < 0 ∨ sp < 0 ∨ n0 < sp.toNatClampNeg + n.toNatClampNeg ∨ n1 < dp.toNatClampNeg + n.toNatClampNeg ∨ p < 8 ∨ q < 8 ∨ d < 1 ∨ L < am_cat r + 40 then none
        else some (.inl (nx, ls, r, am_up h q (.inr (0, n1, .inl (va_cpy f g sp.toNatClampNeg dp.toNatClampNeg n.toNatClampNeg)))))
      | _ => none) else bif Nat.beq a 997 then (am_ii st fun x y r => bif Nat.ble 1 d && Nat.ble (am_cat r + 13) L then go (.int (if y < x then y else x) :: r) else none)
      else bif Nat.beq a 996 then (am_ii st fun x y r => bif Nat.ble 1 d && Nat.ble (am_cat r + 13) L then go (.int (if x < y then y else x) :: r) else none)
      else bif Nat.beq a 994 then (am_ii st fun x y r => if x < 0 ∨ ¬ x < y then none else bif Nat.ble 2 d && Nat.ble (am_cat r) 8 && Nat.ble 60 L then go r else none)
      else match am_take b [] st with
    | some (vs, r) => bif Nat.ble (am_cat r) 8 then some (.inr (.inr (a, vs, nx, ls, r, h))) else none
    | _ => none
  | .ireturn => match st with
    | [.int x] => bif am_rt ret x then some (.inr (.inl (some (.int x)))) else none
    | _ => none
  | .lreturn => match st with
    | [.long x] => bif Nat.beq ret 4 then some (.inr (.inl (some (.long x)))) else none
    | _ => none
  | .return_ => match st with
    | [] => bif Nat.beq ret 0 then some (.inr (.inl none)) else none
    | _ => none
  | _ => none
def am_step (P : Nat → am_M) (d L M : Nat) (c : am_S) : am_O := match am_at (P M).2.2.2 c.1 with
  | some (i, nx, a, b) => am_do P d L (P M).2.2.1 i c.1 nx a b c.2.1 c.2.2.1 c.2.2.2
  | none => none
/-- what a call costs of the locals -/
def am_lc (P : Nat → am_M) (y : Nat) : Nat := 8 + ((P y).2.1 + 11)
def am_run (P : Nat → am_M) : Nat → Nat → Nat → Nat → am_S → Option (Option Value × am_H)
  | 0, _, _, _, _ => none
  | n + 1, d, L, M, c => match am_step P d L M c with
    | none => none
    | some (.inl c') => am_run P n d L M c'
    | some (.inr (.inl r)) => some (r, c.2.2.2)
    | some (.inr (.inr (y, vs, c'))) => match d with
      | 0 => none
      | d' + 1 => if L < am_lc P y ∨ (P y).2.1 < (am_ent0 vs).length then none else
        match am_run P n d' (L - am_lc P y) y (0, am_ent vs (P y).2.1, [], c'.2.2.2) with
        | none => none
        | some (r, h) => am_run P n (d' + 1) L M (c'.1, c'.2.1, r.toList ++ c'.2.2.1, h)
theorem am_run_mono (P : Nat → am_M) : ∀ (n d L M : Nat) (c : am_S) (x : Option Value × am_H), am_run P n d L M c = some x → am_run P (n + 1) d L M c = some x := by
  intro n
  induction n with
  | zero => intro d L M c x h; simp [am_run] at h
  | succ n ih =>
    intro d L M c x h
    rw [am_run] at h ⊢
    cases hs : am_step P d L M c with
    | none => rw [hs] at h; simp at h
    | some o =>
      rw [hs] at h
      match o, h with
      | .inl c', h => exact ih _ _ _ _ _ h
      | .inr (.inl r), h => exact h
      | .inr (.inr (y, vs, c')), h =>
        cases d with
        | zero => simp at h
        | succ d' =>
          dsimp only at h ⊢
          split at h
          · cases h
          · rename_i hL
            rw [if_neg hL]
            cases hr : am_run P n d' (L - am_lc P y) y (0, am_ent vs (P y).2.1, [], c'.2.2.2) with
            | none => rw [hr] at h; simp at h
            | some q =>
              obtain ⟨r, h1⟩ := q
              rw [hr] at h
              rw [ih _ _ _ _ _ hr]
              exact ih _ _ _ _ _ h
theorem am_run_le (P : Nat → am_M) {n k d L M : Nat} {c : am_S} {x : Option Value × am_H} (h : am_run P n d L M c = some x) (hk : n ≤ k) : am_run P k d L M c = some x := by
  obtain ⟨j, rfl⟩ := Nat.le.dest hk
  induction j with
  | zero => exact h
  | succ j ih => exact am_run_mono P _ _ _ _ _ _ (ih (Nat.le_add_right _ _))
/-- from this frame on the method returns, and Q holds of its answer and of the heap -/
def AW (P : Nat → am_M) (d L M pc : Nat) (ls : List (Option Value)) (st : List Value) (h : am_H) (Q : Option Value → am_H → Prop) : Prop := ∃ n r h', am_run P n d L M (pc, ls, st, h) = some (r, h') ∧ Q r h'
/-- a call of method y returns, and Q holds of its answer and of the heap -/
def AC (P : Nat → am_M) (d L y : Nat) (vs : List Value) (h : am_H) (Q : Option Value → am_H → Prop) : Prop := AW P d L y 0 (am_ent vs (P y).2.1) [] h Q
section AMR
variable {P : Nat → am_M} {d L M pc : Nat} {ls : List (Option Value)} {st : List Value} {h : am_H} {Q : Option Value → am_H → Prop}
theorem AW.step {pc' : Nat} {ls' : List (Option Value)} {st' : List Value} {h' : am_H} (hs : am_step P d L M (pc, ls, st, h) = some (.inl (pc', ls', st', h'))) (k : AW P d L M pc' ls' st' h' Q) : AW P d L M pc ls st h Q := by
  obtain ⟨n, r, h1, e, q⟩ := k
  refine ⟨n + 1, r, h1, ?_, q⟩
  rw [am_run, hs]
  exact e
theorem AW.ret {r : Option Value} (hs : am_step P d L M (pc, ls, st, h) = some (.inr (.inl r))) (q : Q r h) : AW P d L M pc ls st h Q := by
  refine ⟨1, r, h, ?_, q⟩
  rw [am_run, hs]
theorem AW.call {y pc' : Nat} {vs : List Value} {ls' : List (Option Value)} {st' : List Value} {h' : am_H} {Q1 : Option Value → am_H → Prop} (hs : am_step P (d + 1) L M (pc, ls, st, h) = some (.inr (.inr (y, vs, pc', ls', st', h')))) (hL : am_lc P y ≤ L) (hA : (am_ent0 vs).length ≤ (P y).2.1) (hc : AC P d (L - am_lc P y) y vs h' Q1)
    (k : ∀ r h1, Q1 r h1 → AW P (d + 1) L M pc' ls' (r.toList ++ st') h1 Q) : AW P (d + 1) L M pc ls st h Q := by
  obtain ⟨n1, r1, h1, e1, q1⟩ := hc
  obtain ⟨n2, r2, h2, e2, q2⟩ := k r1 h1 q1
  refine ⟨max n1 n2 + 1, r2, h2, ?_, q2⟩
  rw [am_run, hs]
  dsimp only
  rw [if_neg (show ¬ (L < am_lc P y ∨ (P y).2.1 < (am_ent0 vs).length) by omega), am_run_le P e1 (Nat.le_max_left n1 n2)]
  exact am_run_le P e2 (Nat.le_max_right n1 n2)
theorem AW.mono {Q' : Option Value → am_H → Prop} (k : AW P d L M pc ls st h Q) (hq : ∀ r h1, Q r h1 → Q' r h1) : AW P d L M pc ls st h Q' := by
  obtain ⟨n, r, h1, e, q⟩ := k
  exact ⟨n, r, h1, e, hq r h1 q⟩
theorem AC.mono {vs : List Value} {y : Nat} {Q' : Option Value → am_H → Prop} (k : AC P d L y vs h Q) (hq : ∀ r h1, Q r h1 → Q' r h1) : AC P d L y vs h Q' := AW.mono k hq
end AMR
def am_nth {α : Type} : List α → Nat → α → α
  | [], _, d => d
  | x :: _, 0, _ => x
  | _ :: t, n + 1, d => am_nth t n d
theorem am_ii_inv {st : List Value} {k : Int32 → Int32 → List Value → am_O} {o : am_S ⊕ (Option Value) ⊕ (Nat × List Value × am_S)} (h : am_ii st k = some o) : ∃ x y r, st = .int y :: .int x :: r ∧ k x y r = some o := by
  unfold am_ii at h
  split at h
  · exact ⟨_, _, _, rfl, h⟩
  · cases h
theorem am_i1_inv {st : List Value} {k : Int32 → List Value → am_O} {o : am_S ⊕ (Option Value) ⊕ (Nat × List Value × am_S)} (h : am_i1 st k = some o) : ∃ x r, st = .int x :: r ∧ k x r = some o := by
  unfold am_i1 at h
  split at h
  · exact ⟨_, _, rfl, h⟩
  · cases h
theorem am_ll_inv {st : List Value} {k : Int64 → Int64 → List Value → am_O} {o : am_S ⊕ (Option Value) ⊕ (Nat × List Value × am_S)} (h : am_ll st k = some o) : ∃ x y r, st = .long y :: .long x :: r ∧ k x y r = some o := by
  unfold am_ll at h
  split at h
  · exact ⟨_, _, _, rfl, h⟩
  · cases h
theorem am_l1_inv {st : List Value} {k : Int64 → List Value → am_O} {o : am_S ⊕ (Option Value) ⊕ (Nat × List Value × am_S)} (h : am_l1 st k = some o) : ∃ x r, st = .long x :: r ∧ k x r = some o := by
  unfold am_l1 at h
  split at h
  · exact ⟨_, _, rfl, h⟩
  · cases h
theorem am_r1_inv {st : List Value} {k : Nat → List Value → am_O} {o : am_S ⊕ (Option Value) ⊕ (Nat × List Value × am_S)} (h : am_r1 st k = some o) : ∃ x r, st = .ref x :: r ∧ k x r = some o := by
  unfold am_r1 at h
  split at h
  · exact ⟨_, _, rfl, h⟩
  · cases h
theorem am_ri_inv {st : List Value} {k : Nat → Int32 → List Value → am_O} {o : am_S ⊕ (Option Value) ⊕ (Nat × List Value × am_S)} (h : am_ri st k = some o) : ∃ q j r, st = .int j :: .ref q :: r ∧ k q j r = some o := by
  unfold am_ri at h
  split at h
  · exact ⟨_, _, _, rfl, h⟩
  · cases h
theorem am_cA_inv {x : am_C} {ty : Nat} {k : Nat → (Nat → Int32) → am_O} {o : am_S ⊕ (Option Value) ⊕ (Nat × List Value × am_S)} (h : am_cA x ty k = some o) : ∃ n f, x = .inr (ty, n, .inl f) ∧ k n f = some o := by
  unfold am_cA at h
  split at h
  · rename_i t n f
    cases e : Nat.beq t ty with
    | true => rw [e] at h; have := Nat.eq_of_beq_eq_true e; subst this; exact ⟨n, f, rfl, h⟩
    | false => rw [e] at h; cases h
  · cases h
theorem am_cL_inv {x : am_C} {k : Nat → (Nat → Int64) → am_O} {o : am_S ⊕ (Option Value) ⊕ (Nat × List Value × am_S)} (h : am_cL x k = some o) : ∃ n f, x = .inr (3, n, .inr (.inl f)) ∧ k n f = some o := by
  unfold am_cL at h
  split at h
  · rename_i t n f
    cases e : Nat.beq t 3 with
    | true => rw [e] at h; have := Nat.eq_of_beq_eq_true e; subst this; exact ⟨n, f, rfl, h⟩
    | false => rw [e] at h; cases h
  · cases h
theorem am_cQ_inv {x : am_C} {k : Nat → Nat → (Nat → Option Nat) → am_O} {o : am_S ⊕ (Option Value) ⊕ (Nat × List Value × am_S)} (h : am_cQ x k = some o) : ∃ t n f, x = .inr (t, n, .inr (.inr f)) ∧ k t n f = some o := by
  unfold am_cQ at h
  split at h
  · exact ⟨_, _, _, rfl, h⟩
  · cases h
theorem am_cO_inv {x : am_C} {k : Nat → List Value → am_O} {o : am_S ⊕ (Option Value) ⊕ (Nat × List Value × am_S)} (h : am_cO x k = some o) : ∃ t f, x = .inl (t, f) ∧ k t f = some o := by
  unfold am_cO at h
  split at h
  · exact ⟨_, _, rfl, h⟩
  · cases h
theorem am_ix_inv {j : Int32} {n : Nat} {o : am_O} {x : am_S ⊕ (Option Value) ⊕ (Nat × List Value × am_S)} (h : am_ix j n o = some x) : vp_in j n ∧ o = some x := by
  unfold am_ix at h
  split at h
  · cases h
  · rename_i e
    exact ⟨e, h⟩
theorem am_bif_inv {b : Bool} {o : am_O} {x : am_S ⊕ (Option Value) ⊕ (Nat × List Value × am_S)} (h : (bif b then o else none) = some x) : b = true ∧ o = some x := by
  cases b
  · cases h
  · exact ⟨rfl, h⟩
def am_nil : am_C := .inr (9, 0, .inl (fun _ => 0))
def am_sl : List Int32 := [1, 6, 36, 216, 1296, 7776, 46656, 279936, 1679616, 10077696, 60466176]
/-- the bytes of the three Strings -/
def am_by : List (List Int32) := [[114, 111, 119, 32, 102, 97, 99, 101, 115, 32, 107, 105, 99, 107, 32, 100, 114, 105, 102, 116, 32, 114, 117, 110, 115, 32, 99, 97, 114, 115, 32, 115, 116, 111, 110, 101, 32, 102, 114, 105, 101, 110, 100, 32, 108, 105, 118, 101, 115, 32, 116, 97, 107, 101, 115, 32, 115, 101, 101, 100, 32, 98, 121, 32, 116, 117, 114, 110, 32, 105, 102, 32, 116, 104, 101, 110, 32, 101, 108, 115, 101, 32, 97, 108, 111, 110, 103, 32, 97, 99, 114, 111, 115, 115, 32, 102, 97, 99, 101, 32, 115, 111, 114, 116, 32, 119, 104, 105, 99, 104, 32, 104, 97, 114, 100, 32, 115, 101, 99, 111, 110, 100, 32], [59, 61, 43, 45, 42, 47, 60, 40, 41], [116, 99, 115, 112, 103, 119, 104]]
def am_im (Ls : Nat) (xs : Nat → Int32) : Nat → am_C
  | 0 => .inr (0, Ls, .inl xs)
  | 1 => .inr (0, 11, .inl (fun j => am_sl.getD j 0))
  | 2 => .inl (15, [.ref 5, .int 0])
  | 3 => .inl (15, [.ref 6, .int 0])
  | 4 => .inl (15, [.ref 7, .int 0])
  | 5 => .inr (1, 123, .inl (fun j => (am_by.getD 0 []).getD j 0))
  | 6 => .inr (1, 9, .inl (fun j => (am_by.getD 1 []).getD j 0))
  | _ => .inr (1, 7, .inl (fun j => (am_by.getD 2 []).getD j 0))
def am_tx : Nat → String
  | 0 => "row faces kick drift runs cars stone friend lives takes seed by turn if then else along across face sort which hard second "
  | 1 => ";=+-*/<()"
  | _ => "tcspgwh"
