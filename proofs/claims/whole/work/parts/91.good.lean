/-! ===== the tables are right: a check by program, and what it says ===== -/
def am_ref : FieldType → Bool
  | .object _ => true
  | .array _ => true
  | _ => false
def am_ckE (own : Nat) (ini : Bool) (maxL : Nat) (i : Instr) (pc a b : Nat) : Bool := match i with
  | .aload k | .iload k | .lload k => Nat.beq a k
  | .aload_n k | .iload_n k | .lload_n k => Nat.beq a k.val
  | .astore k | .istore k | .iinc k _ => Nat.beq a k && Nat.blt k maxL
  | .astore_n k | .istore_n k => Nat.beq a k.val && Nat.blt k.val maxL
  | .lstore k => Nat.beq a k && Nat.blt (k + 1) maxL
  | .lstore_n k => Nat.beq a k.val && Nat.blt (k.val + 1) maxL
  | .ldc idx => (Nat.beq a 0 && am_CL.any (fun q => Nat.beq q.1 own && Nat.beq q.2.1 idx && Nat.beq q.2.2.1 b)) || (Nat.beq a 1 && ((Nat.beq b 2 && Nat.beq own 9 && Nat.beq idx 84) || (Nat.beq b 3 && Nat.beq own 9 && Nat.beq idx 73) || (Nat.beq b 4 && Nat.beq own 4 && Nat.beq idx 139)))
  | .ldc_w idx => am_CL.any (fun q => Nat.beq q.1 own && Nat.beq q.2.1 idx && Nat.beq q.2.2.1 b)
  | .ldc2_w idx => am_LL.any (fun q => Nat.beq q.1 own && Nat.beq q.2.1 idx && Nat.beq q.2.2.1 b)
  | .goto off | .ifCond _ off | .if_icmp _ off | .ifnonnull off => decide ((pc : Int) + off = (a : Int))
  | .tableswitch dflt _ _ _ => decide ((pc : Int) + dflt = (a : Int))
  | .baload | .bastore => Nat.beq a 1 || Nat.beq a 2
  | .aaload => Nat.beq a 4 || Nat.beq a 5
  | .newarray ty => Nat.blt (am_aty ty) 4
  | .anewarray idx => am_QL.any (fun q => Nat.beq q.1 own && Nat.beq q.2.1 idx && Nat.beq q.2.2.1 a)
  | .new idx => am_NL.any (fun q => Nat.beq q.1 own && Nat.beq q.2.1 idx && Nat.beq q.2.2.1 a)
  | .getfield idx => am_FL.any (fun q => Nat.beq q.1 own && Nat.beq q.2.1 idx && Nat.beq q.2.2.1 a && Nat.beq q.2.2.2.1 b) || (Nat.beq a 15 && am_GL.any (fun q => Nat.beq q.1 own && Nat.beq q.2.1 idx && Nat.beq q.2.2.1 b))
  | .putfield idx => am_FL.any (fun q => Nat.beq q.1 own && Nat.beq q.2.1 idx && Nat.beq q.2.2.1 a && Nat.beq q.2.2.2.1 (b / 8)) && ((Nat.beq (b % 4) 0 && decide (am_ft a (b / 8) = .int)) || (Nat.beq (b % 4) 1 && decide (am_ft a (b / 8) = .boolean)) || (Nat.beq (b % 4) 2 && am_ref (am_ft a (b / 8)))) && (!(am_tb a (b / 8)).2.2.2 || (ini && Nat.beq a own && decide ((am_tb a (b / 8)).1 = am_cn own)))
  | .getstatic idx => am_SG.any (fun q => Nat.beq q.1 own && Nat.beq q.2.1 idx && Nat.beq q.2.2.1 a)
  | .invokevirtual idx => am_VL.any (fun q => Nat.beq q.1 own && Nat.beq q.2.1 idx && Nat.beq q.2.2.1 a && Nat.beq q.2.2.2.1 b)
  | .invokespecial idx => (Nat.beq a 999 && am_ML.any (fun q => Nat.beq q.1 999 && Nat.beq q.2.1 own && Nat.beq q.2.2.1 idx)) || am_SL.any (fun q => Nat.beq q.1 own && Nat.beq q.2.1 idx && Nat.beq q.2.2.1 a && Nat.beq q.2.2.2.1 b)
  | .invokestatic idx => ((Nat.beq a 998 || Nat.beq a 997 || Nat.beq a 996 || Nat.beq a 994) && am_ML.any (fun q => Nat.beq q.1 a && Nat.beq q.2.1 own && Nat.beq q.2.2.1 idx)) || am_TL.any (fun q => Nat.beq q.1 own && Nat.beq q.2.1 idx && Nat.beq q.2.2.1 a && Nat.beq q.2.2.2.1 b)
  | _ => true
theorem am_b3 {q : Nat × Nat × Nat × Nat} {x y z : Nat} (h : (Nat.beq q.1 x && Nat.beq q.2.1 y && Nat.beq q.2.2.1 z) = true) : q.1 = x ∧ q.2.1 = y ∧ q.2.2.1 = z := by
  simp only [Bool.and_eq_true] at h
  exact ⟨Nat.eq_of_beq_eq_true h.1.1, Nat.eq_of_beq_eq_true h.1.2, Nat.eq_of_beq_eq_true h.2⟩
theorem am_oI : Cond.instanceMethod objectInit ∈ am_Ts := am_lw_mem (p := 147) (by decide +kernel)
theorem am_oC : Cond.code objectInit ⟨#[0xb1]⟩ 1 none ∈ am_Ts := am_lw_mem (p := 148) (by decide +kernel)
theorem am_aN : Cond.native arraycopyName ∈ am_Ts := am_lw_mem (p := 1336) (by decide +kernel)
theorem am_aS : Cond.static arraycopyName ∈ am_Ts := am_lw_mem (p := 1335) (by decide +kernel)
theorem am_aI : Cond.initialized "java/lang/System" ∈ am_Ts := am_lw_mem (p := 140) (by decide +kernel)
theorem am_mI : Cond.initialized "java/lang/Math" ∈ am_Ts := am_lw_mem (p := 134) (by decide +kernel)
theorem am_mS1 : Cond.static Lib.Math.min.name ∈ am_Ts := am_lw_mem (p := 666) (by decide +kernel)
theorem am_mC1 : Cond.code Lib.Math.min.name Lib.Math.min.code 2 (some .int) ∈ am_Ts := am_lw_mem (p := 667) (by decide +kernel)
theorem am_mS2 : Cond.static Lib.Math.max.name ∈ am_Ts := am_lw_mem (p := 669) (by decide +kernel)
theorem am_mC2 : Cond.code Lib.Math.max.name Lib.Math.max.code 2 (some .int) ∈ am_Ts := am_lw_mem (p := 670) (by decide +kernel)
theorem am_ckIn : ∀ w ∈ am_ckw, w ∈ am_Ts := by
  intro w hw
  simp only [am_ckw, List.mem_cons, List.not_mem_nil, or_false] at hw
  rcases hw with e | e | e | e | e | e | e | e <;> subst e
  · exact am_lw_mem (p := 717) (by decide +kernel)
  · exact am_lw_mem (p := 716) (by decide +kernel)
  · exact am_lw_mem (p := 135) (by decide +kernel)
  · exact am_lw_mem (p := 720) (by decide +kernel)
  · exact am_lw_mem (p := 721) (by decide +kernel)
  · exact am_lw_mem (p := 137) (by decide +kernel)
  · exact am_lw_mem (p := 722) (by decide +kernel)
  · exact am_lw_mem (p := 718) (by decide +kernel)
theorem am_arr (ty : ArrayType) (h : am_aty ty < 4) : Cond.arrayClass (newarray.typeOf ty) ∈ am_Ts := by
  cases ty <;> first | exact absurd h (by decide) | skip
  · exact am_lw_mem (p := 1666) (by decide +kernel)
  · exact am_lw_mem (p := 186) (by decide +kernel)
  · exact am_lw_mem (p := 187) (by decide +kernel)
  · exact am_lw_mem (p := 308) (by decide +kernel)
