section
-- ===== PART A: goes FIRST, ahead of the names: the tables' words, and 'selects' of the private methods out of them =====
/-- a private method of a class that the tables say can be made, by its rows of tables_1 -/
def lw_okq (q : MethodName × Nat) : Prop := (q.1.cls ≠ "java/lang/invoke/MethodHandle" ∧ q.1.cls ≠ "java/lang/invoke/VarHandle") ∧ Cond.instantiable q.1.cls q.2 ∈ tables_1 ∧ Cond.privateMethod q.1 ∈ tables_1 ∧ Cond.instanceMethod q.1 ∈ tables_1
theorem lw_p0 : lw_okq (⟨"StoneHome", "begin", "()V"⟩, 13) := ⟨⟨by decide +kernel, by decide +kernel⟩, List.mem_of_getElem? (i := 22) (by decide +kernel), List.mem_of_getElem? (i := 425) (by decide +kernel), List.mem_of_getElem? (i := 426) (by decide +kernel)⟩
theorem lw_p1 : lw_okq (⟨"StoneHome$Table", "listLies", "(Z)V"⟩, 7) := ⟨⟨by decide +kernel, by decide +kernel⟩, List.mem_of_getElem? (i := 286) (by decide +kernel), List.mem_of_getElem? (i := 460) (by decide +kernel), List.mem_of_getElem? (i := 461) (by decide +kernel)⟩
theorem lw_p2 : lw_okq (⟨"StoneHome", "putBytes", "(I)V"⟩, 13) := ⟨⟨by decide +kernel, by decide +kernel⟩, List.mem_of_getElem? (i := 22) (by decide +kernel), List.mem_of_getElem? (i := 525) (by decide +kernel), List.mem_of_getElem? (i := 526) (by decide +kernel)⟩
theorem lw_p3 : lw_okq (⟨"StoneHome$Tokens", "skipBlanks", "()V"⟩, 8) := ⟨⟨by decide +kernel, by decide +kernel⟩, List.mem_of_getElem? (i := 155) (by decide +kernel), List.mem_of_getElem? (i := 552) (by decide +kernel), List.mem_of_getElem? (i := 553) (by decide +kernel)⟩
theorem lw_p4 : lw_okq (⟨"StoneHome$Tokens", "scanOne", "()V"⟩, 8) := ⟨⟨by decide +kernel, by decide +kernel⟩, List.mem_of_getElem? (i := 155) (by decide +kernel), List.mem_of_getElem? (i := 559) (by decide +kernel), List.mem_of_getElem? (i := 560) (by decide +kernel)⟩
theorem lw_p5 : lw_okq (⟨"StoneHome$Tokens", "scanWord", "()V"⟩, 8) := ⟨⟨by decide +kernel, by decide +kernel⟩, List.mem_of_getElem? (i := 155) (by decide +kernel), List.mem_of_getElem? (i := 566) (by decide +kernel), List.mem_of_getElem? (i := 567) (by decide +kernel)⟩
theorem lw_p6 : lw_okq (⟨"StoneHome$Tokens", "wordNumber", "(I)I"⟩, 8) := ⟨⟨by decide +kernel, by decide +kernel⟩, List.mem_of_getElem? (i := 155) (by decide +kernel), List.mem_of_getElem? (i := 570) (by decide +kernel), List.mem_of_getElem? (i := 571) (by decide +kernel)⟩
theorem lw_p7 : lw_okq (⟨"StoneHome$Tokens", "scanInt", "()V"⟩, 8) := ⟨⟨by decide +kernel, by decide +kernel⟩, List.mem_of_getElem? (i := 155) (by decide +kernel), List.mem_of_getElem? (i := 626) (by decide +kernel), List.mem_of_getElem? (i := 627) (by decide +kernel)⟩
theorem lw_p8 : lw_okq (⟨"StoneHome$Reader", "take", "()V"⟩, 12) := ⟨⟨by decide +kernel, by decide +kernel⟩, List.mem_of_getElem? (i := 149) (by decide +kernel), List.mem_of_getElem? (i := 686) (by decide +kernel), List.mem_of_getElem? (i := 687) (by decide +kernel)⟩
theorem lw_p9 : lw_okq (⟨"StoneHome$Reader", "takeTell", "()V"⟩, 12) := ⟨⟨by decide +kernel, by decide +kernel⟩, List.mem_of_getElem? (i := 149) (by decide +kernel), List.mem_of_getElem? (i := 690) (by decide +kernel), List.mem_of_getElem? (i := 691) (by decide +kernel)⟩
theorem lw_p10 : lw_okq (⟨"StoneHome$Reader", "takeRow", "()V"⟩, 12) := ⟨⟨by decide +kernel, by decide +kernel⟩, List.mem_of_getElem? (i := 149) (by decide +kernel), List.mem_of_getElem? (i := 694) (by decide +kernel), List.mem_of_getElem? (i := 695) (by decide +kernel)⟩
theorem lw_p11 : lw_okq (⟨"StoneHome$Reader", "fail", "(I)V"⟩, 12) := ⟨⟨by decide +kernel, by decide +kernel⟩, List.mem_of_getElem? (i := 149) (by decide +kernel), List.mem_of_getElem? (i := 698) (by decide +kernel), List.mem_of_getElem? (i := 699) (by decide +kernel)⟩
theorem lw_p12 : lw_okq (⟨"StoneHome$Reader", "layRow", "()Z"⟩, 12) := ⟨⟨by decide +kernel, by decide +kernel⟩, List.mem_of_getElem? (i := 149) (by decide +kernel), List.mem_of_getElem? (i := 702) (by decide +kernel), List.mem_of_getElem? (i := 703) (by decide +kernel)⟩
theorem lw_p13 : lw_okq (⟨"StoneHome$Reader", "failLate", "(II)V"⟩, 12) := ⟨⟨by decide +kernel, by decide +kernel⟩, List.mem_of_getElem? (i := 149) (by decide +kernel), List.mem_of_getElem? (i := 716) (by decide +kernel), List.mem_of_getElem? (i := 717) (by decide +kernel)⟩
theorem lw_p14 : lw_okq (⟨"StoneHome$Reader", "takeKick", "()V"⟩, 12) := ⟨⟨by decide +kernel, by decide +kernel⟩, List.mem_of_getElem? (i := 149) (by decide +kernel), List.mem_of_getElem? (i := 720) (by decide +kernel), List.mem_of_getElem? (i := 721) (by decide +kernel)⟩
theorem lw_p15 : lw_okq (⟨"StoneHome$Reader", "isToldKick", "(J)Z"⟩, 12) := ⟨⟨by decide +kernel, by decide +kernel⟩, List.mem_of_getElem? (i := 149) (by decide +kernel), List.mem_of_getElem? (i := 729) (by decide +kernel), List.mem_of_getElem? (i := 730) (by decide +kernel)⟩
def lw_privs_1 : List (MethodName × Nat) := [(⟨"StoneHome", "begin", "()V"⟩, 13), (⟨"StoneHome$Table", "listLies", "(Z)V"⟩, 7), (⟨"StoneHome", "putBytes", "(I)V"⟩, 13), (⟨"StoneHome$Tokens", "skipBlanks", "()V"⟩, 8), (⟨"StoneHome$Tokens", "scanOne", "()V"⟩, 8), (⟨"StoneHome$Tokens", "scanWord", "()V"⟩, 8), (⟨"StoneHome$Tokens", "wordNumber", "(I)I"⟩, 8), (⟨"StoneHome$Tokens", "scanInt", "()V"⟩, 8), (⟨"StoneHome$Reader", "take", "()V"⟩, 12), (⟨"StoneHome$Reader", "takeTell", "()V"⟩, 12), (⟨"StoneHome$Reader", "takeRow", "()V"⟩, 12), (⟨"StoneHome$Reader", "fail", "(I)V"⟩, 12), (⟨"StoneHome$Reader", "layRow", "()Z"⟩, 12), (⟨"StoneHome$Reader", "failLate", "(II)V"⟩, 12), (⟨"StoneHome$Reader", "takeKick", "()V"⟩, 12), (⟨"StoneHome$Reader", "isToldKick", "(J)Z"⟩, 12)]
theorem lw_r1 : ∀ q ∈ lw_privs_1, lw_okq q := List.forall_mem_cons.mpr ⟨lw_p0, List.forall_mem_cons.mpr ⟨lw_p1, List.forall_mem_cons.mpr ⟨lw_p2, List.forall_mem_cons.mpr ⟨lw_p3, List.forall_mem_cons.mpr ⟨lw_p4, List.forall_mem_cons.mpr ⟨lw_p5, List.forall_mem_cons.mpr ⟨lw_p6, List.forall_mem_cons.mpr ⟨lw_p7, List.forall_mem_cons.mpr ⟨lw_p8, List.forall_mem_cons.mpr ⟨lw_p9, List.forall_mem_cons.mpr ⟨lw_p10, List.forall_mem_cons.mpr ⟨lw_p11, List.forall_mem_cons.mpr ⟨lw_p12, List.forall_mem_cons.mpr ⟨lw_p13, List.forall_mem_cons.mpr ⟨lw_p14, List.forall_mem_cons.mpr ⟨lw_p15, fun _ h => absurd h List.not_mem_nil⟩⟩⟩⟩⟩⟩⟩⟩⟩⟩⟩⟩⟩⟩⟩⟩
theorem lw_p16 : lw_okq (⟨"StoneHome$Reader", "takeOutcomes", "(I)I"⟩, 12) := ⟨⟨by decide +kernel, by decide +kernel⟩, List.mem_of_getElem? (i := 149) (by decide +kernel), List.mem_of_getElem? (i := 733) (by decide +kernel), List.mem_of_getElem? (i := 734) (by decide +kernel)⟩
theorem lw_p17 : lw_okq (⟨"StoneHome$Reader", "takeOutcome", "(I)I"⟩, 12) := ⟨⟨by decide +kernel, by decide +kernel⟩, List.mem_of_getElem? (i := 149) (by decide +kernel), List.mem_of_getElem? (i := 737) (by decide +kernel), List.mem_of_getElem? (i := 738) (by decide +kernel)⟩
theorem lw_p18 : lw_okq (⟨"StoneHome$Reader", "takeInt", "(II)I"⟩, 12) := ⟨⟨by decide +kernel, by decide +kernel⟩, List.mem_of_getElem? (i := 149) (by decide +kernel), List.mem_of_getElem? (i := 741) (by decide +kernel), List.mem_of_getElem? (i := 742) (by decide +kernel)⟩
theorem lw_p19 : lw_okq (⟨"StoneHome$Reader", "takeWord", "(I)V"⟩, 12) := ⟨⟨by decide +kernel, by decide +kernel⟩, List.mem_of_getElem? (i := 149) (by decide +kernel), List.mem_of_getElem? (i := 745) (by decide +kernel), List.mem_of_getElem? (i := 746) (by decide +kernel)⟩
theorem lw_p20 : lw_okq (⟨"StoneHome$Reader", "isWord", "(I)Z"⟩, 12) := ⟨⟨by decide +kernel, by decide +kernel⟩, List.mem_of_getElem? (i := 149) (by decide +kernel), List.mem_of_getElem? (i := 749) (by decide +kernel), List.mem_of_getElem? (i := 750) (by decide +kernel)⟩
theorem lw_p21 : lw_okq (⟨"StoneHome$Reader", "isSign", "(C)Z"⟩, 12) := ⟨⟨by decide +kernel, by decide +kernel⟩, List.mem_of_getElem? (i := 149) (by decide +kernel), List.mem_of_getElem? (i := 753) (by decide +kernel), List.mem_of_getElem? (i := 754) (by decide +kernel)⟩
theorem lw_p22 : lw_okq (⟨"StoneHome$Reader", "takeLaw", "(I)V"⟩, 12) := ⟨⟨by decide +kernel, by decide +kernel⟩, List.mem_of_getElem? (i := 149) (by decide +kernel), List.mem_of_getElem? (i := 757) (by decide +kernel), List.mem_of_getElem? (i := 758) (by decide +kernel)⟩
theorem lw_p23 : lw_okq (⟨"StoneHome$Reader", "takeSign", "(C)V"⟩, 12) := ⟨⟨by decide +kernel, by decide +kernel⟩, List.mem_of_getElem? (i := 149) (by decide +kernel), List.mem_of_getElem? (i := 761) (by decide +kernel), List.mem_of_getElem? (i := 762) (by decide +kernel)⟩
theorem lw_p24 : lw_okq (⟨"StoneHome$Reader", "takeBranch", "()V"⟩, 12) := ⟨⟨by decide +kernel, by decide +kernel⟩, List.mem_of_getElem? (i := 149) (by decide +kernel), List.mem_of_getElem? (i := 769) (by decide +kernel), List.mem_of_getElem? (i := 770) (by decide +kernel)⟩
theorem lw_p25 : lw_okq (⟨"StoneHome$Reader", "takeFormula", "()V"⟩, 12) := ⟨⟨by decide +kernel, by decide +kernel⟩, List.mem_of_getElem? (i := 149) (by decide +kernel), List.mem_of_getElem? (i := 773) (by decide +kernel), List.mem_of_getElem? (i := 774) (by decide +kernel)⟩
theorem lw_p26 : lw_okq (⟨"StoneHome$Reader", "operatorNext", "()I"⟩, 12) := ⟨⟨by decide +kernel, by decide +kernel⟩, List.mem_of_getElem? (i := 149) (by decide +kernel), List.mem_of_getElem? (i := 781) (by decide +kernel), List.mem_of_getElem? (i := 782) (by decide +kernel)⟩
theorem lw_p27 : lw_okq (⟨"StoneHome$Reader", "takeOpening", "(I)V"⟩, 12) := ⟨⟨by decide +kernel, by decide +kernel⟩, List.mem_of_getElem? (i := 149) (by decide +kernel), List.mem_of_getElem? (i := 785) (by decide +kernel), List.mem_of_getElem? (i := 786) (by decide +kernel)⟩
theorem lw_p28 : lw_okq (⟨"StoneHome$Reader", "takeUnit", "()V"⟩, 12) := ⟨⟨by decide +kernel, by decide +kernel⟩, List.mem_of_getElem? (i := 149) (by decide +kernel), List.mem_of_getElem? (i := 789) (by decide +kernel), List.mem_of_getElem? (i := 790) (by decide +kernel)⟩
theorem lw_p29 : lw_okq (⟨"StoneHome$Laws", "lastWaiting", "()I"⟩, 8) := ⟨⟨by decide +kernel, by decide +kernel⟩, List.mem_of_getElem? (i := 36) (by decide +kernel), List.mem_of_getElem? (i := 805) (by decide +kernel), List.mem_of_getElem? (i := 806) (by decide +kernel)⟩
theorem lw_p30 : lw_okq (⟨"StoneHome$Reader", "takeSpot", "([I)V"⟩, 12) := ⟨⟨by decide +kernel, by decide +kernel⟩, List.mem_of_getElem? (i := 149) (by decide +kernel), List.mem_of_getElem? (i := 820) (by decide +kernel), List.mem_of_getElem? (i := 821) (by decide +kernel)⟩
theorem lw_p31 : lw_okq (⟨"StoneHome$Reader", "takeSetting", "()V"⟩, 12) := ⟨⟨by decide +kernel, by decide +kernel⟩, List.mem_of_getElem? (i := 149) (by decide +kernel), List.mem_of_getElem? (i := 824) (by decide +kernel), List.mem_of_getElem? (i := 825) (by decide +kernel)⟩
def lw_privs_2 : List (MethodName × Nat) := [(⟨"StoneHome$Reader", "takeOutcomes", "(I)I"⟩, 12), (⟨"StoneHome$Reader", "takeOutcome", "(I)I"⟩, 12), (⟨"StoneHome$Reader", "takeInt", "(II)I"⟩, 12), (⟨"StoneHome$Reader", "takeWord", "(I)V"⟩, 12), (⟨"StoneHome$Reader", "isWord", "(I)Z"⟩, 12), (⟨"StoneHome$Reader", "isSign", "(C)Z"⟩, 12), (⟨"StoneHome$Reader", "takeLaw", "(I)V"⟩, 12), (⟨"StoneHome$Reader", "takeSign", "(C)V"⟩, 12), (⟨"StoneHome$Reader", "takeBranch", "()V"⟩, 12), (⟨"StoneHome$Reader", "takeFormula", "()V"⟩, 12), (⟨"StoneHome$Reader", "operatorNext", "()I"⟩, 12), (⟨"StoneHome$Reader", "takeOpening", "(I)V"⟩, 12), (⟨"StoneHome$Reader", "takeUnit", "()V"⟩, 12), (⟨"StoneHome$Laws", "lastWaiting", "()I"⟩, 8), (⟨"StoneHome$Reader", "takeSpot", "([I)V"⟩, 12), (⟨"StoneHome$Reader", "takeSetting", "()V"⟩, 12)]
theorem lw_r2 : ∀ q ∈ lw_privs_2, lw_okq q := List.forall_mem_cons.mpr ⟨lw_p16, List.forall_mem_cons.mpr ⟨lw_p17, List.forall_mem_cons.mpr ⟨lw_p18, List.forall_mem_cons.mpr ⟨lw_p19, List.forall_mem_cons.mpr ⟨lw_p20, List.forall_mem_cons.mpr ⟨lw_p21, List.forall_mem_cons.mpr ⟨lw_p22, List.forall_mem_cons.mpr ⟨lw_p23, List.forall_mem_cons.mpr ⟨lw_p24, List.forall_mem_cons.mpr ⟨lw_p25, List.forall_mem_cons.mpr ⟨lw_p26, List.forall_mem_cons.mpr ⟨lw_p27, List.forall_mem_cons.mpr ⟨lw_p28, List.forall_mem_cons.mpr ⟨lw_p29, List.forall_mem_cons.mpr ⟨lw_p30, List.forall_mem_cons.mpr ⟨lw_p31, fun _ h => absurd h List.not_mem_nil⟩⟩⟩⟩⟩⟩⟩⟩⟩⟩⟩⟩⟩⟩⟩⟩
theorem lw_p32 : lw_okq (⟨"StoneHome$Reader", "judge", "(I)V"⟩, 12) := ⟨⟨by decide +kernel, by decide +kernel⟩, List.mem_of_getElem? (i := 149) (by decide +kernel), List.mem_of_getElem? (i := 828) (by decide +kernel), List.mem_of_getElem? (i := 829) (by decide +kernel)⟩
theorem lw_p33 : lw_okq (⟨"StoneHome$Street", "isSpot", "([I)Z"⟩, 16) := ⟨⟨by decide +kernel, by decide +kernel⟩, List.mem_of_getElem? (i := 30) (by decide +kernel), List.mem_of_getElem? (i := 836) (by decide +kernel), List.mem_of_getElem? (i := 837) (by decide +kernel)⟩
theorem lw_p34 : lw_okq (⟨"StoneHome$Laws", "factAt", "(I)I"⟩, 8) := ⟨⟨by decide +kernel, by decide +kernel⟩, List.mem_of_getElem? (i := 36) (by decide +kernel), List.mem_of_getElem? (i := 891) (by decide +kernel), List.mem_of_getElem? (i := 892) (by decide +kernel)⟩
theorem lw_p35 : lw_okq (⟨"StoneHome", "canBeKicked", "(I)Z"⟩, 13) := ⟨⟨by decide +kernel, by decide +kernel⟩, List.mem_of_getElem? (i := 22) (by decide +kernel), List.mem_of_getElem? (i := 906) (by decide +kernel), List.mem_of_getElem? (i := 907) (by decide +kernel)⟩
theorem lw_p36 : lw_okq (⟨"StoneHome$Street", "lotOfSix", "(I)I"⟩, 16) := ⟨⟨by decide +kernel, by decide +kernel⟩, List.mem_of_getElem? (i := 30) (by decide +kernel), List.mem_of_getElem? (i := 918) (by decide +kernel), List.mem_of_getElem? (i := 919) (by decide +kernel)⟩
theorem lw_p37 : lw_okq (⟨"StoneHome", "comeBy", "(I)I"⟩, 13) := ⟨⟨by decide +kernel, by decide +kernel⟩, List.mem_of_getElem? (i := 22) (by decide +kernel), List.mem_of_getElem? (i := 938) (by decide +kernel), List.mem_of_getElem? (i := 939) (by decide +kernel)⟩
theorem lw_p38 : lw_okq (⟨"StoneHome", "settle", "(I)I"⟩, 13) := ⟨⟨by decide +kernel, by decide +kernel⟩, List.mem_of_getElem? (i := 22) (by decide +kernel), List.mem_of_getElem? (i := 968) (by decide +kernel), List.mem_of_getElem? (i := 969) (by decide +kernel)⟩
theorem lw_p39 : lw_okq (⟨"StoneHome", "lose", "()I"⟩, 13) := ⟨⟨by decide +kernel, by decide +kernel⟩, List.mem_of_getElem? (i := 22) (by decide +kernel), List.mem_of_getElem? (i := 972) (by decide +kernel), List.mem_of_getElem? (i := 973) (by decide +kernel)⟩
theorem lw_p40 : lw_okq (⟨"StoneHome", "touched", "(I)I"⟩, 13) := ⟨⟨by decide +kernel, by decide +kernel⟩, List.mem_of_getElem? (i := 22) (by decide +kernel), List.mem_of_getElem? (i := 985) (by decide +kernel), List.mem_of_getElem? (i := 986) (by decide +kernel)⟩
theorem lw_p41 : lw_okq (⟨"StoneHome", "homeChance", "(I)I"⟩, 13) := ⟨⟨by decide +kernel, by decide +kernel⟩, List.mem_of_getElem? (i := 22) (by decide +kernel), List.mem_of_getElem? (i := 1014) (by decide +kernel), List.mem_of_getElem? (i := 1015) (by decide +kernel)⟩
theorem lw_p42 : lw_okq (⟨"StoneHome$Forecast", "swap", "()V"⟩, 9) := ⟨⟨by decide +kernel, by decide +kernel⟩, List.mem_of_getElem? (i := 321) (by decide +kernel), List.mem_of_getElem? (i := 1030) (by decide +kernel), List.mem_of_getElem? (i := 1031) (by decide +kernel)⟩
theorem lw_p43 : lw_okq (⟨"StoneHome$Forecast", "fillLayer", "(I)V"⟩, 9) := ⟨⟨by decide +kernel, by decide +kernel⟩, List.mem_of_getElem? (i := 321) (by decide +kernel), List.mem_of_getElem? (i := 1047) (by decide +kernel), List.mem_of_getElem? (i := 1048) (by decide +kernel)⟩
theorem lw_p44 : lw_okq (⟨"StoneHome$Forecast", "chanceThere", "(II)I"⟩, 9) := ⟨⟨by decide +kernel, by decide +kernel⟩, List.mem_of_getElem? (i := 321) (by decide +kernel), List.mem_of_getElem? (i := 1052) (by decide +kernel), List.mem_of_getElem? (i := 1053) (by decide +kernel)⟩
theorem lw_p45 : lw_okq (⟨"StoneHome$Forecast", "chanceBy", "(III)I"⟩, 9) := ⟨⟨by decide +kernel, by decide +kernel⟩, List.mem_of_getElem? (i := 321) (by decide +kernel), List.mem_of_getElem? (i := 1057) (by decide +kernel), List.mem_of_getElem? (i := 1058) (by decide +kernel)⟩
theorem lw_p46 : lw_okq (⟨"StoneHome$Forecast", "laterChance", "(II)I"⟩, 9) := ⟨⟨by decide +kernel, by decide +kernel⟩, List.mem_of_getElem? (i := 321) (by decide +kernel), List.mem_of_getElem? (i := 1062) (by decide +kernel), List.mem_of_getElem? (i := 1063) (by decide +kernel)⟩
theorem lw_p47 : lw_okq (⟨"StoneHome$Forecast", "chanceAtRest", "(II)I"⟩, 9) := ⟨⟨by decide +kernel, by decide +kernel⟩, List.mem_of_getElem? (i := 321) (by decide +kernel), List.mem_of_getElem? (i := 1077) (by decide +kernel), List.mem_of_getElem? (i := 1078) (by decide +kernel)⟩
def lw_privs_3 : List (MethodName × Nat) := [(⟨"StoneHome$Reader", "judge", "(I)V"⟩, 12), (⟨"StoneHome$Street", "isSpot", "([I)Z"⟩, 16), (⟨"StoneHome$Laws", "factAt", "(I)I"⟩, 8), (⟨"StoneHome", "canBeKicked", "(I)Z"⟩, 13), (⟨"StoneHome$Street", "lotOfSix", "(I)I"⟩, 16), (⟨"StoneHome", "comeBy", "(I)I"⟩, 13), (⟨"StoneHome", "settle", "(I)I"⟩, 13), (⟨"StoneHome", "lose", "()I"⟩, 13), (⟨"StoneHome", "touched", "(I)I"⟩, 13), (⟨"StoneHome", "homeChance", "(I)I"⟩, 13), (⟨"StoneHome$Forecast", "swap", "()V"⟩, 9), (⟨"StoneHome$Forecast", "fillLayer", "(I)V"⟩, 9), (⟨"StoneHome$Forecast", "chanceThere", "(II)I"⟩, 9), (⟨"StoneHome$Forecast", "chanceBy", "(III)I"⟩, 9), (⟨"StoneHome$Forecast", "laterChance", "(II)I"⟩, 9), (⟨"StoneHome$Forecast", "chanceAtRest", "(II)I"⟩, 9)]
theorem lw_r3 : ∀ q ∈ lw_privs_3, lw_okq q := List.forall_mem_cons.mpr ⟨lw_p32, List.forall_mem_cons.mpr ⟨lw_p33, List.forall_mem_cons.mpr ⟨lw_p34, List.forall_mem_cons.mpr ⟨lw_p35, List.forall_mem_cons.mpr ⟨lw_p36, List.forall_mem_cons.mpr ⟨lw_p37, List.forall_mem_cons.mpr ⟨lw_p38, List.forall_mem_cons.mpr ⟨lw_p39, List.forall_mem_cons.mpr ⟨lw_p40, List.forall_mem_cons.mpr ⟨lw_p41, List.forall_mem_cons.mpr ⟨lw_p42, List.forall_mem_cons.mpr ⟨lw_p43, List.forall_mem_cons.mpr ⟨lw_p44, List.forall_mem_cons.mpr ⟨lw_p45, List.forall_mem_cons.mpr ⟨lw_p46, List.forall_mem_cons.mpr ⟨lw_p47, fun _ h => absurd h List.not_mem_nil⟩⟩⟩⟩⟩⟩⟩⟩⟩⟩⟩⟩⟩⟩⟩⟩
theorem lw_p48 : lw_okq (⟨"StoneHome", "bestFrom", "(II)I"⟩, 13) := ⟨⟨by decide +kernel, by decide +kernel⟩, List.mem_of_getElem? (i := 22) (by decide +kernel), List.mem_of_getElem? (i := 1102) (by decide +kernel), List.mem_of_getElem? (i := 1103) (by decide +kernel)⟩
theorem lw_p49 : lw_okq (⟨"StoneHome", "ruledChance", "(III)I"⟩, 13) := ⟨⟨by decide +kernel, by decide +kernel⟩, List.mem_of_getElem? (i := 22) (by decide +kernel), List.mem_of_getElem? (i := 1123) (by decide +kernel), List.mem_of_getElem? (i := 1124) (by decide +kernel)⟩
theorem lw_p50 : lw_okq (⟨"StoneHome", "touchedChance", "(I)I"⟩, 13) := ⟨⟨by decide +kernel, by decide +kernel⟩, List.mem_of_getElem? (i := 22) (by decide +kernel), List.mem_of_getElem? (i := 1135) (by decide +kernel), List.mem_of_getElem? (i := 1136) (by decide +kernel)⟩
theorem lw_p51 : lw_okq (⟨"StoneHome", "chanceBehind", "(II)I"⟩, 13) := ⟨⟨by decide +kernel, by decide +kernel⟩, List.mem_of_getElem? (i := 22) (by decide +kernel), List.mem_of_getElem? (i := 1151) (by decide +kernel), List.mem_of_getElem? (i := 1152) (by decide +kernel)⟩
theorem lw_p52 : lw_okq (⟨"StoneHome", "isTrap", "(I)Z"⟩, 13) := ⟨⟨by decide +kernel, by decide +kernel⟩, List.mem_of_getElem? (i := 22) (by decide +kernel), List.mem_of_getElem? (i := 1163) (by decide +kernel), List.mem_of_getElem? (i := 1164) (by decide +kernel)⟩
theorem lw_p53 : lw_okq (⟨"StoneHome$Race", "reach", "([IIII)V"⟩, 6) := ⟨⟨by decide +kernel, by decide +kernel⟩, List.mem_of_getElem? (i := 355) (by decide +kernel), List.mem_of_getElem? (i := 1180) (by decide +kernel), List.mem_of_getElem? (i := 1181) (by decide +kernel)⟩
theorem lw_p54 : lw_okq (⟨"StoneHome$Race", "reachBy", "(II[II)V"⟩, 6) := ⟨⟨by decide +kernel, by decide +kernel⟩, List.mem_of_getElem? (i := 355) (by decide +kernel), List.mem_of_getElem? (i := 1186) (by decide +kernel), List.mem_of_getElem? (i := 1187) (by decide +kernel)⟩
theorem lw_p55 : lw_okq (⟨"StoneHome$Race", "takeMyTurn", "(II)V"⟩, 6) := ⟨⟨by decide +kernel, by decide +kernel⟩, List.mem_of_getElem? (i := 355) (by decide +kernel), List.mem_of_getElem? (i := 1195) (by decide +kernel), List.mem_of_getElem? (i := 1196) (by decide +kernel)⟩
theorem lw_p56 : lw_okq (⟨"StoneHome$Race", "myBest", "(II)I"⟩, 6) := ⟨⟨by decide +kernel, by decide +kernel⟩, List.mem_of_getElem? (i := 355) (by decide +kernel), List.mem_of_getElem? (i := 1200) (by decide +kernel), List.mem_of_getElem? (i := 1201) (by decide +kernel)⟩
theorem lw_p57 : lw_okq (⟨"StoneHome$Race", "chanceBy", "(IIII)I"⟩, 6) := ⟨⟨by decide +kernel, by decide +kernel⟩, List.mem_of_getElem? (i := 355) (by decide +kernel), List.mem_of_getElem? (i := 1204) (by decide +kernel), List.mem_of_getElem? (i := 1205) (by decide +kernel)⟩
theorem lw_p58 : lw_okq (⟨"StoneHome$Race", "takeHisTurn", "(I)V"⟩, 6) := ⟨⟨by decide +kernel, by decide +kernel⟩, List.mem_of_getElem? (i := 355) (by decide +kernel), List.mem_of_getElem? (i := 1211) (by decide +kernel), List.mem_of_getElem? (i := 1212) (by decide +kernel)⟩
theorem lw_p59 : lw_okq (⟨"StoneHome$Race", "hisBest", "(I)I"⟩, 6) := ⟨⟨by decide +kernel, by decide +kernel⟩, List.mem_of_getElem? (i := 355) (by decide +kernel), List.mem_of_getElem? (i := 1218) (by decide +kernel), List.mem_of_getElem? (i := 1219) (by decide +kernel)⟩
theorem lw_p60 : lw_okq (⟨"StoneHome$Scratches", "weighKick", "(LStoneHome$Street;III)V"⟩, 7) := ⟨⟨by decide +kernel, by decide +kernel⟩, List.mem_of_getElem? (i := 380) (by decide +kernel), List.mem_of_getElem? (i := 1253) (by decide +kernel), List.mem_of_getElem? (i := 1254) (by decide +kernel)⟩
theorem lw_p61 : lw_okq (⟨"StoneHome$Scratches", "pass", "(II)I"⟩, 7) := ⟨⟨by decide +kernel, by decide +kernel⟩, List.mem_of_getElem? (i := 380) (by decide +kernel), List.mem_of_getElem? (i := 1273) (by decide +kernel), List.mem_of_getElem? (i := 1274) (by decide +kernel)⟩
theorem lw_p62 : lw_okq (⟨"StoneHome", "heldSlots", "()I"⟩, 13) := ⟨⟨by decide +kernel, by decide +kernel⟩, List.mem_of_getElem? (i := 22) (by decide +kernel), List.mem_of_getElem? (i := 1304) (by decide +kernel), List.mem_of_getElem? (i := 1305) (by decide +kernel)⟩
theorem lw_p63 : lw_okq (⟨"StoneHomeModel", "plain", "(I)V"⟩, 70) := ⟨⟨by decide +kernel, by decide +kernel⟩, List.mem_of_getElem? (i := 1312) (by decide +kernel), List.mem_of_getElem? (i := 1318) (by decide +kernel), List.mem_of_getElem? (i := 1319) (by decide +kernel)⟩
def lw_privs_4 : List (MethodName × Nat) := [(⟨"StoneHome", "bestFrom", "(II)I"⟩, 13), (⟨"StoneHome", "ruledChance", "(III)I"⟩, 13), (⟨"StoneHome", "touchedChance", "(I)I"⟩, 13), (⟨"StoneHome", "chanceBehind", "(II)I"⟩, 13), (⟨"StoneHome", "isTrap", "(I)Z"⟩, 13), (⟨"StoneHome$Race", "reach", "([IIII)V"⟩, 6), (⟨"StoneHome$Race", "reachBy", "(II[II)V"⟩, 6), (⟨"StoneHome$Race", "takeMyTurn", "(II)V"⟩, 6), (⟨"StoneHome$Race", "myBest", "(II)I"⟩, 6), (⟨"StoneHome$Race", "chanceBy", "(IIII)I"⟩, 6), (⟨"StoneHome$Race", "takeHisTurn", "(I)V"⟩, 6), (⟨"StoneHome$Race", "hisBest", "(I)I"⟩, 6), (⟨"StoneHome$Scratches", "weighKick", "(LStoneHome$Street;III)V"⟩, 7), (⟨"StoneHome$Scratches", "pass", "(II)I"⟩, 7), (⟨"StoneHome", "heldSlots", "()I"⟩, 13), (⟨"StoneHomeModel", "plain", "(I)V"⟩, 70)]
theorem lw_r4 : ∀ q ∈ lw_privs_4, lw_okq q := List.forall_mem_cons.mpr ⟨lw_p48, List.forall_mem_cons.mpr ⟨lw_p49, List.forall_mem_cons.mpr ⟨lw_p50, List.forall_mem_cons.mpr ⟨lw_p51, List.forall_mem_cons.mpr ⟨lw_p52, List.forall_mem_cons.mpr ⟨lw_p53, List.forall_mem_cons.mpr ⟨lw_p54, List.forall_mem_cons.mpr ⟨lw_p55, List.forall_mem_cons.mpr ⟨lw_p56, List.forall_mem_cons.mpr ⟨lw_p57, List.forall_mem_cons.mpr ⟨lw_p58, List.forall_mem_cons.mpr ⟨lw_p59, List.forall_mem_cons.mpr ⟨lw_p60, List.forall_mem_cons.mpr ⟨lw_p61, List.forall_mem_cons.mpr ⟨lw_p62, List.forall_mem_cons.mpr ⟨lw_p63, fun _ h => absurd h List.not_mem_nil⟩⟩⟩⟩⟩⟩⟩⟩⟩⟩⟩⟩⟩⟩⟩⟩
theorem lw_p64 : lw_okq (⟨"StoneHomeModel", "begins", "()V"⟩, 70) := ⟨⟨by decide +kernel, by decide +kernel⟩, List.mem_of_getElem? (i := 1312) (by decide +kernel), List.mem_of_getElem? (i := 1329) (by decide +kernel), List.mem_of_getElem? (i := 1330) (by decide +kernel)⟩
theorem lw_p65 : lw_okq (⟨"StoneHomeModel", "keepsRow", "()V"⟩, 70) := ⟨⟨by decide +kernel, by decide +kernel⟩, List.mem_of_getElem? (i := 1312) (by decide +kernel), List.mem_of_getElem? (i := 1333) (by decide +kernel), List.mem_of_getElem? (i := 1334) (by decide +kernel)⟩
theorem lw_p66 : lw_okq (⟨"StoneHomeModel", "put", "(I)V"⟩, 70) := ⟨⟨by decide +kernel, by decide +kernel⟩, List.mem_of_getElem? (i := 1312) (by decide +kernel), List.mem_of_getElem? (i := 1552) (by decide +kernel), List.mem_of_getElem? (i := 1553) (by decide +kernel)⟩
theorem lw_p67 : lw_okq (⟨"StoneHomeModel", "cut", "()V"⟩, 70) := ⟨⟨by decide +kernel, by decide +kernel⟩, List.mem_of_getElem? (i := 1312) (by decide +kernel), List.mem_of_getElem? (i := 1564) (by decide +kernel), List.mem_of_getElem? (i := 1565) (by decide +kernel)⟩
theorem lw_p68 : lw_okq (⟨"StoneHomeModel", "byteAt", "(I)I"⟩, 70) := ⟨⟨by decide +kernel, by decide +kernel⟩, List.mem_of_getElem? (i := 1312) (by decide +kernel), List.mem_of_getElem? (i := 1568) (by decide +kernel), List.mem_of_getElem? (i := 1569) (by decide +kernel)⟩
theorem lw_p69 : lw_okq (⟨"StoneHomeModel", "token", "(IIIJ)V"⟩, 70) := ⟨⟨by decide +kernel, by decide +kernel⟩, List.mem_of_getElem? (i := 1312) (by decide +kernel), List.mem_of_getElem? (i := 1572) (by decide +kernel), List.mem_of_getElem? (i := 1573) (by decide +kernel)⟩
theorem lw_p70 : lw_okq (⟨"StoneHomeModel", "sign", "(III)I"⟩, 70) := ⟨⟨by decide +kernel, by decide +kernel⟩, List.mem_of_getElem? (i := 1312) (by decide +kernel), List.mem_of_getElem? (i := 1582) (by decide +kernel), List.mem_of_getElem? (i := 1583) (by decide +kernel)⟩
theorem lw_p71 : lw_okq (⟨"StoneHomeModel", "is", "(I)Z"⟩, 70) := ⟨⟨by decide +kernel, by decide +kernel⟩, List.mem_of_getElem? (i := 1312) (by decide +kernel), List.mem_of_getElem? (i := 1586) (by decide +kernel), List.mem_of_getElem? (i := 1587) (by decide +kernel)⟩
theorem lw_p72 : lw_okq (⟨"StoneHomeModel", "tellOne", "()V"⟩, 70) := ⟨⟨by decide +kernel, by decide +kernel⟩, List.mem_of_getElem? (i := 1312) (by decide +kernel), List.mem_of_getElem? (i := 1590) (by decide +kernel), List.mem_of_getElem? (i := 1591) (by decide +kernel)⟩
theorem lw_p73 : lw_okq (⟨"StoneHomeModel", "fail", "(I)V"⟩, 70) := ⟨⟨by decide +kernel, by decide +kernel⟩, List.mem_of_getElem? (i := 1312) (by decide +kernel), List.mem_of_getElem? (i := 1594) (by decide +kernel), List.mem_of_getElem? (i := 1595) (by decide +kernel)⟩
theorem lw_p74 : lw_okq (⟨"StoneHomeModel", "tellRow", "()V"⟩, 70) := ⟨⟨by decide +kernel, by decide +kernel⟩, List.mem_of_getElem? (i := 1312) (by decide +kernel), List.mem_of_getElem? (i := 1598) (by decide +kernel), List.mem_of_getElem? (i := 1599) (by decide +kernel)⟩
theorem lw_p75 : lw_okq (⟨"StoneHomeModel", "goesOn", "()V"⟩, 70) := ⟨⟨by decide +kernel, by decide +kernel⟩, List.mem_of_getElem? (i := 1312) (by decide +kernel), List.mem_of_getElem? (i := 1602) (by decide +kernel), List.mem_of_getElem? (i := 1603) (by decide +kernel)⟩
theorem lw_p76 : lw_okq (⟨"StoneHomeModel", "must", "(I)V"⟩, 70) := ⟨⟨by decide +kernel, by decide +kernel⟩, List.mem_of_getElem? (i := 1312) (by decide +kernel), List.mem_of_getElem? (i := 1606) (by decide +kernel), List.mem_of_getElem? (i := 1607) (by decide +kernel)⟩
theorem lw_p77 : lw_okq (⟨"StoneHomeModel", "wrong", "(II)V"⟩, 70) := ⟨⟨by decide +kernel, by decide +kernel⟩, List.mem_of_getElem? (i := 1312) (by decide +kernel), List.mem_of_getElem? (i := 1610) (by decide +kernel), List.mem_of_getElem? (i := 1611) (by decide +kernel)⟩
theorem lw_p78 : lw_okq (⟨"StoneHomeModel", "bounded", "(II)I"⟩, 70) := ⟨⟨by decide +kernel, by decide +kernel⟩, List.mem_of_getElem? (i := 1312) (by decide +kernel), List.mem_of_getElem? (i := 1617) (by decide +kernel), List.mem_of_getElem? (i := 1618) (by decide +kernel)⟩
theorem lw_p79 : lw_okq (⟨"StoneHomeModel", "tellKick", "()V"⟩, 70) := ⟨⟨by decide +kernel, by decide +kernel⟩, List.mem_of_getElem? (i := 1312) (by decide +kernel), List.mem_of_getElem? (i := 1621) (by decide +kernel), List.mem_of_getElem? (i := 1622) (by decide +kernel)⟩
def lw_privs_5 : List (MethodName × Nat) := [(⟨"StoneHomeModel", "begins", "()V"⟩, 70), (⟨"StoneHomeModel", "keepsRow", "()V"⟩, 70), (⟨"StoneHomeModel", "put", "(I)V"⟩, 70), (⟨"StoneHomeModel", "cut", "()V"⟩, 70), (⟨"StoneHomeModel", "byteAt", "(I)I"⟩, 70), (⟨"StoneHomeModel", "token", "(IIIJ)V"⟩, 70), (⟨"StoneHomeModel", "sign", "(III)I"⟩, 70), (⟨"StoneHomeModel", "is", "(I)Z"⟩, 70), (⟨"StoneHomeModel", "tellOne", "()V"⟩, 70), (⟨"StoneHomeModel", "fail", "(I)V"⟩, 70), (⟨"StoneHomeModel", "tellRow", "()V"⟩, 70), (⟨"StoneHomeModel", "goesOn", "()V"⟩, 70), (⟨"StoneHomeModel", "must", "(I)V"⟩, 70), (⟨"StoneHomeModel", "wrong", "(II)V"⟩, 70), (⟨"StoneHomeModel", "bounded", "(II)I"⟩, 70), (⟨"StoneHomeModel", "tellKick", "()V"⟩, 70)]
theorem lw_r5 : ∀ q ∈ lw_privs_5, lw_okq q := List.forall_mem_cons.mpr ⟨lw_p64, List.forall_mem_cons.mpr ⟨lw_p65, List.forall_mem_cons.mpr ⟨lw_p66, List.forall_mem_cons.mpr ⟨lw_p67, List.forall_mem_cons.mpr ⟨lw_p68, List.forall_mem_cons.mpr ⟨lw_p69, List.forall_mem_cons.mpr ⟨lw_p70, List.forall_mem_cons.mpr ⟨lw_p71, List.forall_mem_cons.mpr ⟨lw_p72, List.forall_mem_cons.mpr ⟨lw_p73, List.forall_mem_cons.mpr ⟨lw_p74, List.forall_mem_cons.mpr ⟨lw_p75, List.forall_mem_cons.mpr ⟨lw_p76, List.forall_mem_cons.mpr ⟨lw_p77, List.forall_mem_cons.mpr ⟨lw_p78, List.forall_mem_cons.mpr ⟨lw_p79, fun _ h => absurd h List.not_mem_nil⟩⟩⟩⟩⟩⟩⟩⟩⟩⟩⟩⟩⟩⟩⟩⟩
theorem lw_p80 : lw_okq (⟨"StoneHomeModel", "tellOutcome", "(I)V"⟩, 70) := ⟨⟨by decide +kernel, by decide +kernel⟩, List.mem_of_getElem? (i := 1312) (by decide +kernel), List.mem_of_getElem? (i := 1625) (by decide +kernel), List.mem_of_getElem? (i := 1626) (by decide +kernel)⟩
theorem lw_p81 : lw_okq (⟨"StoneHomeModel", "tellLaw", "(I)V"⟩, 70) := ⟨⟨by decide +kernel, by decide +kernel⟩, List.mem_of_getElem? (i := 1312) (by decide +kernel), List.mem_of_getElem? (i := 1629) (by decide +kernel), List.mem_of_getElem? (i := 1630) (by decide +kernel)⟩
theorem lw_p82 : lw_okq (⟨"StoneHomeModel", "expression", "()V"⟩, 70) := ⟨⟨by decide +kernel, by decide +kernel⟩, List.mem_of_getElem? (i := 1312) (by decide +kernel), List.mem_of_getElem? (i := 1633) (by decide +kernel), List.mem_of_getElem? (i := 1634) (by decide +kernel)⟩
theorem lw_p83 : lw_okq (⟨"StoneHomeModel", "unit", "()V"⟩, 70) := ⟨⟨by decide +kernel, by decide +kernel⟩, List.mem_of_getElem? (i := 1312) (by decide +kernel), List.mem_of_getElem? (i := 1637) (by decide +kernel), List.mem_of_getElem? (i := 1638) (by decide +kernel)⟩
theorem lw_p84 : lw_okq (⟨"StoneHomeModel", "emit", "(II)V"⟩, 70) := ⟨⟨by decide +kernel, by decide +kernel⟩, List.mem_of_getElem? (i := 1312) (by decide +kernel), List.mem_of_getElem? (i := 1641) (by decide +kernel), List.mem_of_getElem? (i := 1642) (by decide +kernel)⟩
theorem lw_p85 : lw_okq (⟨"StoneHomeModel", "comesOut", "(Z)V"⟩, 70) := ⟨⟨by decide +kernel, by decide +kernel⟩, List.mem_of_getElem? (i := 1312) (by decide +kernel), List.mem_of_getElem? (i := 1645) (by decide +kernel), List.mem_of_getElem? (i := 1646) (by decide +kernel)⟩
theorem lw_p86 : lw_okq (⟨"StoneHomeModel", "term", "()V"⟩, 70) := ⟨⟨by decide +kernel, by decide +kernel⟩, List.mem_of_getElem? (i := 1312) (by decide +kernel), List.mem_of_getElem? (i := 1649) (by decide +kernel), List.mem_of_getElem? (i := 1650) (by decide +kernel)⟩
theorem lw_p87 : lw_okq (⟨"StoneHomeModel", "isThere", "([I)Z"⟩, 70) := ⟨⟨by decide +kernel, by decide +kernel⟩, List.mem_of_getElem? (i := 1312) (by decide +kernel), List.mem_of_getElem? (i := 1653) (by decide +kernel), List.mem_of_getElem? (i := 1654) (by decide +kernel)⟩
theorem lw_p88 : lw_okq (⟨"StoneHomeModel", "stateNow", "()I"⟩, 70) := ⟨⟨by decide +kernel, by decide +kernel⟩, List.mem_of_getElem? (i := 1312) (by decide +kernel), List.mem_of_getElem? (i := 1665) (by decide +kernel), List.mem_of_getElem? (i := 1666) (by decide +kernel)⟩
theorem lw_p89 : lw_okq (⟨"StoneHomeModel", "isHome", "(I)Z"⟩, 70) := ⟨⟨by decide +kernel, by decide +kernel⟩, List.mem_of_getElem? (i := 1312) (by decide +kernel), List.mem_of_getElem? (i := 1672) (by decide +kernel), List.mem_of_getElem? (i := 1673) (by decide +kernel)⟩
theorem lw_p90 : lw_okq (⟨"StoneHomeModel", "sortOf", "(I)I"⟩, 70) := ⟨⟨by decide +kernel, by decide +kernel⟩, List.mem_of_getElem? (i := 1312) (by decide +kernel), List.mem_of_getElem? (i := 1676) (by decide +kernel), List.mem_of_getElem? (i := 1677) (by decide +kernel)⟩
theorem lw_p91 : lw_okq (⟨"StoneHomeModel", "sortAt", "(II)I"⟩, 70) := ⟨⟨by decide +kernel, by decide +kernel⟩, List.mem_of_getElem? (i := 1312) (by decide +kernel), List.mem_of_getElem? (i := 1686) (by decide +kernel), List.mem_of_getElem? (i := 1687) (by decide +kernel)⟩
theorem lw_p92 : lw_okq (⟨"StoneHomeModel", "isPlace", "(II)Z"⟩, 70) := ⟨⟨by decide +kernel, by decide +kernel⟩, List.mem_of_getElem? (i := 1312) (by decide +kernel), List.mem_of_getElem? (i := 1694) (by decide +kernel), List.mem_of_getElem? (i := 1695) (by decide +kernel)⟩
theorem lw_p93 : lw_okq (⟨"StoneHomeModel", "isBarred", "(III)Z"⟩, 70) := ⟨⟨by decide +kernel, by decide +kernel⟩, List.mem_of_getElem? (i := 1312) (by decide +kernel), List.mem_of_getElem? (i := 1705) (by decide +kernel), List.mem_of_getElem? (i := 1706) (by decide +kernel)⟩
theorem lw_p94 : lw_okq (⟨"StoneHomeModel", "asks", "(I)I"⟩, 70) := ⟨⟨by decide +kernel, by decide +kernel⟩, List.mem_of_getElem? (i := 1312) (by decide +kernel), List.mem_of_getElem? (i := 1709) (by decide +kernel), List.mem_of_getElem? (i := 1710) (by decide +kernel)⟩
theorem lw_p95 : lw_okq (⟨"StoneHomeModel", "termOf", "(II)I"⟩, 70) := ⟨⟨by decide +kernel, by decide +kernel⟩, List.mem_of_getElem? (i := 1312) (by decide +kernel), List.mem_of_getElem? (i := 1713) (by decide +kernel), List.mem_of_getElem? (i := 1714) (by decide +kernel)⟩
def lw_privs_6 : List (MethodName × Nat) := [(⟨"StoneHomeModel", "tellOutcome", "(I)V"⟩, 70), (⟨"StoneHomeModel", "tellLaw", "(I)V"⟩, 70), (⟨"StoneHomeModel", "expression", "()V"⟩, 70), (⟨"StoneHomeModel", "unit", "()V"⟩, 70), (⟨"StoneHomeModel", "emit", "(II)V"⟩, 70), (⟨"StoneHomeModel", "comesOut", "(Z)V"⟩, 70), (⟨"StoneHomeModel", "term", "()V"⟩, 70), (⟨"StoneHomeModel", "isThere", "([I)Z"⟩, 70), (⟨"StoneHomeModel", "stateNow", "()I"⟩, 70), (⟨"StoneHomeModel", "isHome", "(I)Z"⟩, 70), (⟨"StoneHomeModel", "sortOf", "(I)I"⟩, 70), (⟨"StoneHomeModel", "sortAt", "(II)I"⟩, 70), (⟨"StoneHomeModel", "isPlace", "(II)Z"⟩, 70), (⟨"StoneHomeModel", "isBarred", "(III)Z"⟩, 70), (⟨"StoneHomeModel", "asks", "(I)I"⟩, 70), (⟨"StoneHomeModel", "termOf", "(II)I"⟩, 70)]
theorem lw_r6 : ∀ q ∈ lw_privs_6, lw_okq q := List.forall_mem_cons.mpr ⟨lw_p80, List.forall_mem_cons.mpr ⟨lw_p81, List.forall_mem_cons.mpr ⟨lw_p82, List.forall_mem_cons.mpr ⟨lw_p83, List.forall_mem_cons.mpr ⟨lw_p84, List.forall_mem_cons.mpr ⟨lw_p85, List.forall_mem_cons.mpr ⟨lw_p86, List.forall_mem_cons.mpr ⟨lw_p87, List.forall_mem_cons.mpr ⟨lw_p88, List.forall_mem_cons.mpr ⟨lw_p89, List.forall_mem_cons.mpr ⟨lw_p90, List.forall_mem_cons.mpr ⟨lw_p91, List.forall_mem_cons.mpr ⟨lw_p92, List.forall_mem_cons.mpr ⟨lw_p93, List.forall_mem_cons.mpr ⟨lw_p94, List.forall_mem_cons.mpr ⟨lw_p95, fun _ h => absurd h List.not_mem_nil⟩⟩⟩⟩⟩⟩⟩⟩⟩⟩⟩⟩⟩⟩⟩⟩
theorem lw_p96 : lw_okq (⟨"StoneHomeModel", "isOver", "()Z"⟩, 70) := ⟨⟨by decide +kernel, by decide +kernel⟩, List.mem_of_getElem? (i := 1312) (by decide +kernel), List.mem_of_getElem? (i := 1721) (by decide +kernel), List.mem_of_getElem? (i := 1722) (by decide +kernel)⟩
theorem lw_p97 : lw_okq (⟨"StoneHomeModel", "canKick", "(II)Z"⟩, 70) := ⟨⟨by decide +kernel, by decide +kernel⟩, List.mem_of_getElem? (i := 1312) (by decide +kernel), List.mem_of_getElem? (i := 1725) (by decide +kernel), List.mem_of_getElem? (i := 1726) (by decide +kernel)⟩
theorem lw_p98 : lw_okq (⟨"StoneHomeModel", "brought", "(IIII)I"⟩, 70) := ⟨⟨by decide +kernel, by decide +kernel⟩, List.mem_of_getElem? (i := 1312) (by decide +kernel), List.mem_of_getElem? (i := 1733) (by decide +kernel), List.mem_of_getElem? (i := 1734) (by decide +kernel)⟩
theorem lw_p99 : lw_okq (⟨"StoneHomeModel", "comesTo", "(IZ)I"⟩, 70) := ⟨⟨by decide +kernel, by decide +kernel⟩, List.mem_of_getElem? (i := 1312) (by decide +kernel), List.mem_of_getElem? (i := 1746) (by decide +kernel), List.mem_of_getElem? (i := 1747) (by decide +kernel)⟩
theorem lw_p100 : lw_okq (⟨"StoneHomeModel", "copies", "()V"⟩, 70) := ⟨⟨by decide +kernel, by decide +kernel⟩, List.mem_of_getElem? (i := 1312) (by decide +kernel), List.mem_of_getElem? (i := 1750) (by decide +kernel), List.mem_of_getElem? (i := 1751) (by decide +kernel)⟩
theorem lw_p101 : lw_okq (⟨"StoneHomeModel", "keeps", "()V"⟩, 70) := ⟨⟨by decide +kernel, by decide +kernel⟩, List.mem_of_getElem? (i := 1312) (by decide +kernel), List.mem_of_getElem? (i := 1754) (by decide +kernel), List.mem_of_getElem? (i := 1755) (by decide +kernel)⟩
theorem lw_p102 : lw_okq (⟨"StoneHomeModel", "waited", "(II)I"⟩, 70) := ⟨⟨by decide +kernel, by decide +kernel⟩, List.mem_of_getElem? (i := 1312) (by decide +kernel), List.mem_of_getElem? (i := 1762) (by decide +kernel), List.mem_of_getElem? (i := 1763) (by decide +kernel)⟩
theorem lw_p103 : lw_okq (⟨"StoneHomeModel", "touched", "(II)I"⟩, 70) := ⟨⟨by decide +kernel, by decide +kernel⟩, List.mem_of_getElem? (i := 1312) (by decide +kernel), List.mem_of_getElem? (i := 1770) (by decide +kernel), List.mem_of_getElem? (i := 1771) (by decide +kernel)⟩
theorem lw_p104 : lw_okq (⟨"StoneHomeModel", "fills", "(I)V"⟩, 70) := ⟨⟨by decide +kernel, by decide +kernel⟩, List.mem_of_getElem? (i := 1312) (by decide +kernel), List.mem_of_getElem? (i := 1793) (by decide +kernel), List.mem_of_getElem? (i := 1794) (by decide +kernel)⟩
theorem lw_p105 : lw_okq (⟨"StoneHomeModel", "fillsFrom", "(IIII)V"⟩, 70) := ⟨⟨by decide +kernel, by decide +kernel⟩, List.mem_of_getElem? (i := 1312) (by decide +kernel), List.mem_of_getElem? (i := 1797) (by decide +kernel), List.mem_of_getElem? (i := 1798) (by decide +kernel)⟩
theorem lw_p106 : lw_okq (⟨"StoneHomeModel", "isSquare", "(I)Z"⟩, 70) := ⟨⟨by decide +kernel, by decide +kernel⟩, List.mem_of_getElem? (i := 1312) (by decide +kernel), List.mem_of_getElem? (i := 1801) (by decide +kernel), List.mem_of_getElem? (i := 1802) (by decide +kernel)⟩
theorem lw_p107 : lw_okq (⟨"StoneHomeModel", "earlier", "(III)V"⟩, 70) := ⟨⟨by decide +kernel, by decide +kernel⟩, List.mem_of_getElem? (i := 1312) (by decide +kernel), List.mem_of_getElem? (i := 1808) (by decide +kernel), List.mem_of_getElem? (i := 1809) (by decide +kernel)⟩
theorem lw_p108 : lw_okq (⟨"StoneHomeModel", "bestOf", "(II)I"⟩, 70) := ⟨⟨by decide +kernel, by decide +kernel⟩, List.mem_of_getElem? (i := 1312) (by decide +kernel), List.mem_of_getElem? (i := 1812) (by decide +kernel), List.mem_of_getElem? (i := 1813) (by decide +kernel)⟩
theorem lw_p109 : lw_okq (⟨"StoneHomeModel", "valueOf", "(III)I"⟩, 70) := ⟨⟨by decide +kernel, by decide +kernel⟩, List.mem_of_getElem? (i := 1312) (by decide +kernel), List.mem_of_getElem? (i := 1816) (by decide +kernel), List.mem_of_getElem? (i := 1817) (by decide +kernel)⟩
theorem lw_p110 : lw_okq (⟨"StoneHomeModel", "isRule", "(II)Z"⟩, 70) := ⟨⟨by decide +kernel, by decide +kernel⟩, List.mem_of_getElem? (i := 1312) (by decide +kernel), List.mem_of_getElem? (i := 1843) (by decide +kernel), List.mem_of_getElem? (i := 1844) (by decide +kernel)⟩
theorem lw_p111 : lw_okq (⟨"StoneHomeModel", "spreads", "(II)V"⟩, 70) := ⟨⟨by decide +kernel, by decide +kernel⟩, List.mem_of_getElem? (i := 1312) (by decide +kernel), List.mem_of_getElem? (i := 1851) (by decide +kernel), List.mem_of_getElem? (i := 1852) (by decide +kernel)⟩
def lw_privs_7 : List (MethodName × Nat) := [(⟨"StoneHomeModel", "isOver", "()Z"⟩, 70), (⟨"StoneHomeModel", "canKick", "(II)Z"⟩, 70), (⟨"StoneHomeModel", "brought", "(IIII)I"⟩, 70), (⟨"StoneHomeModel", "comesTo", "(IZ)I"⟩, 70), (⟨"StoneHomeModel", "copies", "()V"⟩, 70), (⟨"StoneHomeModel", "keeps", "()V"⟩, 70), (⟨"StoneHomeModel", "waited", "(II)I"⟩, 70), (⟨"StoneHomeModel", "touched", "(II)I"⟩, 70), (⟨"StoneHomeModel", "fills", "(I)V"⟩, 70), (⟨"StoneHomeModel", "fillsFrom", "(IIII)V"⟩, 70), (⟨"StoneHomeModel", "isSquare", "(I)Z"⟩, 70), (⟨"StoneHomeModel", "earlier", "(III)V"⟩, 70), (⟨"StoneHomeModel", "bestOf", "(II)I"⟩, 70), (⟨"StoneHomeModel", "valueOf", "(III)I"⟩, 70), (⟨"StoneHomeModel", "isRule", "(II)Z"⟩, 70), (⟨"StoneHomeModel", "spreads", "(II)V"⟩, 70)]
theorem lw_r7 : ∀ q ∈ lw_privs_7, lw_okq q := List.forall_mem_cons.mpr ⟨lw_p96, List.forall_mem_cons.mpr ⟨lw_p97, List.forall_mem_cons.mpr ⟨lw_p98, List.forall_mem_cons.mpr ⟨lw_p99, List.forall_mem_cons.mpr ⟨lw_p100, List.forall_mem_cons.mpr ⟨lw_p101, List.forall_mem_cons.mpr ⟨lw_p102, List.forall_mem_cons.mpr ⟨lw_p103, List.forall_mem_cons.mpr ⟨lw_p104, List.forall_mem_cons.mpr ⟨lw_p105, List.forall_mem_cons.mpr ⟨lw_p106, List.forall_mem_cons.mpr ⟨lw_p107, List.forall_mem_cons.mpr ⟨lw_p108, List.forall_mem_cons.mpr ⟨lw_p109, List.forall_mem_cons.mpr ⟨lw_p110, List.forall_mem_cons.mpr ⟨lw_p111, fun _ h => absurd h List.not_mem_nil⟩⟩⟩⟩⟩⟩⟩⟩⟩⟩⟩⟩⟩⟩⟩⟩
theorem lw_p112 : lw_okq (⟨"StoneHomeModel", "spreadsOne", "(III)V"⟩, 70) := ⟨⟨by decide +kernel, by decide +kernel⟩, List.mem_of_getElem? (i := 1312) (by decide +kernel), List.mem_of_getElem? (i := 1855) (by decide +kernel), List.mem_of_getElem? (i := 1856) (by decide +kernel)⟩
theorem lw_p113 : lw_okq (⟨"StoneHomeModel", "fillsCameTo", "(I)V"⟩, 70) := ⟨⟨by decide +kernel, by decide +kernel⟩, List.mem_of_getElem? (i := 1312) (by decide +kernel), List.mem_of_getElem? (i := 1887) (by decide +kernel), List.mem_of_getElem? (i := 1888) (by decide +kernel)⟩
theorem lw_p114 : lw_okq (⟨"StoneHomeModel", "isLone", "(I)Z"⟩, 70) := ⟨⟨by decide +kernel, by decide +kernel⟩, List.mem_of_getElem? (i := 1312) (by decide +kernel), List.mem_of_getElem? (i := 1891) (by decide +kernel), List.mem_of_getElem? (i := 1892) (by decide +kernel)⟩
theorem lw_p115 : lw_okq (⟨"StoneHomeModel", "pairOf", "(IIZI)I"⟩, 70) := ⟨⟨by decide +kernel, by decide +kernel⟩, List.mem_of_getElem? (i := 1312) (by decide +kernel), List.mem_of_getElem? (i := 1895) (by decide +kernel), List.mem_of_getElem? (i := 1896) (by decide +kernel)⟩
theorem lw_p116 : lw_okq (⟨"StoneHomeModel", "pairBy", "(IIZI)I"⟩, 70) := ⟨⟨by decide +kernel, by decide +kernel⟩, List.mem_of_getElem? (i := 1312) (by decide +kernel), List.mem_of_getElem? (i := 1899) (by decide +kernel), List.mem_of_getElem? (i := 1900) (by decide +kernel)⟩
theorem lw_p117 : lw_okq (⟨"StoneHomeModel", "fitting", "(II)I"⟩, 70) := ⟨⟨by decide +kernel, by decide +kernel⟩, List.mem_of_getElem? (i := 1312) (by decide +kernel), List.mem_of_getElem? (i := 1915) (by decide +kernel), List.mem_of_getElem? (i := 1916) (by decide +kernel)⟩
theorem lw_p118 : lw_okq (⟨"StoneHomeModel", "oftenBy", "(II)I"⟩, 70) := ⟨⟨by decide +kernel, by decide +kernel⟩, List.mem_of_getElem? (i := 1312) (by decide +kernel), List.mem_of_getElem? (i := 1919) (by decide +kernel), List.mem_of_getElem? (i := 1920) (by decide +kernel)⟩
theorem lw_p119 : lw_okq (⟨"StoneHomeModel", "scratches", "(II)V"⟩, 70) := ⟨⟨by decide +kernel, by decide +kernel⟩, List.mem_of_getElem? (i := 1312) (by decide +kernel), List.mem_of_getElem? (i := 1923) (by decide +kernel), List.mem_of_getElem? (i := 1924) (by decide +kernel)⟩
def lw_privs_8 : List (MethodName × Nat) := [(⟨"StoneHomeModel", "spreadsOne", "(III)V"⟩, 70), (⟨"StoneHomeModel", "fillsCameTo", "(I)V"⟩, 70), (⟨"StoneHomeModel", "isLone", "(I)Z"⟩, 70), (⟨"StoneHomeModel", "pairOf", "(IIZI)I"⟩, 70), (⟨"StoneHomeModel", "pairBy", "(IIZI)I"⟩, 70), (⟨"StoneHomeModel", "fitting", "(II)I"⟩, 70), (⟨"StoneHomeModel", "oftenBy", "(II)I"⟩, 70), (⟨"StoneHomeModel", "scratches", "(II)V"⟩, 70)]
theorem lw_r8 : ∀ q ∈ lw_privs_8, lw_okq q := List.forall_mem_cons.mpr ⟨lw_p112, List.forall_mem_cons.mpr ⟨lw_p113, List.forall_mem_cons.mpr ⟨lw_p114, List.forall_mem_cons.mpr ⟨lw_p115, List.forall_mem_cons.mpr ⟨lw_p116, List.forall_mem_cons.mpr ⟨lw_p117, List.forall_mem_cons.mpr ⟨lw_p118, List.forall_mem_cons.mpr ⟨lw_p119, fun _ h => absurd h List.not_mem_nil⟩⟩⟩⟩⟩⟩⟩⟩
def lw_privs : List (MethodName × Nat) := lw_privs_1 ++ (lw_privs_2 ++ (lw_privs_3 ++ (lw_privs_4 ++ (lw_privs_5 ++ (lw_privs_6 ++ (lw_privs_7 ++ (lw_privs_8)))))))
def lw_tbl : List Cond := k2_sels lw_privs ++ tables_1
theorem lw_privs_ok : ∀ q ∈ lw_privs, lw_okq q := by
  show ∀ q ∈ lw_privs_1 ++ (lw_privs_2 ++ (lw_privs_3 ++ (lw_privs_4 ++ (lw_privs_5 ++ (lw_privs_6 ++ (lw_privs_7 ++ (lw_privs_8))))))), lw_okq q
  exact List.forall_mem_append.mpr ⟨lw_r1, List.forall_mem_append.mpr ⟨lw_r2, List.forall_mem_append.mpr ⟨lw_r3, List.forall_mem_append.mpr ⟨lw_r4, List.forall_mem_append.mpr ⟨lw_r5, List.forall_mem_append.mpr ⟨lw_r6, List.forall_mem_append.mpr ⟨lw_r7, lw_r8⟩⟩⟩⟩⟩⟩⟩
-- ===== end of PART A; then your names; then what follows =====
end
section
def RX0 : String := "StoneHome$Forecast"
def TX0 : u_T := fun k => match k with
  | 0 => ("StoneHome$Forecast", "table", "LStoneHome$Table;", true)
  | 1 => ("StoneHome$Forecast", "street", "LStoneHome$Street;", false)
  | 2 => ("StoneHome$Forecast", "chances", "[I", false)
  | 3 => ("StoneHome$Forecast", "later", "[I", false)
  | 4 => ("StoneHome$Forecast", "isReady", "Z", false)
  | 5 => ("StoneHome$Forecast", "readyStep", "I", false)
  | 6 => ("StoneHome$Forecast", "readySteps", "I", false)
  | 7 => ("StoneHome$Forecast", "readyRule", "I", false)
  | _ => ("StoneHome$Forecast", "readyGoal", "I", false)
def tyX0 : Nat → FieldType := fun k => match k with
  | 0 => .object "StoneHome$Table"
  | 1 => .object "StoneHome$Street"
  | 2 => .array .int
  | 3 => .array .int
  | 4 => .boolean
  | 5 => .int
  | 6 => .int
  | 7 => .int
  | _ => .int
abbrev wsX00 : List Cond := u_ws RX0 TX0 9
theorem nmX0 : ∀ a, a < 9 → ∀ b, b < 9 → a ≠ b → (TX0 a).2.1 ≠ (TX0 b).2.1 := by decide +kernel
theorem tyX0_ok : ∀ k, k < 9 → parseFieldDescriptor (TX0 k).2.2.1 = some (tyX0 k) := by decide +kernel
def RX1 : String := "StoneHome$Laws"
def TX1 : u_T := fun k => match k with
  | 0 => ("StoneHome$Laws", "steps", "[I", true)
  | 1 => ("StoneHome$Laws", "size", "I", false)
  | 2 => ("StoneHome$Laws", "starts", "[I", true)
  | 3 => ("StoneHome$Laws", "timed", "I", false)
  | 4 => ("StoneHome$Laws", "waiting", "[I", true)
  | 5 => ("StoneHome$Laws", "waitingSize", "I", false)
  | 6 => ("StoneHome$Laws", "facts", "[I", true)
  | _ => ("StoneHome$Laws", "stack", "[I", true)
def tyX1 : Nat → FieldType := fun k => match k with
  | 0 => .array .int
  | 1 => .int
  | 2 => .array .int
  | 3 => .int
  | 4 => .array .int
  | 5 => .int
  | 6 => .array .int
  | _ => .array .int
abbrev wsX10 : List Cond := u_ws RX1 TX1 8
theorem nmX1 : ∀ a, a < 8 → ∀ b, b < 8 → a ≠ b → (TX1 a).2.1 ≠ (TX1 b).2.1 := by decide +kernel
theorem tyX1_ok : ∀ k, k < 8 → parseFieldDescriptor (TX1 k).2.2.1 = some (tyX1 k) := by decide +kernel
def RX2 : String := "StoneHome$Past"
def TX2 : u_T := fun k => match k with
  | 0 => ("StoneHome$Past", "ring", "[LStoneHome$Stone;", true)
  | 1 => ("StoneHome$Past", "next", "I", false)
  | _ => ("StoneHome$Past", "size", "I", false)
def tyX2 : Nat → FieldType := fun k => match k with
  | 0 => .array (.object "StoneHome$Stone")
  | 1 => .int
  | _ => .int
abbrev wsX20 : List Cond := u_ws RX2 TX2 3
theorem nmX2 : ∀ a, a < 3 → ∀ b, b < 3 → a ≠ b → (TX2 a).2.1 ≠ (TX2 b).2.1 := by decide +kernel
theorem tyX2_ok : ∀ k, k < 3 → parseFieldDescriptor (TX2 k).2.2.1 = some (tyX2 k) := by decide +kernel
def RX3 : String := "StoneHome$Race"
def TX3 : u_T := fun k => match k with
  | 0 => ("StoneHome$Race", "table", "LStoneHome$Table;", true)
  | 1 => ("StoneHome$Race", "street", "LStoneHome$Street;", false)
  | 2 => ("StoneHome$Race", "odds", "[I", true)
  | 3 => ("StoneHome$Race", "line", "[I", true)
  | 4 => ("StoneHome$Race", "mySoonest", "[I", true)
  | _ => ("StoneHome$Race", "hisSoonest", "[I", true)
def tyX3 : Nat → FieldType := fun k => match k with
  | 0 => .object "StoneHome$Table"
  | 1 => .object "StoneHome$Street"
  | 2 => .array .int
  | 3 => .array .int
  | 4 => .array .int
  | _ => .array .int
abbrev wsX30 : List Cond := u_ws RX3 TX3 6
theorem nmX3 : ∀ a, a < 6 → ∀ b, b < 6 → a ≠ b → (TX3 a).2.1 ≠ (TX3 b).2.1 := by decide +kernel
theorem tyX3_ok : ∀ k, k < 6 → parseFieldDescriptor (TX3 k).2.2.1 = some (tyX3 k) := by decide +kernel
def RX4 : String := "StoneHome$Reader"
def TX4 : u_T := fun k => match k with
  | 0 => ("StoneHome$Reader", "tokens", "LStoneHome$Tokens;", true)
  | 1 => ("StoneHome$Reader", "street", "LStoneHome$Street;", false)
  | 2 => ("StoneHome$Reader", "taken", "I", false)
  | 3 => ("StoneHome$Reader", "kind", "I", false)
  | 4 => ("StoneHome$Reader", "from", "I", false)
  | 5 => ("StoneHome$Reader", "number", "I", false)
  | 6 => ("StoneHome$Reader", "law", "I", false)
  | 7 => ("StoneHome$Reader", "kickNames", "[J", true)
  | 8 => ("StoneHome$Reader", "fault", "I", false)
  | 9 => ("StoneHome$Reader", "faultAt", "I", false)
  | 10 => ("StoneHome$Reader", "lateFault", "I", false)
  | _ => ("StoneHome$Reader", "lateAt", "I", false)
def tyX4 : Nat → FieldType := fun k => match k with
  | 0 => .object "StoneHome$Tokens"
  | 1 => .object "StoneHome$Street"
  | 2 => .int
  | 3 => .int
  | 4 => .int
  | 5 => .int
  | 6 => .int
  | 7 => .array .long
  | 8 => .int
  | 9 => .int
  | 10 => .int
  | _ => .int
abbrev wsX40 : List Cond := u_ws RX4 TX4 12
theorem nmX4 : ∀ a, a < 12 → ∀ b, b < 12 → a ≠ b → (TX4 a).2.1 ≠ (TX4 b).2.1 := by decide +kernel
theorem tyX4_ok : ∀ k, k < 12 → parseFieldDescriptor (TX4 k).2.2.1 = some (tyX4 k) := by decide +kernel
def RX5 : String := "StoneHome$Scratches"
def TX5 : u_T := fun k => match k with
  | 0 => ("StoneHome$Scratches", "squares", "[I", true)
  | 1 => ("StoneHome$Scratches", "told", "I", false)
  | 2 => ("StoneHome$Scratches", "ways", "[I", true)
  | 3 => ("StoneHome$Scratches", "kicks", "I", false)
  | 4 => ("StoneHome$Scratches", "startSide", "I", false)
  | 5 => ("StoneHome$Scratches", "sides", "[I", true)
  | _ => ("StoneHome$Scratches", "sidesBehind", "[I", true)
def tyX5 : Nat → FieldType := fun k => match k with
  | 0 => .array .int
  | 1 => .int
  | 2 => .array .int
  | 3 => .int
  | 4 => .int
  | 5 => .array .int
  | _ => .array .int
abbrev wsX50 : List Cond := u_ws RX5 TX5 7
theorem nmX5 : ∀ a, a < 7 → ∀ b, b < 7 → a ≠ b → (TX5 a).2.1 ≠ (TX5 b).2.1 := by decide +kernel
theorem tyX5_ok : ∀ k, k < 7 → parseFieldDescriptor (TX5 k).2.2.1 = some (tyX5 k) := by decide +kernel
def RX6 : String := "StoneHome$Stone"
def TX6 : u_T := fun k => match k with
  | 0 => ("StoneHome$Stone", "square", "I", false)
  | 1 => ("StoneHome$Stone", "side", "I", false)
  | 2 => ("StoneHome$Stone", "lives", "I", false)
  | 3 => ("StoneHome$Stone", "livesLost", "I", false)
  | 4 => ("StoneHome$Stone", "done", "I", false)
  | 5 => ("StoneHome$Stone", "touches", "I", false)
  | 6 => ("StoneHome$Stone", "state", "I", false)
  | _ => ("StoneHome$Stone", "isHeld", "Z", false)
def tyX6 : Nat → FieldType := fun k => match k with
  | 0 => .int
  | 1 => .int
  | 2 => .int
  | 3 => .int
  | 4 => .int
  | 5 => .int
  | 6 => .int
  | _ => .boolean
abbrev wsX60 : List Cond := u_ws RX6 TX6 8
theorem nmX6 : ∀ a, a < 8 → ∀ b, b < 8 → a ≠ b → (TX6 a).2.1 ≠ (TX6 b).2.1 := by decide +kernel
theorem tyX6_ok : ∀ k, k < 8 → parseFieldDescriptor (TX6 k).2.2.1 = some (tyX6 k) := by decide +kernel
def RX7 : String := "StoneHome$Street"
def TX7 : u_T := fun k => match k with
  | 0 => ("StoneHome$Street", "length", "I", false)
  | 1 => ("StoneHome$Street", "rows", "I", false)
  | 2 => ("StoneHome$Street", "sorts", "[I", true)
  | 3 => ("StoneHome$Street", "faces", "I", false)
  | 4 => ("StoneHome$Street", "kicks", "I", false)
  | 5 => ("StoneHome$Street", "outcomes", "[I", true)
  | 6 => ("StoneHome$Street", "sixths", "[I", true)
  | 7 => ("StoneHome$Street", "far", "[I", true)
  | 8 => ("StoneHome$Street", "aside", "[I", true)
  | 9 => ("StoneHome$Street", "turns", "[I", true)
  | 10 => ("StoneHome$Street", "laws", "LStoneHome$Laws;", true)
  | 11 => ("StoneHome$Street", "stoneSpot", "[I", true)
  | 12 => ("StoneHome$Street", "friendSpot", "[I", true)
  | 13 => ("StoneHome$Street", "lives", "I", false)
  | 14 => ("StoneHome$Street", "takes", "I", false)
  | _ => ("StoneHome$Street", "seed", "I", false)
def tyX7 : Nat → FieldType := fun k => match k with
  | 0 => .int
  | 1 => .int
  | 2 => .array .int
  | 3 => .int
  | 4 => .int
  | 5 => .array .int
  | 6 => .array .int
  | 7 => .array .int
  | 8 => .array .int
  | 9 => .array .int
  | 10 => .object "StoneHome$Laws"
  | 11 => .array .int
  | 12 => .array .int
  | 13 => .int
  | 14 => .int
  | _ => .int
abbrev wsX70 : List Cond := u_ws RX7 TX7 16
theorem nmX7 : ∀ a, a < 16 → ∀ b, b < 16 → a ≠ b → (TX7 a).2.1 ≠ (TX7 b).2.1 := by decide +kernel
theorem tyX7_ok : ∀ k, k < 16 → parseFieldDescriptor (TX7 k).2.2.1 = some (tyX7 k) := by decide +kernel
def RX8 : String := "StoneHome$Table"
def TX8 : u_T := fun k => match k with
  | 0 => ("StoneHome$Table", "street", "LStoneHome$Street;", false)
  | 1 => ("StoneHome$Table", "rows", "[[I", true)
  | 2 => ("StoneHome$Table", "steps", "[I", true)
  | 3 => ("StoneHome$Table", "landings", "[I", false)
  | 4 => ("StoneHome$Table", "lies", "[I", true)
  | 5 => ("StoneHome$Table", "openLies", "I", false)
  | _ => ("StoneHome$Table", "allLies", "I", false)
def tyX8 : Nat → FieldType := fun k => match k with
  | 0 => .object "StoneHome$Street"
  | 1 => .array (.array .int)
  | 2 => .array .int
  | 3 => .array .int
  | 4 => .array .int
  | 5 => .int
  | _ => .int
abbrev wsX80 : List Cond := u_ws RX8 TX8 7
theorem nmX8 : ∀ a, a < 7 → ∀ b, b < 7 → a ≠ b → (TX8 a).2.1 ≠ (TX8 b).2.1 := by decide +kernel
theorem tyX8_ok : ∀ k, k < 7 → parseFieldDescriptor (TX8 k).2.2.1 = some (tyX8 k) := by decide +kernel
def RX9 : String := "StoneHome$Tokens"
def TX9 : u_T := fun k => match k with
  | 0 => ("StoneHome$Tokens", "kinds", "[I", true)
  | 1 => ("StoneHome$Tokens", "places", "[I", true)
  | 2 => ("StoneHome$Tokens", "numbers", "[I", true)
  | 3 => ("StoneHome$Tokens", "text", "[B", true)
  | 4 => ("StoneHome$Tokens", "size", "I", false)
  | 5 => ("StoneHome$Tokens", "at", "I", false)
  | 6 => ("StoneHome$Tokens", "kind", "I", false)
  | _ => ("StoneHome$Tokens", "number", "I", false)
def tyX9 : Nat → FieldType := fun k => match k with
  | 0 => .array .int
  | 1 => .array .int
  | 2 => .array .int
  | 3 => .array .byte
  | 4 => .int
  | 5 => .int
  | 6 => .int
  | _ => .int
abbrev wsX90 : List Cond := u_ws RX9 TX9 8
theorem nmX9 : ∀ a, a < 8 → ∀ b, b < 8 → a ≠ b → (TX9 a).2.1 ≠ (TX9 b).2.1 := by decide +kernel
theorem tyX9_ok : ∀ k, k < 8 → parseFieldDescriptor (TX9 k).2.2.1 = some (tyX9 k) := by decide +kernel
def RX10 : String := "StoneHome"
def TX10 : u_T := fun k => match k with
  | 0 => ("StoneHome", "tape", "[B", true)
  | 1 => ("StoneHome", "tapeSize", "I", false)
  | 2 => ("StoneHome", "faultPlace", "I", false)
  | 3 => ("StoneHome", "street", "LStoneHome$Street;", false)
  | 4 => ("StoneHome", "spare", "LStoneHome$Street;", false)
  | 5 => ("StoneHome", "reader", "LStoneHome$Reader;", true)
  | 6 => ("StoneHome", "stone", "LStoneHome$Stone;", true)
  | 7 => ("StoneHome", "past", "LStoneHome$Past;", true)
  | 8 => ("StoneHome", "slots", "[LStoneHome$Stone;", true)
  | 9 => ("StoneHome", "table", "LStoneHome$Table;", true)
  | 10 => ("StoneHome", "forecast", "LStoneHome$Forecast;", true)
  | 11 => ("StoneHome", "race", "LStoneHome$Race;", true)
  | _ => ("StoneHome", "scratches", "LStoneHome$Scratches;", true)
def tyX10 : Nat → FieldType := fun k => match k with
  | 0 => .array .byte
  | 1 => .int
  | 2 => .int
  | 3 => .object "StoneHome$Street"
  | 4 => .object "StoneHome$Street"
  | 5 => .object "StoneHome$Reader"
  | 6 => .object "StoneHome$Stone"
  | 7 => .object "StoneHome$Past"
  | 8 => .array (.object "StoneHome$Stone")
  | 9 => .object "StoneHome$Table"
  | 10 => .object "StoneHome$Forecast"
  | 11 => .object "StoneHome$Race"
  | _ => .object "StoneHome$Scratches"
abbrev wsX100 : List Cond := u_ws RX10 TX10 13
theorem nmX10 : ∀ a, a < 13 → ∀ b, b < 13 → a ≠ b → (TX10 a).2.1 ≠ (TX10 b).2.1 := by decide +kernel
theorem tyX10_ok : ∀ k, k < 13 → parseFieldDescriptor (TX10 k).2.2.1 = some (tyX10 k) := by decide +kernel
def RX11 : String := "StoneHomeModel"
def TX11 : u_T := fun k => match k with
  | 0 => ("StoneHomeModel", "thrown", "I", false)
  | 1 => ("StoneHomeModel", "tape", "[B", true)
  | 2 => ("StoneHomeModel", "taped", "I", false)
  | 3 => ("StoneHomeModel", "text", "[B", true)
  | 4 => ("StoneHomeModel", "size", "I", false)
  | 5 => ("StoneHomeModel", "tKind", "[I", true)
  | 6 => ("StoneHomeModel", "tPlace", "[I", true)
  | 7 => ("StoneHomeModel", "tValue", "[I", true)
  | 8 => ("StoneHomeModel", "tName", "[J", true)
  | 9 => ("StoneHomeModel", "keys", "[J", true)
  | 10 => ("StoneHomeModel", "tokens", "I", false)
  | 11 => ("StoneHomeModel", "t", "I", false)
  | 12 => ("StoneHomeModel", "open", "I", false)
  | 13 => ("StoneHomeModel", "fault", "I", false)
  | 14 => ("StoneHomeModel", "faultPlace", "I", false)
  | 15 => ("StoneHomeModel", "worst", "I", false)
  | 16 => ("StoneHomeModel", "worstPlace", "I", false)
  | 17 => ("StoneHomeModel", "place", "I", false)
  | 18 => ("StoneHomeModel", "live", "I", false)
  | 19 => ("StoneHomeModel", "side", "I", false)
  | 20 => ("StoneHomeModel", "names", "I", false)
  | 21 => ("StoneHomeModel", "nameOf", "[J", true)
  | 22 => ("StoneHomeModel", "rows", "[I", true)
  | 23 => ("StoneHomeModel", "wide", "[I", true)
  | 24 => ("StoneHomeModel", "squareOf", "[I", true)
  | 25 => ("StoneHomeModel", "faces", "[I", true)
  | 26 => ("StoneHomeModel", "kicks", "[I", true)
  | 27 => ("StoneHomeModel", "outcomes", "[I", true)
  | 28 => ("StoneHomeModel", "sixths", "[I", true)
  | 29 => ("StoneHomeModel", "byAlong", "[I", true)
  | 30 => ("StoneHomeModel", "byAcross", "[I", true)
  | 31 => ("StoneHomeModel", "turns", "[I", true)
  | 32 => ("StoneHomeModel", "stone", "[I", true)
  | 33 => ("StoneHomeModel", "friend", "[I", true)
  | 34 => ("StoneHomeModel", "livesTold", "[I", true)
  | 35 => ("StoneHomeModel", "takes", "[I", true)
  | 36 => ("StoneHomeModel", "seed", "[I", true)
  | 37 => ("StoneHomeModel", "lawFirst", "[I", true)
  | 38 => ("StoneHomeModel", "lawLast", "[I", true)
  | 39 => ("StoneHomeModel", "branches", "I", false)
  | 40 => ("StoneHomeModel", "hasTest", "[Z", true)
  | 41 => ("StoneHomeModel", "testFrom", "[I", true)
  | 42 => ("StoneHomeModel", "testMid", "[I", true)
  | 43 => ("StoneHomeModel", "testTo", "[I", true)
  | 44 => ("StoneHomeModel", "termTo", "[I", true)
  | 45 => ("StoneHomeModel", "codes", "I", false)
  | 46 => ("StoneHomeModel", "code", "[I", true)
  | 47 => ("StoneHomeModel", "codeInt", "[I", true)
  | 48 => ("StoneHomeModel", "waits", "[I", true)
  | 49 => ("StoneHomeModel", "waiting", "I", false)
  | 50 => ("StoneHomeModel", "variables", "[I", true)
  | 51 => ("StoneHomeModel", "pile", "[I", true)
  | 52 => ("StoneHomeModel", "isBroken", "Z", false)
  | 53 => ("StoneHomeModel", "now", "[I", true)
  | 54 => ("StoneHomeModel", "row", "[I", true)
  | 55 => ("StoneHomeModel", "isLosing", "Z", false)
  | 56 => ("StoneHomeModel", "chance", "[I", true)
  | 57 => ("StoneHomeModel", "chanceThen", "[I", true)
  | 58 => ("StoneHomeModel", "undos", "I", false)
  | 59 => ("StoneHomeModel", "history", "[I", true)
  | 60 => ("StoneHomeModel", "pair", "[I", true)
  | 61 => ("StoneHomeModel", "pairThen", "[I", true)
  | 62 => ("StoneHomeModel", "cameTo", "[I", true)
  | 63 => ("StoneHomeModel", "told", "I", false)
  | 64 => ("StoneHomeModel", "toldAlong", "[I", true)
  | 65 => ("StoneHomeModel", "toldAcross", "[I", true)
  | 66 => ("StoneHomeModel", "byFace", "[I", true)
  | 67 => ("StoneHomeModel", "byFaceThen", "[I", true)
  | 68 => ("StoneHomeModel", "isHeld", "[Z", true)
  | _ => ("StoneHomeModel", "heldRows", "[I", true)
def tyX11 : Nat → FieldType := fun k => match k with
  | 0 => .int
  | 1 => .array .byte
  | 2 => .int
  | 3 => .array .byte
  | 4 => .int
  | 5 => .array .int
  | 6 => .array .int
  | 7 => .array .int
  | 8 => .array .long
  | 9 => .array .long
  | 10 => .int
  | 11 => .int
  | 12 => .int
  | 13 => .int
  | 14 => .int
  | 15 => .int
  | 16 => .int
  | 17 => .int
  | 18 => .int
  | 19 => .int
  | 20 => .int
  | 21 => .array .long
  | 22 => .array .int
  | 23 => .array .int
  | 24 => .array .int
  | 25 => .array .int
  | 26 => .array .int
  | 27 => .array .int
  | 28 => .array .int
  | 29 => .array .int
  | 30 => .array .int
  | 31 => .array .int
  | 32 => .array .int
  | 33 => .array .int
  | 34 => .array .int
  | 35 => .array .int
  | 36 => .array .int
  | 37 => .array .int
  | 38 => .array .int
  | 39 => .int
  | 40 => .array .boolean
  | 41 => .array .int
  | 42 => .array .int
  | 43 => .array .int
  | 44 => .array .int
  | 45 => .int
  | 46 => .array .int
  | 47 => .array .int
  | 48 => .array .int
  | 49 => .int
  | 50 => .array .int
  | 51 => .array .int
  | 52 => .boolean
  | 53 => .array .int
  | 54 => .array .int
  | 55 => .boolean
  | 56 => .array .int
  | 57 => .array .int
  | 58 => .int
  | 59 => .array .int
  | 60 => .array .int
  | 61 => .array .int
  | 62 => .array .int
  | 63 => .int
  | 64 => .array .int
  | 65 => .array .int
  | 66 => .array .int
  | 67 => .array .int
  | 68 => .array .boolean
  | _ => .array .int
abbrev wsX110 : List Cond := u_ws RX11 TX11 70
theorem nmX11 : ∀ a, a < 70 → ∀ b, b < 70 → a ≠ b → (TX11 a).2.1 ≠ (TX11 b).2.1 := by decide +kernel
theorem tyX11_ok : ∀ k, k < 70 → parseFieldDescriptor (TX11 k).2.2.1 = some (tyX11 k) := by decide +kernel
def RJ11 : String := "java/lang/Character"
def RJ9 : String := "java/lang/Math"
def RJ0 : String := "java/lang/String"
def RJ1 : String := "java/lang/StringLatin1"
def RJ2 : String := "java/lang/StringUTF16"
def RJ10 : String := "java/lang/System"
def RJ7 : String := "java/util/Arrays"
def RJ3 : String := "jdk/internal/util/Preconditions"
def RL : String := "StoneHomeLaw"
abbrev am_cl : List vw_C := [(RX0, TX0, 9), (RX1, TX1, 8), (RX2, TX2, 3), (RX3, TX3, 6), (RX4, TX4, 12), (RX5, TX5, 7), (RX6, TX6, 8), (RX7, TX7, 16), (RX8, TX8, 7), (RX9, TX9, 8), (RX10, TX10, 13), (RX11, TX11, 70)]
/-- a class' name by its number -/
def am_cn : Nat → String
  | 0 => RX0 | 1 => RX1 | 2 => RX2 | 3 => RX3 | 4 => RX4 | 5 => RX5 | 6 => RX6 | 7 => RX7 | 8 => RX8 | 9 => RX9 | 10 => RX10 | 11 => RX11
  | 12 => RL | 13 => RJ7 | 14 => RJ9 | 15 => RJ0 | _ => RJ1
/-- how many fields, and of which types -/
def am_nf : Nat → Nat
  | 0 => 9 | 1 => 8 | 2 => 3 | 3 => 6 | 4 => 12 | 5 => 7 | 6 => 8 | 7 => 16 | 8 => 7 | 9 => 8 | 10 => 13 | 11 => 70 | _ => 0
def am_ft : Nat → Nat → FieldType
  | 0 => tyX0 | 1 => tyX1 | 2 => tyX2 | 3 => tyX3 | 4 => tyX4 | 5 => tyX5 | 6 => tyX6 | 7 => tyX7 | 8 => tyX8 | 9 => tyX9 | 10 => tyX10 | _ => tyX11
def am_tb : Nat → u_T
  | 0 => TX0 | 1 => TX1 | 2 => TX2 | 3 => TX3 | 4 => TX4 | 5 => TX5 | 6 => TX6 | 7 => TX7 | 8 => TX8 | 9 => TX9 | 10 => TX10 | _ => TX11
/-- an object's fields as they are born -/
def am_df (c : Nat) : List Value := (List.range (am_nf c)).map (fun k => defaultValue (am_ft c k))
theorem am_clAt : ∀ c, c < 12 → am_cl[c]? = some (am_cn c, am_tb c, am_nf c) := by
  intro c hc
  rcases (show c = 0 ∨ c = 1 ∨ c = 2 ∨ c = 3 ∨ c = 4 ∨ c = 5 ∨ c = 6 ∨ c = 7 ∨ c = 8 ∨ c = 9 ∨ c = 10 ∨ c = 11 by omega) with h | h | h | h | h | h | h | h | h | h | h | h <;> subst h <;> rfl
theorem am_nmAt : ∀ c, c < 12 → ∀ a, a < am_nf c → ∀ b, b < am_nf c → a ≠ b → (am_tb c a).2.1 ≠ (am_tb c b).2.1 := by
  intro c hc
  rcases (show c = 0 ∨ c = 1 ∨ c = 2 ∨ c = 3 ∨ c = 4 ∨ c = 5 ∨ c = 6 ∨ c = 7 ∨ c = 8 ∨ c = 9 ∨ c = 10 ∨ c = 11 by omega) with h | h | h | h | h | h | h | h | h | h | h | h <;> subst h
  · exact nmX0
  · exact nmX1
  · exact nmX2
  · exact nmX3
  · exact nmX4
  · exact nmX5
  · exact nmX6
  · exact nmX7
  · exact nmX8
  · exact nmX9
  · exact nmX10
  · exact nmX11
theorem am_tyAt : ∀ c, c < 12 → ∀ k, k < am_nf c → parseFieldDescriptor (am_tb c k).2.2.1 = some (am_ft c k) := by
  intro c hc
  rcases (show c = 0 ∨ c = 1 ∨ c = 2 ∨ c = 3 ∨ c = 4 ∨ c = 5 ∨ c = 6 ∨ c = 7 ∨ c = 8 ∨ c = 9 ∨ c = 10 ∨ c = 11 by omega) with h | h | h | h | h | h | h | h | h | h | h | h <;> subst h
  · exact tyX0_ok
  · exact tyX1_ok
  · exact tyX2_ok
  · exact tyX3_ok
  · exact tyX4_ok
  · exact tyX5_ok
  · exact tyX6_ok
  · exact tyX7_ok
  · exact tyX8_ok
  · exact tyX9_ok
  · exact tyX10_ok
  · exact tyX11_ok
end
section
/-! ===== THE ABSTRACT MACHINE: the instructions that the class, the reference and the law use, over a heap by places; am_run is a function; part 04 shows that the JVM does what it says ===== -/
/-- a cell: an object (class, fields), or an array (0 int, 1 byte, 2 boolean, 3 long, 4 stones, 5 int rows; length; contents); a reference is a place -/
abbrev am_C : Type := (Nat × List Value) ⊕ (Nat × Nat × ((Nat → Int32) ⊕ (Nat → Int64) ⊕ (Nat → Option Nat)))
/-- a heap: how many places are taken, how many slots, what lies there. Places 0 to 7: the script, SIXES, three Strings, their bytes: they are never written -/
abbrev am_H : Type := Nat × Nat × (Nat → am_C)
/-- an instruction, the pc behind it, two numbers that it needs -/
abbrev am_I : Type := Instr × Nat × Nat × Nat
/-- a method: its class, its locals, what it returns (0 nothing, 1 int, 2 boolean, 3 char, 4 long, 5 byte), its instructions -/
abbrev am_M : Type := Nat × Nat × Nat × List (Nat × am_I)
abbrev am_S : Type := Nat × List (Option Value) × List Value × am_H
abbrev am_O : Type := Option (am_S ⊕ (Option Value) ⊕ (Nat × List Value × am_S))
def am_at : List (Nat × am_I) → Nat → Option am_I
  | [], _ => none
  | q :: t, pc => bif Nat.beq q.1 pc then some q.2 else am_at t pc
def am_get : List (Option Value) → Nat → Option Value
  | [], _ => none
  | v :: _, 0 => v
  | _ :: t, n + 1 => am_get t n
def am_set : List (Option Value) → Nat → Option Value → List (Option Value)
  | [], _, _ => []
  | _ :: t, 0, v => v :: t
  | w :: t, n + 1, v => w :: am_set t n v
def am_isL : Option Value → Bool
  | some (.long _) => true
  | _ => false
def am_cut (ls : List (Option Value)) : Nat → List (Option Value)
  | 0 => ls
  | i + 1 => bif am_isL (am_get ls i) then am_set ls i none else ls
def am_st1 (ls : List (Option Value)) (i : Nat) (v : Value) : List (Option Value) := am_set (am_cut ls i) i (some v)
def am_st2 (ls : List (Option Value)) (i : Nat) (v : Value) : List (Option Value) := am_set (am_set (am_cut ls i) i (some v)) (i + 1) none
def am_ent0 : List Value → List (Option Value)
  | [] => []
  | .long x :: t => some (.long x) :: none :: am_ent0 t
  | v :: t => some v :: am_ent0 t
def am_pad : Nat → List (Option Value) → List (Option Value)
  | 0, _ => []
  | n + 1, [] => none :: am_pad n []
  | n + 1, v :: t => v :: am_pad n t
def am_ent (vs : List Value) (n : Nat) : List (Option Value) := am_pad n (am_ent0 vs)
def am_take : Nat → List Value → List Value → Option (List Value × List Value)
  | 0, acc, st => some (acc, st)
  | _ + 1, _, [] => none
  | n + 1, acc, v :: st => am_take n (v :: acc) st
def am_cat : List Value → Nat
  | [] => 0
  | .long _ :: t => 2 + am_cat t
  | .double _ :: t => 2 + am_cat t
  | _ :: t => 1 + am_cat t
def am_fit : Nat → Value → Bool
  | 0, .int _ => true
  | 1, .int x => x == 0 || x == 1
  | 2, .ref _ => true
  | 2, .null => true
  | _, _ => false
def am_cnd : ClassFile.Cond → Int32 → Int32 → Bool
  | .eq, x, y => decide (x = y)
  | .ne, x, y => decide (¬ x = y)
  | .lt, x, y => decide (x < y)
  | .ge, x, y => decide (y ≤ x)
  | .gt, x, y => decide (y < x)
  | .le, x, y => decide (x ≤ y)
def am_rt : Nat → Int32 → Bool
  | 1, _ => true
  | 2, x => x == 0 || x == 1
  | 3, x => decide (vp_nar .char x = x)
  | 5, x => decide (vp_nar .byte x = x)
  | _, _ => false
def am_ii (st : List Value) (k : Int32 → Int32 → List Value → am_O) : am_O := match st with
  | .int y :: .int x :: r => k x y r
  | _ => none
def am_i1 (st : List Value) (k : Int32 → List Value → am_O) : am_O := match st with
  | .int x :: r => k x r
  | _ => none
def am_ll (st : List Value) (k : Int64 → Int64 → List Value → am_O) : am_O := match st with
  | .long y :: .long x :: r => k x y r
  | _ => none
def am_l1 (st : List Value) (k : Int64 → List Value → am_O) : am_O := match st with
  | .long x :: r => k x r
  | _ => none
def am_r1 (st : List Value) (k : Nat → List Value → am_O) : am_O := match st with
  | .ref p :: r => k p r
  | _ => none
def am_ri (st : List Value) (k : Nat → Int32 → List Value → am_O) : am_O := match st with
  | .int j :: .ref p :: r => k p j r
  | _ => none
def am_cA (c : am_C) (ty : Nat) (k : Nat → (Nat → Int32) → am_O) : am_O := match c with
  | .inr (t, n, .inl f) => bif Nat.beq t ty then k n f else none
  | _ => none
def am_cL (c : am_C) (k : Nat → (Nat → Int64) → am_O) : am_O := match c with
  | .inr (t, n, .inr (.inl f)) => bif Nat.beq t 3 then k n f else none
  | _ => none
def am_cQ (c : am_C) (k : Nat → Nat → (Nat → Option Nat) → am_O) : am_O := match c with
  | .inr (t, n, .inr (.inr f)) => k t n f
  | _ => none
def am_cO (c : am_C) (k : Nat → List Value → am_O) : am_O := match c with
  | .inl (ci, fs) => k ci fs
  | _ => none
def am_ix (j : Int32) (n : Nat) (o : am_O) : am_O := if j < 0 ∨ n ≤ j.toNatClampNeg then none else o
def am_up (h : am_H) (p : Nat) (c : am_C) : am_H := (h.1, h.2.1, va_up h.2.2 p c)
def am_nw (h : am_H) (k : Nat) (c : am_C) : am_H := (h.1 + 1, h.2.1 + k, va_up h.2.2 h.1 c)
def am_z (ty n : Nat) : am_C := bif Nat.beq ty 3 then .inr (3, n, .inr (.inl (fun _ => 0))) else bif Nat.blt ty 3 then .inr (ty, n, .inl (fun _ => 0)) else .inr (ty, n, .inr (.inr (fun _ => none)))
def am_aty : ArrayType → Nat
  | .int => 0
  | .byte => 1
  | .boolean => 2
  | .long => 3
  | _ => 9
/-- the object q may lie in an array of the kind t -/
def am_elt (t : Nat) (c : am_C) : Bool := match t, c with
  | 4, .inl (6, _) => true
  | 5, .inr (0, _, .inl _) => true
  | _, _ => false
def am_do (P : Nat → am_M) (d L : Nat) (ret : Nat) (i : Instr) (pc nx a b : Nat) (ls : List (Option Value)) (st : List Value) (h : am_H) : am_O :=
  let go : List Value → am_O := fun st' => some (.inl (nx, ls, st', h))
  match i with
  | .aload _ | .aload_n _ => match am_get ls a with
    | some (.ref p) => go (.ref p :: st)
    | _ => none
  | .iload _ | .iload_n _ => match am_get ls a with
    | some (.int x) => go (.int x :: st)
    | _ => none
  | .lload _ | .lload_n _ => match am_get ls a with
    | some (.long x) => go (.long x :: st)
    | _ => none
  | .astore _ | .astore_n _ => am_r1 st fun p r => some (.inl (nx, am_st1 ls a (.ref p), r, h))
  | .istore _ | .istore_n _ => am_i1 st fun x r => some (.inl (nx, am_st1 ls a (.int x), r, h))
  | .lstore _ | .lstore_n _ => am_l1 st fun x r => some (.inl (nx, am_st2 ls a (.long x), r, h))
  | .iinc _ n => match am_get ls a with
    | some (.int x) => some (.inl (nx, am_st1 ls a (.int (x + Int32.ofInt n)), st, h))
    | _ => none
  | .iconst n => go (.int (Int32.ofInt n) :: st)
  | .bipush n => go (.int ((Int8.ofInt n).toInt32) :: st)
  | .sipush n => go (.int ((Int16.ofInt n).toInt32) :: st)
  | .ldc _ => bif Nat.beq a 0 then go (.int (Int32.ofNat b) :: st) else go (.ref b :: st)
  | .ldc2_w _ => go (.long (Int64.ofNat b) :: st)
  | .lconst n => go (.long (Int64.ofNat n) :: st)
  | .iadd => am_ii st fun x y r => go (.int (x + y) :: r)
  | .isub => am_ii st fun x y r => go (.int (x - y) :: r)
  | .imul => am_ii st fun x y r => go (.int (x * y) :: r)
  | .idiv => am_ii st fun x y r => if y = 0 then none else go (.int (x / y) :: r)
  | .irem => am_ii st fun x y r => if y = 0 then none else go (.int (x - x / y * y) :: r)
  | .iand => am_ii st fun x y r => go (.int (x &&& y) :: r)
  | .ior => am_ii st fun x y r => go (.int (x ||| y) :: r)
  | .ixor => am_ii st fun x y r => go (.int (x ^^^ y) :: r)
  | .ishl => am_ii st fun x y r => go (.int (x <<< (y &&& 31)) :: r)
  | .ishr => am_ii st fun x y r => go (.int (x >>> (y &&& 31)) :: r)
  | .iushr => am_ii st fun x y r => go (.int ((x.toUInt32 >>> (y.toUInt32 &&& Int32.toUInt32 31)).toInt32) :: r)
  | .ineg => am_i1 st fun x r => go (.int (-x) :: r)
  | .ladd => am_ll st fun x y r => go (.long (x + y) :: r)
  | .lmul => am_ll st fun x y r => go (.long (x * y) :: r)
  | .ldiv => am_ll st fun x y r => if y = 0 then none else go (.long (x / y) :: r)
  | .lrem => am_ll st fun x y r => if y = 0 then none else go (.long (x - x / y * y) :: r)
  | .lor => am_ll st fun x y r => go (.long (x ||| y) :: r)
  | .lcmp => am_ll st fun x y r => go (.int (lg_cmp x y) :: r)
  | .lshl => am_i1 st fun y r => am_l1 r fun x r => go (.long (x <<< (y.toInt64 &&& 63)) :: r)
  | .i2l => am_i1 st fun x r => go (.long x.toInt64 :: r)
  | .l2i => am_l1 st fun x r => go (.int x.toInt32 :: r)
  | .i2b => am_i1 st fun x r => go (.int x.toInt8.toInt32 :: r)
  | .i2c => am_i1 st fun x r => go (.int (x.toUInt32 % 65536).toInt32 :: r)
  | .dup => match st with
    | .int x :: r => go (.int x :: .int x :: r)
    | .ref x :: r => go (.ref x :: .ref x :: r)
    | _ => none
  | .dup2 => am_ri st fun p j r => go (.int j :: .ref p :: .int j :: .ref p :: r)
  | .pop => am_i1 st fun _ r => go r
  | .goto _ => some (.inl (a, ls, st, h))
  | .ifCond c _ => am_i1 st fun x r => some (.inl (bif am_cnd c x 0 then a else nx, ls, r, h))
  | .if_icmp c _ => am_ii st fun x y r => some (.inl (bif am_cnd c x y then a else nx, ls, r, h))
  | .ifnonnull _ => match st with
    | .ref _ :: r => some (.inl (a, ls, r, h))
    | .null :: r => some (.inl (nx, ls, r, h))
    | _ => none
  | .tableswitch _ lo hi offs => am_i1 st fun x r => if x.toInt < lo ∨ hi < x.toInt then some (.inl (a, ls, r, h)) else
      match offs[(x.toInt - lo).toNat]? with
      | some off => if (pc : Int) + off < 0 then none else some (.inl (((pc : Int) + off).toNat, ls, r, h))
      | none => none
  | .iaload => am_ri st fun p j r => am_cA (h.2.2 p) 0 fun n f => am_ix j n (go (.int (f j.toNatClampNeg) :: r))
  | .baload => am_ri st fun p j r => am_cA (h.2.2 p) a fun n f => am_ix j n (go (.int (f j.toNatClampNeg) :: r))
  | .laload => am_ri st fun p j r => am_cL (h.2.2 p) fun n f => am_ix j n (go (.long (f j.toNatClampNeg) :: r))
  | .aaload => am_ri st fun p j r => am_cQ (h.2.2 p) fun t n f => bif Nat.beq t a then am_ix j n (go (va_rf (f j.toNatClampNeg) :: r)) else none
  | .iastore => am_i1 st fun x r => am_ri r fun p j r => am_cA (h.2.2 p) 0 fun n f => am_ix j n (if p < 8 then none else some (.inl (nx, ls, r, am_up h p (.inr (0, n, .inl (upd f j.toNatClampNeg x))))))
  | .bastore => am_i1 st fun x r => am_ri r fun p j r => am_cA (h.2.2 p) a fun n f => am_ix j n (if p < 8 then none else some (.inl (nx, ls, r, am_up h p (.inr (a, n, .inl (upd f j.toNatClampNeg (vp_nar (bif Nat.beq a 1 then .byte else .boolean) x)))))))
  | .lastore => am_l1 st fun x r => am_ri r fun p j r => am_cL (h.2.2 p) fun n f => am_ix j n (if p < 8 then none else some (.inl (nx, ls, r, am_up h p (.inr (3, n, .inr (.inl (vp_updL f j.toNatClampNeg x)))))))
  | .aastore => am_r1 st fun q r => am_ri r fun p j r => am_cQ (h.2.2 p) fun t n f => am_ix j n (if p < 8 ∨ q < 8 ∨ h.1 ≤ q then none else bif am_elt t (h.2.2 q) then some (.inl (nx, ls, r, am_up h p (.inr (t, n, .inr (.inr (va_up f j.toNatClampNeg (some q))))))) else none)
  | .arraylength => am_r1 st fun p r => match h.2.2 p with
    | .inr (_, n, _) => go (.int (Int32.ofNat n) :: r)
    | _ => none
  | .newarray ty => am_i1 st fun x r => if x < 0 ∨ 1000000 < x.toNatClampNeg then none else some (.inl (nx, ls, .ref h.1 :: r, am_nw h x.toNatClampNeg (am_z (am_aty ty) x.toNatClampNeg)))
  | .anewarray _ => am_i1 st fun x r => if x < 0 ∨ 1000000 < x.toNatClampNeg then none else some (.inl (nx, ls, .ref h.1 :: r, am_nw h x.toNatClampNeg (.inr (a, x.toNatClampNeg, .inr (.inr (fun _ => none))))))
  | .new _ => some (.inl (nx, ls, .ref h.1 :: st, am_nw h (am_nf a) (.inl (a, am_df a))))
  | .getfield _ => am_r1 st fun p r => am_cO (h.2.2 p) fun ci fs => bif Nat.beq ci a then (match fs[b]? with
    | some v => go (v :: r)
    | none => none) else none
  | .putfield _ => match st with
    | v :: .ref p :: r => am_cO (h.2.2 p) fun ci fs => bif Nat.beq ci a && Nat.blt (b / 8) fs.length && am_fit (b % 4) v && Nat.ble 8 p then some (.inl (nx, ls, r, am_up h p (.inl (ci, fs.set (b / 8) v)))) else none
    | _ => none
  | .getstatic _ => bif Nat.beq a 0 then go (.ref 1 :: st) else go (.int 1 :: st)
  | .invokevirtual _ => match am_take (b + 1) [] st with
    | some (.ref p :: vs, r) => am_cO (h.2.2 p) fun ci _ => bif Nat.beq ci (P a).1 && Nat.ble (am_cat r) 8 then some (.inr (.inr (a, .ref p :: vs, nx, ls, r, h))) else none
    | _ => none
  | .invokespecial _ => bif Nat.beq a 999 then am_r1 st fun _ r => (bif Nat.ble 1 d && Nat.ble (am_cat r + 12) L then go r else none) else match am_take (b + 1) [] st with
    | some (.ref p :: vs, r) => bif Nat.ble (am_cat r) 8 then some (.inr (.inr (a, .ref p :: vs, nx, ls, r, h))) else none
    | _ => none
  | .invokestatic _ => bif Nat.beq a 998 then (match st with
      | .int n :: .int dp :: .ref q :: .int sp :: .ref p :: r => am_cA (h.2.2 p) 0 fun n0 f => am_cA (h.2.2 q) 0 fun n1 g =>
        if n < 0 ∨ dp < 0 ∨ sp < 0 ∨ n0 < sp.toNatClampNeg + n.toNatClampNeg ∨ n1 < dp.toNatClampNeg + n.toNatClampNeg ∨ p < 8 ∨ q < 8 ∨ d < 1 ∨ L < am_cat r + 40 then none
        else some (.inl (nx, ls, r, am_up h q (.inr (0, n1, .inl (va_cpy f g sp.toNatClampNeg dp.toNatClampNeg n.toNatClampNeg)))))
      | _ => none) else match am_take b [] st with
    | some (vs, r) => bif Nat.ble (am_cat r) 8 then some (.inr (.inr (a, vs, nx, ls, r, h))) else none
    | _ => none
  | .ireturn => match st with
    | [.int x] => bif am_rt ret x then some (.inr (.inl (some (.int x)))) else none
    | _ => none
  | .lreturn => match st with
    | [.long x] => bif Nat.beq ret 4 then some (.inr (.inl (some (.long x)))) else none
    | _ => none
  | .return_ => match st with
    | [] => bif Nat.beq ret 0 then some (.inr (.inl none)) else none
    | _ => none
  | _ => none
def am_step (P : Nat → am_M) (d L M : Nat) (c : am_S) : am_O := match am_at (P M).2.2.2 c.1 with
  | some (i, nx, a, b) => am_do P d L (P M).2.2.1 i c.1 nx a b c.2.1 c.2.2.1 c.2.2.2
  | none => none
/-- what a call costs of the locals -/
def am_lc (P : Nat → am_M) (y : Nat) : Nat := 8 + ((P y).2.1 + 11)
def am_run (P : Nat → am_M) : Nat → Nat → Nat → Nat → am_S → Option (Option Value × am_H)
  | 0, _, _, _, _ => none
  | n + 1, d, L, M, c => match am_step P d L M c with
    | none => none
    | some (.inl c') => am_run P n d L M c'
    | some (.inr (.inl r)) => some (r, c.2.2.2)
    | some (.inr (.inr (y, vs, c'))) => match d with
      | 0 => none
      | d' + 1 => if L < am_lc P y then none else
        match am_run P n d' (L - am_lc P y) y (0, am_ent vs (P y).2.1, [], c'.2.2.2) with
        | none => none
        | some (r, h) => am_run P n (d' + 1) L M (c'.1, c'.2.1, r.toList ++ c'.2.2.1, h)
theorem am_run_mono (P : Nat → am_M) : ∀ (n d L M : Nat) (c : am_S) (x : Option Value × am_H), am_run P n d L M c = some x → am_run P (n + 1) d L M c = some x := by
  intro n
  induction n with
  | zero => intro d L M c x h; simp [am_run] at h
  | succ n ih =>
    intro d L M c x h
    rw [am_run] at h ⊢
    cases hs : am_step P d L M c with
    | none => rw [hs] at h; simp at h
    | some o =>
      rw [hs] at h
      match o, h with
      | .inl c', h => exact ih _ _ _ _ _ h
      | .inr (.inl r), h => exact h
      | .inr (.inr (y, vs, c')), h =>
        cases d with
        | zero => simp at h
        | succ d' =>
          dsimp only at h ⊢
          split at h
          · cases h
          · rename_i hL
            rw [if_neg hL]
            cases hr : am_run P n d' (L - am_lc P y) y (0, am_ent vs (P y).2.1, [], c'.2.2.2) with
            | none => rw [hr] at h; simp at h
            | some q =>
              obtain ⟨r, h1⟩ := q
              rw [hr] at h
              rw [ih _ _ _ _ _ hr]
              exact ih _ _ _ _ _ h
theorem am_run_le (P : Nat → am_M) {n k d L M : Nat} {c : am_S} {x : Option Value × am_H} (h : am_run P n d L M c = some x) (hk : n ≤ k) : am_run P k d L M c = some x := by
  obtain ⟨j, rfl⟩ := Nat.le.dest hk
  induction j with
  | zero => exact h
  | succ j ih => exact am_run_mono P _ _ _ _ _ _ (ih (Nat.le_add_right _ _))
/-- from this frame on the method returns, and Q holds of its answer and of the heap -/
def AW (P : Nat → am_M) (d L M pc : Nat) (ls : List (Option Value)) (st : List Value) (h : am_H) (Q : Option Value → am_H → Prop) : Prop := ∃ n r h', am_run P n d L M (pc, ls, st, h) = some (r, h') ∧ Q r h'
/-- a call of method y returns, and Q holds of its answer and of the heap -/
def AC (P : Nat → am_M) (d L y : Nat) (vs : List Value) (h : am_H) (Q : Option Value → am_H → Prop) : Prop := AW P d L y 0 (am_ent vs (P y).2.1) [] h Q
section AMR
variable {P : Nat → am_M} {d L M pc : Nat} {ls : List (Option Value)} {st : List Value} {h : am_H} {Q : Option Value → am_H → Prop}
theorem AW.step {pc' : Nat} {ls' : List (Option Value)} {st' : List Value} {h' : am_H} (hs : am_step P d L M (pc, ls, st, h) = some (.inl (pc', ls', st', h'))) (k : AW P d L M pc' ls' st' h' Q) : AW P d L M pc ls st h Q := by
  obtain ⟨n, r, h1, e, q⟩ := k
  refine ⟨n + 1, r, h1, ?_, q⟩
  rw [am_run, hs]
  exact e
theorem AW.ret {r : Option Value} (hs : am_step P d L M (pc, ls, st, h) = some (.inr (.inl r))) (q : Q r h) : AW P d L M pc ls st h Q := by
  refine ⟨1, r, h, ?_, q⟩
  rw [am_run, hs]
theorem AW.call {y pc' : Nat} {vs : List Value} {ls' : List (Option Value)} {st' : List Value} {h' : am_H} {Q1 : Option Value → am_H → Prop} (hs : am_step P (d + 1) L M (pc, ls, st, h) = some (.inr (.inr (y, vs, pc', ls', st', h')))) (hL : am_lc P y ≤ L) (hc : AC P d (L - am_lc P y) y vs h' Q1)
    (k : ∀ r h1, Q1 r h1 → AW P (d + 1) L M pc' ls' (r.toList ++ st') h1 Q) : AW P (d + 1) L M pc ls st h Q := by
  obtain ⟨n1, r1, h1, e1, q1⟩ := hc
  obtain ⟨n2, r2, h2, e2, q2⟩ := k r1 h1 q1
  refine ⟨max n1 n2 + 1, r2, h2, ?_, q2⟩
  rw [am_run, hs]
  dsimp only
  rw [if_neg (Nat.not_lt.mpr hL), am_run_le P e1 (Nat.le_max_left n1 n2)]
  exact am_run_le P e2 (Nat.le_max_right n1 n2)
theorem AW.mono {Q' : Option Value → am_H → Prop} (k : AW P d L M pc ls st h Q) (hq : ∀ r h1, Q r h1 → Q' r h1) : AW P d L M pc ls st h Q' := by
  obtain ⟨n, r, h1, e, q⟩ := k
  exact ⟨n, r, h1, e, hq r h1 q⟩
theorem AC.mono {vs : List Value} {y : Nat} {Q' : Option Value → am_H → Prop} (k : AC P d L y vs h Q) (hq : ∀ r h1, Q r h1 → Q' r h1) : AC P d L y vs h Q' := AW.mono k hq
end AMR
end
