section
-- ===== PART A: goes FIRST, ahead of the names: the tables' words, and 'selects' of the private methods out of them =====
/-- a private method of a class that the tables say can be made, by its rows of tables_1 -/
def lw_okq (q : MethodName × Nat) : Prop := (q.1.cls ≠ "java/lang/invoke/MethodHandle" ∧ q.1.cls ≠ "java/lang/invoke/VarHandle") ∧ Cond.instantiable q.1.cls q.2 ∈ tables_1 ∧ Cond.privateMethod q.1 ∈ tables_1 ∧ Cond.instanceMethod q.1 ∈ tables_1
theorem lw_p0 : lw_okq (⟨"StoneHome", "begin", "()V"⟩, 13) := ⟨⟨by decide +kernel, by decide +kernel⟩, List.mem_of_getElem? (i := 22) (by decide +kernel), List.mem_of_getElem? (i := 425) (by decide +kernel), List.mem_of_getElem? (i := 426) (by decide +kernel)⟩
theorem lw_p1 : lw_okq (⟨"StoneHome$Table", "listLies", "(Z)V"⟩, 7) := ⟨⟨by decide +kernel, by decide +kernel⟩, List.mem_of_getElem? (i := 286) (by decide +kernel), List.mem_of_getElem? (i := 460) (by decide +kernel), List.mem_of_getElem? (i := 461) (by decide +kernel)⟩
theorem lw_p2 : lw_okq (⟨"StoneHome", "putBytes", "(I)V"⟩, 13) := ⟨⟨by decide +kernel, by decide +kernel⟩, List.mem_of_getElem? (i := 22) (by decide +kernel), List.mem_of_getElem? (i := 525) (by decide +kernel), List.mem_of_getElem? (i := 526) (by decide +kernel)⟩
theorem lw_p3 : lw_okq (⟨"StoneHome$Tokens", "skipBlanks", "()V"⟩, 8) := ⟨⟨by decide +kernel, by decide +kernel⟩, List.mem_of_getElem? (i := 155) (by decide +kernel), List.mem_of_getElem? (i := 552) (by decide +kernel), List.mem_of_getElem? (i := 553) (by decide +kernel)⟩
theorem lw_p4 : lw_okq (⟨"StoneHome$Tokens", "scanOne", "()V"⟩, 8) := ⟨⟨by decide +kernel, by decide +kernel⟩, List.mem_of_getElem? (i := 155) (by decide +kernel), List.mem_of_getElem? (i := 559) (by decide +kernel), List.mem_of_getElem? (i := 560) (by decide +kernel)⟩
theorem lw_p5 : lw_okq (⟨"StoneHome$Tokens", "scanWord", "()V"⟩, 8) := ⟨⟨by decide +kernel, by decide +kernel⟩, List.mem_of_getElem? (i := 155) (by decide +kernel), List.mem_of_getElem? (i := 566) (by decide +kernel), List.mem_of_getElem? (i := 567) (by decide +kernel)⟩
theorem lw_p6 : lw_okq (⟨"StoneHome$Tokens", "wordNumber", "(I)I"⟩, 8) := ⟨⟨by decide +kernel, by decide +kernel⟩, List.mem_of_getElem? (i := 155) (by decide +kernel), List.mem_of_getElem? (i := 570) (by decide +kernel), List.mem_of_getElem? (i := 571) (by decide +kernel)⟩
theorem lw_p7 : lw_okq (⟨"StoneHome$Tokens", "scanInt", "()V"⟩, 8) := ⟨⟨by decide +kernel, by decide +kernel⟩, List.mem_of_getElem? (i := 155) (by decide +kernel), List.mem_of_getElem? (i := 626) (by decide +kernel), List.mem_of_getElem? (i := 627) (by decide +kernel)⟩
theorem lw_p8 : lw_okq (⟨"StoneHome$Reader", "take", "()V"⟩, 12) := ⟨⟨by decide +kernel, by decide +kernel⟩, List.mem_of_getElem? (i := 149) (by decide +kernel), List.mem_of_getElem? (i := 686) (by decide +kernel), List.mem_of_getElem? (i := 687) (by decide +kernel)⟩
theorem lw_p9 : lw_okq (⟨"StoneHome$Reader", "takeTell", "()V"⟩, 12) := ⟨⟨by decide +kernel, by decide +kernel⟩, List.mem_of_getElem? (i := 149) (by decide +kernel), List.mem_of_getElem? (i := 690) (by decide +kernel), List.mem_of_getElem? (i := 691) (by decide +kernel)⟩
theorem lw_p10 : lw_okq (⟨"StoneHome$Reader", "takeRow", "()V"⟩, 12) := ⟨⟨by decide +kernel, by decide +kernel⟩, List.mem_of_getElem? (i := 149) (by decide +kernel), List.mem_of_getElem? (i := 694) (by decide +kernel), List.mem_of_getElem? (i := 695) (by decide +kernel)⟩
theorem lw_p11 : lw_okq (⟨"StoneHome$Reader", "fail", "(I)V"⟩, 12) := ⟨⟨by decide +kernel, by decide +kernel⟩, List.mem_of_getElem? (i := 149) (by decide +kernel), List.mem_of_getElem? (i := 698) (by decide +kernel), List.mem_of_getElem? (i := 699) (by decide +kernel)⟩
theorem lw_p12 : lw_okq (⟨"StoneHome$Reader", "layRow", "()Z"⟩, 12) := ⟨⟨by decide +kernel, by decide +kernel⟩, List.mem_of_getElem? (i := 149) (by decide +kernel), List.mem_of_getElem? (i := 702) (by decide +kernel), List.mem_of_getElem? (i := 703) (by decide +kernel)⟩
theorem lw_p13 : lw_okq (⟨"StoneHome$Reader", "failLate", "(II)V"⟩, 12) := ⟨⟨by decide +kernel, by decide +kernel⟩, List.mem_of_getElem? (i := 149) (by decide +kernel), List.mem_of_getElem? (i := 716) (by decide +kernel), List.mem_of_getElem? (i := 717) (by decide +kernel)⟩
theorem lw_p14 : lw_okq (⟨"StoneHome$Reader", "takeKick", "()V"⟩, 12) := ⟨⟨by decide +kernel, by decide +kernel⟩, List.mem_of_getElem? (i := 149) (by decide +kernel), List.mem_of_getElem? (i := 720) (by decide +kernel), List.mem_of_getElem? (i := 721) (by decide +kernel)⟩
theorem lw_p15 : lw_okq (⟨"StoneHome$Reader", "isToldKick", "(J)Z"⟩, 12) := ⟨⟨by decide +kernel, by decide +kernel⟩, List.mem_of_getElem? (i := 149) (by decide +kernel), List.mem_of_getElem? (i := 729) (by decide +kernel), List.mem_of_getElem? (i := 730) (by decide +kernel)⟩
def lw_privs_1 : List (MethodName × Nat) := [(⟨"StoneHome", "begin", "()V"⟩, 13), (⟨"StoneHome$Table", "listLies", "(Z)V"⟩, 7), (⟨"StoneHome", "putBytes", "(I)V"⟩, 13), (⟨"StoneHome$Tokens", "skipBlanks", "()V"⟩, 8), (⟨"StoneHome$Tokens", "scanOne", "()V"⟩, 8), (⟨"StoneHome$Tokens", "scanWord", "()V"⟩, 8), (⟨"StoneHome$Tokens", "wordNumber", "(I)I"⟩, 8), (⟨"StoneHome$Tokens", "scanInt", "()V"⟩, 8), (⟨"StoneHome$Reader", "take", "()V"⟩, 12), (⟨"StoneHome$Reader", "takeTell", "()V"⟩, 12), (⟨"StoneHome$Reader", "takeRow", "()V"⟩, 12), (⟨"StoneHome$Reader", "fail", "(I)V"⟩, 12), (⟨"StoneHome$Reader", "layRow", "()Z"⟩, 12), (⟨"StoneHome$Reader", "failLate", "(II)V"⟩, 12), (⟨"StoneHome$Reader", "takeKick", "()V"⟩, 12), (⟨"StoneHome$Reader", "isToldKick", "(J)Z"⟩, 12)]
theorem lw_r1 : ∀ q ∈ lw_privs_1, lw_okq q := List.forall_mem_cons.mpr ⟨lw_p0, List.forall_mem_cons.mpr ⟨lw_p1, List.forall_mem_cons.mpr ⟨lw_p2, List.forall_mem_cons.mpr ⟨lw_p3, List.forall_mem_cons.mpr ⟨lw_p4, List.forall_mem_cons.mpr ⟨lw_p5, List.forall_mem_cons.mpr ⟨lw_p6, List.forall_mem_cons.mpr ⟨lw_p7, List.forall_mem_cons.mpr ⟨lw_p8, List.forall_mem_cons.mpr ⟨lw_p9, List.forall_mem_cons.mpr ⟨lw_p10, List.forall_mem_cons.mpr ⟨lw_p11, List.forall_mem_cons.mpr ⟨lw_p12, List.forall_mem_cons.mpr ⟨lw_p13, List.forall_mem_cons.mpr ⟨lw_p14, List.forall_mem_cons.mpr ⟨lw_p15, fun _ h => absurd h List.not_mem_nil⟩⟩⟩⟩⟩⟩⟩⟩⟩⟩⟩⟩⟩⟩⟩⟩
theorem lw_p16 : lw_okq (⟨"StoneHome$Reader", "takeOutcomes", "(I)I"⟩, 12) := ⟨⟨by decide +kernel, by decide +kernel⟩, List.mem_of_getElem? (i := 149) (by decide +kernel), List.mem_of_getElem? (i := 733) (by decide +kernel), List.mem_of_getElem? (i := 734) (by decide +kernel)⟩
theorem lw_p17 : lw_okq (⟨"StoneHome$Reader", "takeOutcome", "(I)I"⟩, 12) := ⟨⟨by decide +kernel, by decide +kernel⟩, List.mem_of_getElem? (i := 149) (by decide +kernel), List.mem_of_getElem? (i := 737) (by decide +kernel), List.mem_of_getElem? (i := 738) (by decide +kernel)⟩
theorem lw_p18 : lw_okq (⟨"StoneHome$Reader", "takeInt", "(II)I"⟩, 12) := ⟨⟨by decide +kernel, by decide +kernel⟩, List.mem_of_getElem? (i := 149) (by decide +kernel), List.mem_of_getElem? (i := 741) (by decide +kernel), List.mem_of_getElem? (i := 742) (by decide +kernel)⟩
theorem lw_p19 : lw_okq (⟨"StoneHome$Reader", "takeWord", "(I)V"⟩, 12) := ⟨⟨by decide +kernel, by decide +kernel⟩, List.mem_of_getElem? (i := 149) (by decide +kernel), List.mem_of_getElem? (i := 745) (by decide +kernel), List.mem_of_getElem? (i := 746) (by decide +kernel)⟩
theorem lw_p20 : lw_okq (⟨"StoneHome$Reader", "isWord", "(I)Z"⟩, 12) := ⟨⟨by decide +kernel, by decide +kernel⟩, List.mem_of_getElem? (i := 149) (by decide +kernel), List.mem_of_getElem? (i := 749) (by decide +kernel), List.mem_of_getElem? (i := 750) (by decide +kernel)⟩
theorem lw_p21 : lw_okq (⟨"StoneHome$Reader", "isSign", "(C)Z"⟩, 12) := ⟨⟨by decide +kernel, by decide +kernel⟩, List.mem_of_getElem? (i := 149) (by decide +kernel), List.mem_of_getElem? (i := 753) (by decide +kernel), List.mem_of_getElem? (i := 754) (by decide +kernel)⟩
theorem lw_p22 : lw_okq (⟨"StoneHome$Reader", "takeLaw", "(I)V"⟩, 12) := ⟨⟨by decide +kernel, by decide +kernel⟩, List.mem_of_getElem? (i := 149) (by decide +kernel), List.mem_of_getElem? (i := 757) (by decide +kernel), List.mem_of_getElem? (i := 758) (by decide +kernel)⟩
theorem lw_p23 : lw_okq (⟨"StoneHome$Reader", "takeSign", "(C)V"⟩, 12) := ⟨⟨by decide +kernel, by decide +kernel⟩, List.mem_of_getElem? (i := 149) (by decide +kernel), List.mem_of_getElem? (i := 761) (by decide +kernel), List.mem_of_getElem? (i := 762) (by decide +kernel)⟩
theorem lw_p24 : lw_okq (⟨"StoneHome$Reader", "takeBranch", "()V"⟩, 12) := ⟨⟨by decide +kernel, by decide +kernel⟩, List.mem_of_getElem? (i := 149) (by decide +kernel), List.mem_of_getElem? (i := 769) (by decide +kernel), List.mem_of_getElem? (i := 770) (by decide +kernel)⟩
theorem lw_p25 : lw_okq (⟨"StoneHome$Reader", "takeFormula", "()V"⟩, 12) := ⟨⟨by decide +kernel, by decide +kernel⟩, List.mem_of_getElem? (i := 149) (by decide +kernel), List.mem_of_getElem? (i := 773) (by decide +kernel), List.mem_of_getElem? (i := 774) (by decide +kernel)⟩
theorem lw_p26 : lw_okq (⟨"StoneHome$Reader", "operatorNext", "()I"⟩, 12) := ⟨⟨by decide +kernel, by decide +kernel⟩, List.mem_of_getElem? (i := 149) (by decide +kernel), List.mem_of_getElem? (i := 781) (by decide +kernel), List.mem_of_getElem? (i := 782) (by decide +kernel)⟩
theorem lw_p27 : lw_okq (⟨"StoneHome$Reader", "takeOpening", "(I)V"⟩, 12) := ⟨⟨by decide +kernel, by decide +kernel⟩, List.mem_of_getElem? (i := 149) (by decide +kernel), List.mem_of_getElem? (i := 785) (by decide +kernel), List.mem_of_getElem? (i := 786) (by decide +kernel)⟩
theorem lw_p28 : lw_okq (⟨"StoneHome$Reader", "takeUnit", "()V"⟩, 12) := ⟨⟨by decide +kernel, by decide +kernel⟩, List.mem_of_getElem? (i := 149) (by decide +kernel), List.mem_of_getElem? (i := 789) (by decide +kernel), List.mem_of_getElem? (i := 790) (by decide +kernel)⟩
theorem lw_p29 : lw_okq (⟨"StoneHome$Laws", "lastWaiting", "()I"⟩, 8) := ⟨⟨by decide +kernel, by decide +kernel⟩, List.mem_of_getElem? (i := 36) (by decide +kernel), List.mem_of_getElem? (i := 805) (by decide +kernel), List.mem_of_getElem? (i := 806) (by decide +kernel)⟩
theorem lw_p30 : lw_okq (⟨"StoneHome$Reader", "takeSpot", "([I)V"⟩, 12) := ⟨⟨by decide +kernel, by decide +kernel⟩, List.mem_of_getElem? (i := 149) (by decide +kernel), List.mem_of_getElem? (i := 820) (by decide +kernel), List.mem_of_getElem? (i := 821) (by decide +kernel)⟩
theorem lw_p31 : lw_okq (⟨"StoneHome$Reader", "takeSetting", "()V"⟩, 12) := ⟨⟨by decide +kernel, by decide +kernel⟩, List.mem_of_getElem? (i := 149) (by decide +kernel), List.mem_of_getElem? (i := 824) (by decide +kernel), List.mem_of_getElem? (i := 825) (by decide +kernel)⟩
def lw_privs_2 : List (MethodName × Nat) := [(⟨"StoneHome$Reader", "takeOutcomes", "(I)I"⟩, 12), (⟨"StoneHome$Reader", "takeOutcome", "(I)I"⟩, 12), (⟨"StoneHome$Reader", "takeInt", "(II)I"⟩, 12), (⟨"StoneHome$Reader", "takeWord", "(I)V"⟩, 12), (⟨"StoneHome$Reader", "isWord", "(I)Z"⟩, 12), (⟨"StoneHome$Reader", "isSign", "(C)Z"⟩, 12), (⟨"StoneHome$Reader", "takeLaw", "(I)V"⟩, 12), (⟨"StoneHome$Reader", "takeSign", "(C)V"⟩, 12), (⟨"StoneHome$Reader", "takeBranch", "()V"⟩, 12), (⟨"StoneHome$Reader", "takeFormula", "()V"⟩, 12), (⟨"StoneHome$Reader", "operatorNext", "()I"⟩, 12), (⟨"StoneHome$Reader", "takeOpening", "(I)V"⟩, 12), (⟨"StoneHome$Reader", "takeUnit", "()V"⟩, 12), (⟨"StoneHome$Laws", "lastWaiting", "()I"⟩, 8), (⟨"StoneHome$Reader", "takeSpot", "([I)V"⟩, 12), (⟨"StoneHome$Reader", "takeSetting", "()V"⟩, 12)]
theorem lw_r2 : ∀ q ∈ lw_privs_2, lw_okq q := List.forall_mem_cons.mpr ⟨lw_p16, List.forall_mem_cons.mpr ⟨lw_p17, List.forall_mem_cons.mpr ⟨lw_p18, List.forall_mem_cons.mpr ⟨lw_p19, List.forall_mem_cons.mpr ⟨lw_p20, List.forall_mem_cons.mpr ⟨lw_p21, List.forall_mem_cons.mpr ⟨lw_p22, List.forall_mem_cons.mpr ⟨lw_p23, List.forall_mem_cons.mpr ⟨lw_p24, List.forall_mem_cons.mpr ⟨lw_p25, List.forall_mem_cons.mpr ⟨lw_p26, List.forall_mem_cons.mpr ⟨lw_p27, List.forall_mem_cons.mpr ⟨lw_p28, List.forall_mem_cons.mpr ⟨lw_p29, List.forall_mem_cons.mpr ⟨lw_p30, List.forall_mem_cons.mpr ⟨lw_p31, fun _ h => absurd h List.not_mem_nil⟩⟩⟩⟩⟩⟩⟩⟩⟩⟩⟩⟩⟩⟩⟩⟩
theorem lw_p32 : lw_okq (⟨"StoneHome$Reader", "judge", "(I)V"⟩, 12) := ⟨⟨by decide +kernel, by decide +kernel⟩, List.mem_of_getElem? (i := 149) (by decide +kernel), List.mem_of_getElem? (i := 828) (by decide +kernel), List.mem_of_getElem? (i := 829) (by decide +kernel)⟩
theorem lw_p33 : lw_okq (⟨"StoneHome$Street", "isSpot", "([I)Z"⟩, 16) := ⟨⟨by decide +kernel, by decide +kernel⟩, List.mem_of_getElem? (i := 30) (by decide +kernel), List.mem_of_getElem? (i := 836) (by decide +kernel), List.mem_of_getElem? (i := 837) (by decide +kernel)⟩
theorem lw_p34 : lw_okq (⟨"StoneHome$Laws", "factAt", "(I)I"⟩, 8) := ⟨⟨by decide +kernel, by decide +kernel⟩, List.mem_of_getElem? (i := 36) (by decide +kernel), List.mem_of_getElem? (i := 891) (by decide +kernel), List.mem_of_getElem? (i := 892) (by decide +kernel)⟩
theorem lw_p35 : lw_okq (⟨"StoneHome", "canBeKicked", "(I)Z"⟩, 13) := ⟨⟨by decide +kernel, by decide +kernel⟩, List.mem_of_getElem? (i := 22) (by decide +kernel), List.mem_of_getElem? (i := 906) (by decide +kernel), List.mem_of_getElem? (i := 907) (by decide +kernel)⟩
theorem lw_p36 : lw_okq (⟨"StoneHome$Street", "lotOfSix", "(I)I"⟩, 16) := ⟨⟨by decide +kernel, by decide +kernel⟩, List.mem_of_getElem? (i := 30) (by decide +kernel), List.mem_of_getElem? (i := 918) (by decide +kernel), List.mem_of_getElem? (i := 919) (by decide +kernel)⟩
theorem lw_p37 : lw_okq (⟨"StoneHome", "comeBy", "(I)I"⟩, 13) := ⟨⟨by decide +kernel, by decide +kernel⟩, List.mem_of_getElem? (i := 22) (by decide +kernel), List.mem_of_getElem? (i := 938) (by decide +kernel), List.mem_of_getElem? (i := 939) (by decide +kernel)⟩
theorem lw_p38 : lw_okq (⟨"StoneHome", "settle", "(I)I"⟩, 13) := ⟨⟨by decide +kernel, by decide +kernel⟩, List.mem_of_getElem? (i := 22) (by decide +kernel), List.mem_of_getElem? (i := 968) (by decide +kernel), List.mem_of_getElem? (i := 969) (by decide +kernel)⟩
theorem lw_p39 : lw_okq (⟨"StoneHome", "lose", "()I"⟩, 13) := ⟨⟨by decide +kernel, by decide +kernel⟩, List.mem_of_getElem? (i := 22) (by decide +kernel), List.mem_of_getElem? (i := 972) (by decide +kernel), List.mem_of_getElem? (i := 973) (by decide +kernel)⟩
theorem lw_p40 : lw_okq (⟨"StoneHome", "touched", "(I)I"⟩, 13) := ⟨⟨by decide +kernel, by decide +kernel⟩, List.mem_of_getElem? (i := 22) (by decide +kernel), List.mem_of_getElem? (i := 985) (by decide +kernel), List.mem_of_getElem? (i := 986) (by decide +kernel)⟩
theorem lw_p41 : lw_okq (⟨"StoneHome", "homeChance", "(I)I"⟩, 13) := ⟨⟨by decide +kernel, by decide +kernel⟩, List.mem_of_getElem? (i := 22) (by decide +kernel), List.mem_of_getElem? (i := 1014) (by decide +kernel), List.mem_of_getElem? (i := 1015) (by decide +kernel)⟩
theorem lw_p42 : lw_okq (⟨"StoneHome$Forecast", "swap", "()V"⟩, 9) := ⟨⟨by decide +kernel, by decide +kernel⟩, List.mem_of_getElem? (i := 321) (by decide +kernel), List.mem_of_getElem? (i := 1030) (by decide +kernel), List.mem_of_getElem? (i := 1031) (by decide +kernel)⟩
theorem lw_p43 : lw_okq (⟨"StoneHome$Forecast", "fillLayer", "(I)V"⟩, 9) := ⟨⟨by decide +kernel, by decide +kernel⟩, List.mem_of_getElem? (i := 321) (by decide +kernel), List.mem_of_getElem? (i := 1047) (by decide +kernel), List.mem_of_getElem? (i := 1048) (by decide +kernel)⟩
theorem lw_p44 : lw_okq (⟨"StoneHome$Forecast", "chanceThere", "(II)I"⟩, 9) := ⟨⟨by decide +kernel, by decide +kernel⟩, List.mem_of_getElem? (i := 321) (by decide +kernel), List.mem_of_getElem? (i := 1052) (by decide +kernel), List.mem_of_getElem? (i := 1053) (by decide +kernel)⟩
theorem lw_p45 : lw_okq (⟨"StoneHome$Forecast", "chanceBy", "(III)I"⟩, 9) := ⟨⟨by decide +kernel, by decide +kernel⟩, List.mem_of_getElem? (i := 321) (by decide +kernel), List.mem_of_getElem? (i := 1057) (by decide +kernel), List.mem_of_getElem? (i := 1058) (by decide +kernel)⟩
theorem lw_p46 : lw_okq (⟨"StoneHome$Forecast", "laterChance", "(II)I"⟩, 9) := ⟨⟨by decide +kernel, by decide +kernel⟩, List.mem_of_getElem? (i := 321) (by decide +kernel), List.mem_of_getElem? (i := 1062) (by decide +kernel), List.mem_of_getElem? (i := 1063) (by decide +kernel)⟩
theorem lw_p47 : lw_okq (⟨"StoneHome$Forecast", "chanceAtRest", "(II)I"⟩, 9) := ⟨⟨by decide +kernel, by decide +kernel⟩, List.mem_of_getElem? (i := 321) (by decide +kernel), List.mem_of_getElem? (i := 1077) (by decide +kernel), List.mem_of_getElem? (i := 1078) (by decide +kernel)⟩
def lw_privs_3 : List (MethodName × Nat) := [(⟨"StoneHome$Reader", "judge", "(I)V"⟩, 12), (⟨"StoneHome$Street", "isSpot", "([I)Z"⟩, 16), (⟨"StoneHome$Laws", "factAt", "(I)I"⟩, 8), (⟨"StoneHome", "canBeKicked", "(I)Z"⟩, 13), (⟨"StoneHome$Street", "lotOfSix", "(I)I"⟩, 16), (⟨"StoneHome", "comeBy", "(I)I"⟩, 13), (⟨"StoneHome", "settle", "(I)I"⟩, 13), (⟨"StoneHome", "lose", "()I"⟩, 13), (⟨"StoneHome", "touched", "(I)I"⟩, 13), (⟨"StoneHome", "homeChance", "(I)I"⟩, 13), (⟨"StoneHome$Forecast", "swap", "()V"⟩, 9), (⟨"StoneHome$Forecast", "fillLayer", "(I)V"⟩, 9), (⟨"StoneHome$Forecast", "chanceThere", "(II)I"⟩, 9), (⟨"StoneHome$Forecast", "chanceBy", "(III)I"⟩, 9), (⟨"StoneHome$Forecast", "laterChance", "(II)I"⟩, 9), (⟨"StoneHome$Forecast", "chanceAtRest", "(II)I"⟩, 9)]
theorem lw_r3 : ∀ q ∈ lw_privs_3, lw_okq q := List.forall_mem_cons.mpr ⟨lw_p32, List.forall_mem_cons.mpr ⟨lw_p33, List.forall_mem_cons.mpr ⟨lw_p34, List.forall_mem_cons.mpr ⟨lw_p35, List.forall_mem_cons.mpr ⟨lw_p36, List.forall_mem_cons.mpr ⟨lw_p37, List.forall_mem_cons.mpr ⟨lw_p38, List.forall_mem_cons.mpr ⟨lw_p39, List.forall_mem_cons.mpr ⟨lw_p40, List.forall_mem_cons.mpr ⟨lw_p41, List.forall_mem_cons.mpr ⟨lw_p42, List.forall_mem_cons.mpr ⟨lw_p43, List.forall_mem_cons.mpr ⟨lw_p44, List.forall_mem_cons.mpr ⟨lw_p45, List.forall_mem_cons.mpr ⟨lw_p46, List.forall_mem_cons.mpr ⟨lw_p47, fun _ h => absurd h List.not_mem_nil⟩⟩⟩⟩⟩⟩⟩⟩⟩⟩⟩⟩⟩⟩⟩⟩
theorem lw_p48 : lw_okq (⟨"StoneHome", "bestFrom", "(II)I"⟩, 13) := ⟨⟨by decide +kernel, by decide +kernel⟩, List.mem_of_getElem? (i := 22) (by decide +kernel), List.mem_of_getElem? (i := 1102) (by decide +kernel), List.mem_of_getElem? (i := 1103) (by decide +kernel)⟩
theorem lw_p49 : lw_okq (⟨"StoneHome", "ruledChance", "(III)I"⟩, 13) := ⟨⟨by decide +kernel, by decide +kernel⟩, List.mem_of_getElem? (i := 22) (by decide +kernel), List.mem_of_getElem? (i := 1123) (by decide +kernel), List.mem_of_getElem? (i := 1124) (by decide +kernel)⟩
theorem lw_p50 : lw_okq (⟨"StoneHome", "touchedChance", "(I)I"⟩, 13) := ⟨⟨by decide +kernel, by decide +kernel⟩, List.mem_of_getElem? (i := 22) (by decide +kernel), List.mem_of_getElem? (i := 1135) (by decide +kernel), List.mem_of_getElem? (i := 1136) (by decide +kernel)⟩
theorem lw_p51 : lw_okq (⟨"StoneHome", "chanceBehind", "(II)I"⟩, 13) := ⟨⟨by decide +kernel, by decide +kernel⟩, List.mem_of_getElem? (i := 22) (by decide +kernel), List.mem_of_getElem? (i := 1151) (by decide +kernel), List.mem_of_getElem? (i := 1152) (by decide +kernel)⟩
theorem lw_p52 : lw_okq (⟨"StoneHome", "isTrap", "(I)Z"⟩, 13) := ⟨⟨by decide +kernel, by decide +kernel⟩, List.mem_of_getElem? (i := 22) (by decide +kernel), List.mem_of_getElem? (i := 1163) (by decide +kernel), List.mem_of_getElem? (i := 1164) (by decide +kernel)⟩
theorem lw_p53 : lw_okq (⟨"StoneHome$Race", "reach", "([IIII)V"⟩, 6) := ⟨⟨by decide +kernel, by decide +kernel⟩, List.mem_of_getElem? (i := 355) (by decide +kernel), List.mem_of_getElem? (i := 1180) (by decide +kernel), List.mem_of_getElem? (i := 1181) (by decide +kernel)⟩
theorem lw_p54 : lw_okq (⟨"StoneHome$Race", "reachBy", "(II[II)V"⟩, 6) := ⟨⟨by decide +kernel, by decide +kernel⟩, List.mem_of_getElem? (i := 355) (by decide +kernel), List.mem_of_getElem? (i := 1186) (by decide +kernel), List.mem_of_getElem? (i := 1187) (by decide +kernel)⟩
theorem lw_p55 : lw_okq (⟨"StoneHome$Race", "takeMyTurn", "(II)V"⟩, 6) := ⟨⟨by decide +kernel, by decide +kernel⟩, List.mem_of_getElem? (i := 355) (by decide +kernel), List.mem_of_getElem? (i := 1195) (by decide +kernel), List.mem_of_getElem? (i := 1196) (by decide +kernel)⟩
theorem lw_p56 : lw_okq (⟨"StoneHome$Race", "myBest", "(II)I"⟩, 6) := ⟨⟨by decide +kernel, by decide +kernel⟩, List.mem_of_getElem? (i := 355) (by decide +kernel), List.mem_of_getElem? (i := 1200) (by decide +kernel), List.mem_of_getElem? (i := 1201) (by decide +kernel)⟩
theorem lw_p57 : lw_okq (⟨"StoneHome$Race", "chanceBy", "(IIII)I"⟩, 6) := ⟨⟨by decide +kernel, by decide +kernel⟩, List.mem_of_getElem? (i := 355) (by decide +kernel), List.mem_of_getElem? (i := 1204) (by decide +kernel), List.mem_of_getElem? (i := 1205) (by decide +kernel)⟩
theorem lw_p58 : lw_okq (⟨"StoneHome$Race", "takeHisTurn", "(I)V"⟩, 6) := ⟨⟨by decide +kernel, by decide +kernel⟩, List.mem_of_getElem? (i := 355) (by decide +kernel), List.mem_of_getElem? (i := 1211) (by decide +kernel), List.mem_of_getElem? (i := 1212) (by decide +kernel)⟩
theorem lw_p59 : lw_okq (⟨"StoneHome$Race", "hisBest", "(I)I"⟩, 6) := ⟨⟨by decide +kernel, by decide +kernel⟩, List.mem_of_getElem? (i := 355) (by decide +kernel), List.mem_of_getElem? (i := 1218) (by decide +kernel), List.mem_of_getElem? (i := 1219) (by decide +kernel)⟩
theorem lw_p60 : lw_okq (⟨"StoneHome$Scratches", "weighKick", "(LStoneHome$Street;III)V"⟩, 7) := ⟨⟨by decide +kernel, by decide +kernel⟩, List.mem_of_getElem? (i := 380) (by decide +kernel), List.mem_of_getElem? (i := 1253) (by decide +kernel), List.mem_of_getElem? (i := 1254) (by decide +kernel)⟩
theorem lw_p61 : lw_okq (⟨"StoneHome$Scratches", "pass", "(II)I"⟩, 7) := ⟨⟨by decide +kernel, by decide +kernel⟩, List.mem_of_getElem? (i := 380) (by decide +kernel), List.mem_of_getElem? (i := 1273) (by decide +kernel), List.mem_of_getElem? (i := 1274) (by decide +kernel)⟩
theorem lw_p62 : lw_okq (⟨"StoneHome", "heldSlots", "()I"⟩, 13) := ⟨⟨by decide +kernel, by decide +kernel⟩, List.mem_of_getElem? (i := 22) (by decide +kernel), List.mem_of_getElem? (i := 1304) (by decide +kernel), List.mem_of_getElem? (i := 1305) (by decide +kernel)⟩
theorem lw_p63 : lw_okq (⟨"StoneHomeModel", "plain", "(I)V"⟩, 70) := ⟨⟨by decide +kernel, by decide +kernel⟩, List.mem_of_getElem? (i := 1312) (by decide +kernel), List.mem_of_getElem? (i := 1318) (by decide +kernel), List.mem_of_getElem? (i := 1319) (by decide +kernel)⟩
def lw_privs_4 : List (MethodName × Nat) := [(⟨"StoneHome", "bestFrom", "(II)I"⟩, 13), (⟨"StoneHome", "ruledChance", "(III)I"⟩, 13), (⟨"StoneHome", "touchedChance", "(I)I"⟩, 13), (⟨"StoneHome", "chanceBehind", "(II)I"⟩, 13), (⟨"StoneHome", "isTrap", "(I)Z"⟩, 13), (⟨"StoneHome$Race", "reach", "([IIII)V"⟩, 6), (⟨"StoneHome$Race", "reachBy", "(II[II)V"⟩, 6), (⟨"StoneHome$Race", "takeMyTurn", "(II)V"⟩, 6), (⟨"StoneHome$Race", "myBest", "(II)I"⟩, 6), (⟨"StoneHome$Race", "chanceBy", "(IIII)I"⟩, 6), (⟨"StoneHome$Race", "takeHisTurn", "(I)V"⟩, 6), (⟨"StoneHome$Race", "hisBest", "(I)I"⟩, 6), (⟨"StoneHome$Scratches", "weighKick", "(LStoneHome$Street;III)V"⟩, 7), (⟨"StoneHome$Scratches", "pass", "(II)I"⟩, 7), (⟨"StoneHome", "heldSlots", "()I"⟩, 13), (⟨"StoneHomeModel", "plain", "(I)V"⟩, 70)]
theorem lw_r4 : ∀ q ∈ lw_privs_4, lw_okq q := List.forall_mem_cons.mpr ⟨lw_p48, List.forall_mem_cons.mpr ⟨lw_p49, List.forall_mem_cons.mpr ⟨lw_p50, List.forall_mem_cons.mpr ⟨lw_p51, List.forall_mem_cons.mpr ⟨lw_p52, List.forall_mem_cons.mpr ⟨lw_p53, List.forall_mem_cons.mpr ⟨lw_p54, List.forall_mem_cons.mpr ⟨lw_p55, List.forall_mem_cons.mpr ⟨lw_p56, List.forall_mem_cons.mpr ⟨lw_p57, List.forall_mem_cons.mpr ⟨lw_p58, List.forall_mem_cons.mpr ⟨lw_p59, List.forall_mem_cons.mpr ⟨lw_p60, List.forall_mem_cons.mpr ⟨lw_p61, List.forall_mem_cons.mpr ⟨lw_p62, List.forall_mem_cons.mpr ⟨lw_p63, fun _ h => absurd h List.not_mem_nil⟩⟩⟩⟩⟩⟩⟩⟩⟩⟩⟩⟩⟩⟩⟩⟩
theorem lw_p64 : lw_okq (⟨"StoneHomeModel", "begins", "()V"⟩, 70) := ⟨⟨by decide +kernel, by decide +kernel⟩, List.mem_of_getElem? (i := 1312) (by decide +kernel), List.mem_of_getElem? (i := 1329) (by decide +kernel), List.mem_of_getElem? (i := 1330) (by decide +kernel)⟩
theorem lw_p65 : lw_okq (⟨"StoneHomeModel", "keepsRow", "()V"⟩, 70) := ⟨⟨by decide +kernel, by decide +kernel⟩, List.mem_of_getElem? (i := 1312) (by decide +kernel), List.mem_of_getElem? (i := 1333) (by decide +kernel), List.mem_of_getElem? (i := 1334) (by decide +kernel)⟩
theorem lw_p66 : lw_okq (⟨"StoneHomeModel", "put", "(I)V"⟩, 70) := ⟨⟨by decide +kernel, by decide +kernel⟩, List.mem_of_getElem? (i := 1312) (by decide +kernel), List.mem_of_getElem? (i := 1552) (by decide +kernel), List.mem_of_getElem? (i := 1553) (by decide +kernel)⟩
theorem lw_p67 : lw_okq (⟨"StoneHomeModel", "cut", "()V"⟩, 70) := ⟨⟨by decide +kernel, by decide +kernel⟩, List.mem_of_getElem? (i := 1312) (by decide +kernel), List.mem_of_getElem? (i := 1564) (by decide +kernel), List.mem_of_getElem? (i := 1565) (by decide +kernel)⟩
theorem lw_p68 : lw_okq (⟨"StoneHomeModel", "byteAt", "(I)I"⟩, 70) := ⟨⟨by decide +kernel, by decide +kernel⟩, List.mem_of_getElem? (i := 1312) (by decide +kernel), List.mem_of_getElem? (i := 1568) (by decide +kernel), List.mem_of_getElem? (i := 1569) (by decide +kernel)⟩
theorem lw_p69 : lw_okq (⟨"StoneHomeModel", "token", "(IIIJ)V"⟩, 70) := ⟨⟨by decide +kernel, by decide +kernel⟩, List.mem_of_getElem? (i := 1312) (by decide +kernel), List.mem_of_getElem? (i := 1572) (by decide +kernel), List.mem_of_getElem? (i := 1573) (by decide +kernel)⟩
theorem lw_p70 : lw_okq (⟨"StoneHomeModel", "sign", "(III)I"⟩, 70) := ⟨⟨by decide +kernel, by decide +kernel⟩, List.mem_of_getElem? (i := 1312) (by decide +kernel), List.mem_of_getElem? (i := 1582) (by decide +kernel), List.mem_of_getElem? (i := 1583) (by decide +kernel)⟩
theorem lw_p71 : lw_okq (⟨"StoneHomeModel", "is", "(I)Z"⟩, 70) := ⟨⟨by decide +kernel, by decide +kernel⟩, List.mem_of_getElem? (i := 1312) (by decide +kernel), List.mem_of_getElem? (i := 1586) (by decide +kernel), List.mem_of_getElem? (i := 1587) (by decide +kernel)⟩
theorem lw_p72 : lw_okq (⟨"StoneHomeModel", "tellOne", "()V"⟩, 70) := ⟨⟨by decide +kernel, by decide +kernel⟩, List.mem_of_getElem? (i := 1312) (by decide +kernel), List.mem_of_getElem? (i := 1590) (by decide +kernel), List.mem_of_getElem? (i := 1591) (by decide +kernel)⟩
theorem lw_p73 : lw_okq (⟨"StoneHomeModel", "fail", "(I)V"⟩, 70) := ⟨⟨by decide +kernel, by decide +kernel⟩, List.mem_of_getElem? (i := 1312) (by decide +kernel), List.mem_of_getElem? (i := 1594) (by decide +kernel), List.mem_of_getElem? (i := 1595) (by decide +kernel)⟩
theorem lw_p74 : lw_okq (⟨"StoneHomeModel", "tellRow", "()V"⟩, 70) := ⟨⟨by decide +kernel, by decide +kernel⟩, List.mem_of_getElem? (i := 1312) (by decide +kernel), List.mem_of_getElem? (i := 1598) (by decide +kernel), List.mem_of_getElem? (i := 1599) (by decide +kernel)⟩
theorem lw_p75 : lw_okq (⟨"StoneHomeModel", "goesOn", "()V"⟩, 70) := ⟨⟨by decide +kernel, by decide +kernel⟩, List.mem_of_getElem? (i := 1312) (by decide +kernel), List.mem_of_getElem? (i := 1602) (by decide +kernel), List.mem_of_getElem? (i := 1603) (by decide +kernel)⟩
theorem lw_p76 : lw_okq (⟨"StoneHomeModel", "must", "(I)V"⟩, 70) := ⟨⟨by decide +kernel, by decide +kernel⟩, List.mem_of_getElem? (i := 1312) (by decide +kernel), List.mem_of_getElem? (i := 1606) (by decide +kernel), List.mem_of_getElem? (i := 1607) (by decide +kernel)⟩
theorem lw_p77 : lw_okq (⟨"StoneHomeModel", "wrong", "(II)V"⟩, 70) := ⟨⟨by decide +kernel, by decide +kernel⟩, List.mem_of_getElem? (i := 1312) (by decide +kernel), List.mem_of_getElem? (i := 1610) (by decide +kernel), List.mem_of_getElem? (i := 1611) (by decide +kernel)⟩
theorem lw_p78 : lw_okq (⟨"StoneHomeModel", "bounded", "(II)I"⟩, 70) := ⟨⟨by decide +kernel, by decide +kernel⟩, List.mem_of_getElem? (i := 1312) (by decide +kernel), List.mem_of_getElem? (i := 1617) (by decide +kernel), List.mem_of_getElem? (i := 1618) (by decide +kernel)⟩
theorem lw_p79 : lw_okq (⟨"StoneHomeModel", "tellKick", "()V"⟩, 70) := ⟨⟨by decide +kernel, by decide +kernel⟩, List.mem_of_getElem? (i := 1312) (by decide +kernel), List.mem_of_getElem? (i := 1621) (by decide +kernel), List.mem_of_getElem? (i := 1622) (by decide +kernel)⟩
def lw_privs_5 : List (MethodName × Nat) := [(⟨"StoneHomeModel", "begins", "()V"⟩, 70), (⟨"StoneHomeModel", "keepsRow", "()V"⟩, 70), (⟨"StoneHomeModel", "put", "(I)V"⟩, 70), (⟨"StoneHomeModel", "cut", "()V"⟩, 70), (⟨"StoneHomeModel", "byteAt", "(I)I"⟩, 70), (⟨"StoneHomeModel", "token", "(IIIJ)V"⟩, 70), (⟨"StoneHomeModel", "sign", "(III)I"⟩, 70), (⟨"StoneHomeModel", "is", "(I)Z"⟩, 70), (⟨"StoneHomeModel", "tellOne", "()V"⟩, 70), (⟨"StoneHomeModel", "fail", "(I)V"⟩, 70), (⟨"StoneHomeModel", "tellRow", "()V"⟩, 70), (⟨"StoneHomeModel", "goesOn", "()V"⟩, 70), (⟨"StoneHomeModel", "must", "(I)V"⟩, 70), (⟨"StoneHomeModel", "wrong", "(II)V"⟩, 70), (⟨"StoneHomeModel", "bounded", "(II)I"⟩, 70), (⟨"StoneHomeModel", "tellKick", "()V"⟩, 70)]
theorem lw_r5 : ∀ q ∈ lw_privs_5, lw_okq q := List.forall_mem_cons.mpr ⟨lw_p64, List.forall_mem_cons.mpr ⟨lw_p65, List.forall_mem_cons.mpr ⟨lw_p66, List.forall_mem_cons.mpr ⟨lw_p67, List.forall_mem_cons.mpr ⟨lw_p68, List.forall_mem_cons.mpr ⟨lw_p69, List.forall_mem_cons.mpr ⟨lw_p70, List.forall_mem_cons.mpr ⟨lw_p71, List.forall_mem_cons.mpr ⟨lw_p72, List.forall_mem_cons.mpr ⟨lw_p73, List.forall_mem_cons.mpr ⟨lw_p74, List.forall_mem_cons.mpr ⟨lw_p75, List.forall_mem_cons.mpr ⟨lw_p76, List.forall_mem_cons.mpr ⟨lw_p77, List.forall_mem_cons.mpr ⟨lw_p78, List.forall_mem_cons.mpr ⟨lw_p79, fun _ h => absurd h List.not_mem_nil⟩⟩⟩⟩⟩⟩⟩⟩⟩⟩⟩⟩⟩⟩⟩⟩
theorem lw_p80 : lw_okq (⟨"StoneHomeModel", "tellOutcome", "(I)V"⟩, 70) := ⟨⟨by decide +kernel, by decide +kernel⟩, List.mem_of_getElem? (i := 1312) (by decide +kernel), List.mem_of_getElem? (i := 1625) (by decide +kernel), List.mem_of_getElem? (i := 1626) (by decide +kernel)⟩
theorem lw_p81 : lw_okq (⟨"StoneHomeModel", "tellLaw", "(I)V"⟩, 70) := ⟨⟨by decide +kernel, by decide +kernel⟩, List.mem_of_getElem? (i := 1312) (by decide +kernel), List.mem_of_getElem? (i := 1629) (by decide +kernel), List.mem_of_getElem? (i := 1630) (by decide +kernel)⟩
theorem lw_p82 : lw_okq (⟨"StoneHomeModel", "expression", "()V"⟩, 70) := ⟨⟨by decide +kernel, by decide +kernel⟩, List.mem_of_getElem? (i := 1312) (by decide +kernel), List.mem_of_getElem? (i := 1633) (by decide +kernel), List.mem_of_getElem? (i := 1634) (by decide +kernel)⟩
theorem lw_p83 : lw_okq (⟨"StoneHomeModel", "unit", "()V"⟩, 70) := ⟨⟨by decide +kernel, by decide +kernel⟩, List.mem_of_getElem? (i := 1312) (by decide +kernel), List.mem_of_getElem? (i := 1637) (by decide +kernel), List.mem_of_getElem? (i := 1638) (by decide +kernel)⟩
theorem lw_p84 : lw_okq (⟨"StoneHomeModel", "emit", "(II)V"⟩, 70) := ⟨⟨by decide +kernel, by decide +kernel⟩, List.mem_of_getElem? (i := 1312) (by decide +kernel), List.mem_of_getElem? (i := 1641) (by decide +kernel), List.mem_of_getElem? (i := 1642) (by decide +kernel)⟩
theorem lw_p85 : lw_okq (⟨"StoneHomeModel", "comesOut", "(Z)V"⟩, 70) := ⟨⟨by decide +kernel, by decide +kernel⟩, List.mem_of_getElem? (i := 1312) (by decide +kernel), List.mem_of_getElem? (i := 1645) (by decide +kernel), List.mem_of_getElem? (i := 1646) (by decide +kernel)⟩
theorem lw_p86 : lw_okq (⟨"StoneHomeModel", "term", "()V"⟩, 70) := ⟨⟨by decide +kernel, by decide +kernel⟩, List.mem_of_getElem? (i := 1312) (by decide +kernel), List.mem_of_getElem? (i := 1649) (by decide +kernel), List.mem_of_getElem? (i := 1650) (by decide +kernel)⟩
theorem lw_p87 : lw_okq (⟨"StoneHomeModel", "isThere", "([I)Z"⟩, 70) := ⟨⟨by decide +kernel, by decide +kernel⟩, List.mem_of_getElem? (i := 1312) (by decide +kernel), List.mem_of_getElem? (i := 1653) (by decide +kernel), List.mem_of_getElem? (i := 1654) (by decide +kernel)⟩
theorem lw_p88 : lw_okq (⟨"StoneHomeModel", "stateNow", "()I"⟩, 70) := ⟨⟨by decide +kernel, by decide +kernel⟩, List.mem_of_getElem? (i := 1312) (by decide +kernel), List.mem_of_getElem? (i := 1665) (by decide +kernel), List.mem_of_getElem? (i := 1666) (by decide +kernel)⟩
theorem lw_p89 : lw_okq (⟨"StoneHomeModel", "isHome", "(I)Z"⟩, 70) := ⟨⟨by decide +kernel, by decide +kernel⟩, List.mem_of_getElem? (i := 1312) (by decide +kernel), List.mem_of_getElem? (i := 1672) (by decide +kernel), List.mem_of_getElem? (i := 1673) (by decide +kernel)⟩
theorem lw_p90 : lw_okq (⟨"StoneHomeModel", "sortOf", "(I)I"⟩, 70) := ⟨⟨by decide +kernel, by decide +kernel⟩, List.mem_of_getElem? (i := 1312) (by decide +kernel), List.mem_of_getElem? (i := 1676) (by decide +kernel), List.mem_of_getElem? (i := 1677) (by decide +kernel)⟩
theorem lw_p91 : lw_okq (⟨"StoneHomeModel", "sortAt", "(II)I"⟩, 70) := ⟨⟨by decide +kernel, by decide +kernel⟩, List.mem_of_getElem? (i := 1312) (by decide +kernel), List.mem_of_getElem? (i := 1686) (by decide +kernel), List.mem_of_getElem? (i := 1687) (by decide +kernel)⟩
theorem lw_p92 : lw_okq (⟨"StoneHomeModel", "isPlace", "(II)Z"⟩, 70) := ⟨⟨by decide +kernel, by decide +kernel⟩, List.mem_of_getElem? (i := 1312) (by decide +kernel), List.mem_of_getElem? (i := 1694) (by decide +kernel), List.mem_of_getElem? (i := 1695) (by decide +kernel)⟩
theorem lw_p93 : lw_okq (⟨"StoneHomeModel", "isBarred", "(III)Z"⟩, 70) := ⟨⟨by decide +kernel, by decide +kernel⟩, List.mem_of_getElem? (i := 1312) (by decide +kernel), List.mem_of_getElem? (i := 1705) (by decide +kernel), List.mem_of_getElem? (i := 1706) (by decide +kernel)⟩
theorem lw_p94 : lw_okq (⟨"StoneHomeModel", "asks", "(I)I"⟩, 70) := ⟨⟨by decide +kernel, by decide +kernel⟩, List.mem_of_getElem? (i := 1312) (by decide +kernel), List.mem_of_getElem? (i := 1709) (by decide +kernel), List.mem_of_getElem? (i := 1710) (by decide +kernel)⟩
theorem lw_p95 : lw_okq (⟨"StoneHomeModel", "termOf", "(II)I"⟩, 70) := ⟨⟨by decide +kernel, by decide +kernel⟩, List.mem_of_getElem? (i := 1312) (by decide +kernel), List.mem_of_getElem? (i := 1713) (by decide +kernel), List.mem_of_getElem? (i := 1714) (by decide +kernel)⟩
def lw_privs_6 : List (MethodName × Nat) := [(⟨"StoneHomeModel", "tellOutcome", "(I)V"⟩, 70), (⟨"StoneHomeModel", "tellLaw", "(I)V"⟩, 70), (⟨"StoneHomeModel", "expression", "()V"⟩, 70), (⟨"StoneHomeModel", "unit", "()V"⟩, 70), (⟨"StoneHomeModel", "emit", "(II)V"⟩, 70), (⟨"StoneHomeModel", "comesOut", "(Z)V"⟩, 70), (⟨"StoneHomeModel", "term", "()V"⟩, 70), (⟨"StoneHomeModel", "isThere", "([I)Z"⟩, 70), (⟨"StoneHomeModel", "stateNow", "()I"⟩, 70), (⟨"StoneHomeModel", "isHome", "(I)Z"⟩, 70), (⟨"StoneHomeModel", "sortOf", "(I)I"⟩, 70), (⟨"StoneHomeModel", "sortAt", "(II)I"⟩, 70), (⟨"StoneHomeModel", "isPlace", "(II)Z"⟩, 70), (⟨"StoneHomeModel", "isBarred", "(III)Z"⟩, 70), (⟨"StoneHomeModel", "asks", "(I)I"⟩, 70), (⟨"StoneHomeModel", "termOf", "(II)I"⟩, 70)]
theorem lw_r6 : ∀ q ∈ lw_privs_6, lw_okq q := List.forall_mem_cons.mpr ⟨lw_p80, List.forall_mem_cons.mpr ⟨lw_p81, List.forall_mem_cons.mpr ⟨lw_p82, List.forall_mem_cons.mpr ⟨lw_p83, List.forall_mem_cons.mpr ⟨lw_p84, List.forall_mem_cons.mpr ⟨lw_p85, List.forall_mem_cons.mpr ⟨lw_p86, List.forall_mem_cons.mpr ⟨lw_p87, List.forall_mem_cons.mpr ⟨lw_p88, List.forall_mem_cons.mpr ⟨lw_p89, List.forall_mem_cons.mpr ⟨lw_p90, List.forall_mem_cons.mpr ⟨lw_p91, List.forall_mem_cons.mpr ⟨lw_p92, List.forall_mem_cons.mpr ⟨lw_p93, List.forall_mem_cons.mpr ⟨lw_p94, List.forall_mem_cons.mpr ⟨lw_p95, fun _ h => absurd h List.not_mem_nil⟩⟩⟩⟩⟩⟩⟩⟩⟩⟩⟩⟩⟩⟩⟩⟩
theorem lw_p96 : lw_okq (⟨"StoneHomeModel", "isOver", "()Z"⟩, 70) := ⟨⟨by decide +kernel, by decide +kernel⟩, List.mem_of_getElem? (i := 1312) (by decide +kernel), List.mem_of_getElem? (i := 1721) (by decide +kernel), List.mem_of_getElem? (i := 1722) (by decide +kernel)⟩
theorem lw_p97 : lw_okq (⟨"StoneHomeModel", "canKick", "(II)Z"⟩, 70) := ⟨⟨by decide +kernel, by decide +kernel⟩, List.mem_of_getElem? (i := 1312) (by decide +kernel), List.mem_of_getElem? (i := 1725) (by decide +kernel), List.mem_of_getElem? (i := 1726) (by decide +kernel)⟩
theorem lw_p98 : lw_okq (⟨"StoneHomeModel", "brought", "(IIII)I"⟩, 70) := ⟨⟨by decide +kernel, by decide +kernel⟩, List.mem_of_getElem? (i := 1312) (by decide +kernel), List.mem_of_getElem? (i := 1733) (by decide +kernel), List.mem_of_getElem? (i := 1734) (by decide +kernel)⟩
theorem lw_p99 : lw_okq (⟨"StoneHomeModel", "comesTo", "(IZ)I"⟩, 70) := ⟨⟨by decide +kernel, by decide +kernel⟩, List.mem_of_getElem? (i := 1312) (by decide +kernel), List.mem_of_getElem? (i := 1746) (by decide +kernel), List.mem_of_getElem? (i := 1747) (by decide +kernel)⟩
theorem lw_p100 : lw_okq (⟨"StoneHomeModel", "copies", "()V"⟩, 70) := ⟨⟨by decide +kernel, by decide +kernel⟩, List.mem_of_getElem? (i := 1312) (by decide +kernel), List.mem_of_getElem? (i := 1750) (by decide +kernel), List.mem_of_getElem? (i := 1751) (by decide +kernel)⟩
theorem lw_p101 : lw_okq (⟨"StoneHomeModel", "keeps", "()V"⟩, 70) := ⟨⟨by decide +kernel, by decide +kernel⟩, List.mem_of_getElem? (i := 1312) (by decide +kernel), List.mem_of_getElem? (i := 1754) (by decide +kernel), List.mem_of_getElem? (i := 1755) (by decide +kernel)⟩
theorem lw_p102 : lw_okq (⟨"StoneHomeModel", "waited", "(II)I"⟩, 70) := ⟨⟨by decide +kernel, by decide +kernel⟩, List.mem_of_getElem? (i := 1312) (by decide +kernel), List.mem_of_getElem? (i := 1762) (by decide +kernel), List.mem_of_getElem? (i := 1763) (by decide +kernel)⟩
theorem lw_p103 : lw_okq (⟨"StoneHomeModel", "touched", "(II)I"⟩, 70) := ⟨⟨by decide +kernel, by decide +kernel⟩, List.mem_of_getElem? (i := 1312) (by decide +kernel), List.mem_of_getElem? (i := 1770) (by decide +kernel), List.mem_of_getElem? (i := 1771) (by decide +kernel)⟩
theorem lw_p104 : lw_okq (⟨"StoneHomeModel", "fills", "(I)V"⟩, 70) := ⟨⟨by decide +kernel, by decide +kernel⟩, List.mem_of_getElem? (i := 1312) (by decide +kernel), List.mem_of_getElem? (i := 1793) (by decide +kernel), List.mem_of_getElem? (i := 1794) (by decide +kernel)⟩
theorem lw_p105 : lw_okq (⟨"StoneHomeModel", "fillsFrom", "(IIII)V"⟩, 70) := ⟨⟨by decide +kernel, by decide +kernel⟩, List.mem_of_getElem? (i := 1312) (by decide +kernel), List.mem_of_getElem? (i := 1797) (by decide +kernel), List.mem_of_getElem? (i := 1798) (by decide +kernel)⟩
theorem lw_p106 : lw_okq (⟨"StoneHomeModel", "isSquare", "(I)Z"⟩, 70) := ⟨⟨by decide +kernel, by decide +kernel⟩, List.mem_of_getElem? (i := 1312) (by decide +kernel), List.mem_of_getElem? (i := 1801) (by decide +kernel), List.mem_of_getElem? (i := 1802) (by decide +kernel)⟩
theorem lw_p107 : lw_okq (⟨"StoneHomeModel", "earlier", "(III)V"⟩, 70) := ⟨⟨by decide +kernel, by decide +kernel⟩, List.mem_of_getElem? (i := 1312) (by decide +kernel), List.mem_of_getElem? (i := 1808) (by decide +kernel), List.mem_of_getElem? (i := 1809) (by decide +kernel)⟩
theorem lw_p108 : lw_okq (⟨"StoneHomeModel", "bestOf", "(II)I"⟩, 70) := ⟨⟨by decide +kernel, by decide +kernel⟩, List.mem_of_getElem? (i := 1312) (by decide +kernel), List.mem_of_getElem? (i := 1812) (by decide +kernel), List.mem_of_getElem? (i := 1813) (by decide +kernel)⟩
theorem lw_p109 : lw_okq (⟨"StoneHomeModel", "valueOf", "(III)I"⟩, 70) := ⟨⟨by decide +kernel, by decide +kernel⟩, List.mem_of_getElem? (i := 1312) (by decide +kernel), List.mem_of_getElem? (i := 1816) (by decide +kernel), List.mem_of_getElem? (i := 1817) (by decide +kernel)⟩
theorem lw_p110 : lw_okq (⟨"StoneHomeModel", "isRule", "(II)Z"⟩, 70) := ⟨⟨by decide +kernel, by decide +kernel⟩, List.mem_of_getElem? (i := 1312) (by decide +kernel), List.mem_of_getElem? (i := 1843) (by decide +kernel), List.mem_of_getElem? (i := 1844) (by decide +kernel)⟩
theorem lw_p111 : lw_okq (⟨"StoneHomeModel", "spreads", "(II)V"⟩, 70) := ⟨⟨by decide +kernel, by decide +kernel⟩, List.mem_of_getElem? (i := 1312) (by decide +kernel), List.mem_of_getElem? (i := 1851) (by decide +kernel), List.mem_of_getElem? (i := 1852) (by decide +kernel)⟩
def lw_privs_7 : List (MethodName × Nat) := [(⟨"StoneHomeModel", "isOver", "()Z"⟩, 70), (⟨"StoneHomeModel", "canKick", "(II)Z"⟩, 70), (⟨"StoneHomeModel", "brought", "(IIII)I"⟩, 70), (⟨"StoneHomeModel", "comesTo", "(IZ)I"⟩, 70), (⟨"StoneHomeModel", "copies", "()V"⟩, 70), (⟨"StoneHomeModel", "keeps", "()V"⟩, 70), (⟨"StoneHomeModel", "waited", "(II)I"⟩, 70), (⟨"StoneHomeModel", "touched", "(II)I"⟩, 70), (⟨"StoneHomeModel", "fills", "(I)V"⟩, 70), (⟨"StoneHomeModel", "fillsFrom", "(IIII)V"⟩, 70), (⟨"StoneHomeModel", "isSquare", "(I)Z"⟩, 70), (⟨"StoneHomeModel", "earlier", "(III)V"⟩, 70), (⟨"StoneHomeModel", "bestOf", "(II)I"⟩, 70), (⟨"StoneHomeModel", "valueOf", "(III)I"⟩, 70), (⟨"StoneHomeModel", "isRule", "(II)Z"⟩, 70), (⟨"StoneHomeModel", "spreads", "(II)V"⟩, 70)]
theorem lw_r7 : ∀ q ∈ lw_privs_7, lw_okq q := List.forall_mem_cons.mpr ⟨lw_p96, List.forall_mem_cons.mpr ⟨lw_p97, List.forall_mem_cons.mpr ⟨lw_p98, List.forall_mem_cons.mpr ⟨lw_p99, List.forall_mem_cons.mpr ⟨lw_p100, List.forall_mem_cons.mpr ⟨lw_p101, List.forall_mem_cons.mpr ⟨lw_p102, List.forall_mem_cons.mpr ⟨lw_p103, List.forall_mem_cons.mpr ⟨lw_p104, List.forall_mem_cons.mpr ⟨lw_p105, List.forall_mem_cons.mpr ⟨lw_p106, List.forall_mem_cons.mpr ⟨lw_p107, List.forall_mem_cons.mpr ⟨lw_p108, List.forall_mem_cons.mpr ⟨lw_p109, List.forall_mem_cons.mpr ⟨lw_p110, List.forall_mem_cons.mpr ⟨lw_p111, fun _ h => absurd h List.not_mem_nil⟩⟩⟩⟩⟩⟩⟩⟩⟩⟩⟩⟩⟩⟩⟩⟩
theorem lw_p112 : lw_okq (⟨"StoneHomeModel", "spreadsOne", "(III)V"⟩, 70) := ⟨⟨by decide +kernel, by decide +kernel⟩, List.mem_of_getElem? (i := 1312) (by decide +kernel), List.mem_of_getElem? (i := 1855) (by decide +kernel), List.mem_of_getElem? (i := 1856) (by decide +kernel)⟩
theorem lw_p113 : lw_okq (⟨"StoneHomeModel", "fillsCameTo", "(I)V"⟩, 70) := ⟨⟨by decide +kernel, by decide +kernel⟩, List.mem_of_getElem? (i := 1312) (by decide +kernel), List.mem_of_getElem? (i := 1887) (by decide +kernel), List.mem_of_getElem? (i := 1888) (by decide +kernel)⟩
theorem lw_p114 : lw_okq (⟨"StoneHomeModel", "isLone", "(I)Z"⟩, 70) := ⟨⟨by decide +kernel, by decide +kernel⟩, List.mem_of_getElem? (i := 1312) (by decide +kernel), List.mem_of_getElem? (i := 1891) (by decide +kernel), List.mem_of_getElem? (i := 1892) (by decide +kernel)⟩
theorem lw_p115 : lw_okq (⟨"StoneHomeModel", "pairOf", "(IIZI)I"⟩, 70) := ⟨⟨by decide +kernel, by decide +kernel⟩, List.mem_of_getElem? (i := 1312) (by decide +kernel), List.mem_of_getElem? (i := 1895) (by decide +kernel), List.mem_of_getElem? (i := 1896) (by decide +kernel)⟩
theorem lw_p116 : lw_okq (⟨"StoneHomeModel", "pairBy", "(IIZI)I"⟩, 70) := ⟨⟨by decide +kernel, by decide +kernel⟩, List.mem_of_getElem? (i := 1312) (by decide +kernel), List.mem_of_getElem? (i := 1899) (by decide +kernel), List.mem_of_getElem? (i := 1900) (by decide +kernel)⟩
theorem lw_p117 : lw_okq (⟨"StoneHomeModel", "fitting", "(II)I"⟩, 70) := ⟨⟨by decide +kernel, by decide +kernel⟩, List.mem_of_getElem? (i := 1312) (by decide +kernel), List.mem_of_getElem? (i := 1915) (by decide +kernel), List.mem_of_getElem? (i := 1916) (by decide +kernel)⟩
theorem lw_p118 : lw_okq (⟨"StoneHomeModel", "oftenBy", "(II)I"⟩, 70) := ⟨⟨by decide +kernel, by decide +kernel⟩, List.mem_of_getElem? (i := 1312) (by decide +kernel), List.mem_of_getElem? (i := 1919) (by decide +kernel), List.mem_of_getElem? (i := 1920) (by decide +kernel)⟩
theorem lw_p119 : lw_okq (⟨"StoneHomeModel", "scratches", "(II)V"⟩, 70) := ⟨⟨by decide +kernel, by decide +kernel⟩, List.mem_of_getElem? (i := 1312) (by decide +kernel), List.mem_of_getElem? (i := 1923) (by decide +kernel), List.mem_of_getElem? (i := 1924) (by decide +kernel)⟩
def lw_privs_8 : List (MethodName × Nat) := [(⟨"StoneHomeModel", "spreadsOne", "(III)V"⟩, 70), (⟨"StoneHomeModel", "fillsCameTo", "(I)V"⟩, 70), (⟨"StoneHomeModel", "isLone", "(I)Z"⟩, 70), (⟨"StoneHomeModel", "pairOf", "(IIZI)I"⟩, 70), (⟨"StoneHomeModel", "pairBy", "(IIZI)I"⟩, 70), (⟨"StoneHomeModel", "fitting", "(II)I"⟩, 70), (⟨"StoneHomeModel", "oftenBy", "(II)I"⟩, 70), (⟨"StoneHomeModel", "scratches", "(II)V"⟩, 70)]
theorem lw_r8 : ∀ q ∈ lw_privs_8, lw_okq q := List.forall_mem_cons.mpr ⟨lw_p112, List.forall_mem_cons.mpr ⟨lw_p113, List.forall_mem_cons.mpr ⟨lw_p114, List.forall_mem_cons.mpr ⟨lw_p115, List.forall_mem_cons.mpr ⟨lw_p116, List.forall_mem_cons.mpr ⟨lw_p117, List.forall_mem_cons.mpr ⟨lw_p118, List.forall_mem_cons.mpr ⟨lw_p119, fun _ h => absurd h List.not_mem_nil⟩⟩⟩⟩⟩⟩⟩⟩
def lw_privs : List (MethodName × Nat) := lw_privs_1 ++ (lw_privs_2 ++ (lw_privs_3 ++ (lw_privs_4 ++ (lw_privs_5 ++ (lw_privs_6 ++ (lw_privs_7 ++ (lw_privs_8)))))))
def lw_tbl : List Cond := k2_sels lw_privs ++ tables_1
theorem lw_privs_ok : ∀ q ∈ lw_privs, lw_okq q := by
  show ∀ q ∈ lw_privs_1 ++ (lw_privs_2 ++ (lw_privs_3 ++ (lw_privs_4 ++ (lw_privs_5 ++ (lw_privs_6 ++ (lw_privs_7 ++ (lw_privs_8))))))), lw_okq q
  exact List.forall_mem_append.mpr ⟨lw_r1, List.forall_mem_append.mpr ⟨lw_r2, List.forall_mem_append.mpr ⟨lw_r3, List.forall_mem_append.mpr ⟨lw_r4, List.forall_mem_append.mpr ⟨lw_r5, List.forall_mem_append.mpr ⟨lw_r6, List.forall_mem_append.mpr ⟨lw_r7, lw_r8⟩⟩⟩⟩⟩⟩⟩
-- ===== end of PART A; then your names; then what follows =====
end
section
def RX0 : String := "StoneHome$Forecast"
def TX0 : u_T := fun k => match k with
  | 0 => ("StoneHome$Forecast", "table", "LStoneHome$Table;", true)
  | 1 => ("StoneHome$Forecast", "street", "LStoneHome$Street;", false)
  | 2 => ("StoneHome$Forecast", "chances", "[I", false)
  | 3 => ("StoneHome$Forecast", "later", "[I", false)
  | 4 => ("StoneHome$Forecast", "isReady", "Z", false)
  | 5 => ("StoneHome$Forecast", "readyStep", "I", false)
  | 6 => ("StoneHome$Forecast", "readySteps", "I", false)
  | 7 => ("StoneHome$Forecast", "readyRule", "I", false)
  | _ => ("StoneHome$Forecast", "readyGoal", "I", false)
def tyX0 : Nat → FieldType := fun k => match k with
  | 0 => .object "StoneHome$Table"
  | 1 => .object "StoneHome$Street"
  | 2 => .array .int
  | 3 => .array .int
  | 4 => .boolean
  | 5 => .int
  | 6 => .int
  | 7 => .int
  | _ => .int
abbrev wsX00 : List Cond := u_ws RX0 TX0 9
theorem nmX0 : ∀ a, a < 9 → ∀ b, b < 9 → a ≠ b → (TX0 a).2.1 ≠ (TX0 b).2.1 := by decide +kernel
theorem tyX0_ok : ∀ k, k < 9 → parseFieldDescriptor (TX0 k).2.2.1 = some (tyX0 k) := by decide +kernel
def RX1 : String := "StoneHome$Laws"
def TX1 : u_T := fun k => match k with
  | 0 => ("StoneHome$Laws", "steps", "[I", true)
  | 1 => ("StoneHome$Laws", "size", "I", false)
  | 2 => ("StoneHome$Laws", "starts", "[I", true)
  | 3 => ("StoneHome$Laws", "timed", "I", false)
  | 4 => ("StoneHome$Laws", "waiting", "[I", true)
  | 5 => ("StoneHome$Laws", "waitingSize", "I", false)
  | 6 => ("StoneHome$Laws", "facts", "[I", true)
  | _ => ("StoneHome$Laws", "stack", "[I", true)
def tyX1 : Nat → FieldType := fun k => match k with
  | 0 => .array .int
  | 1 => .int
  | 2 => .array .int
  | 3 => .int
  | 4 => .array .int
  | 5 => .int
  | 6 => .array .int
  | _ => .array .int
abbrev wsX10 : List Cond := u_ws RX1 TX1 8
theorem nmX1 : ∀ a, a < 8 → ∀ b, b < 8 → a ≠ b → (TX1 a).2.1 ≠ (TX1 b).2.1 := by decide +kernel
theorem tyX1_ok : ∀ k, k < 8 → parseFieldDescriptor (TX1 k).2.2.1 = some (tyX1 k) := by decide +kernel
def RX2 : String := "StoneHome$Past"
def TX2 : u_T := fun k => match k with
  | 0 => ("StoneHome$Past", "ring", "[LStoneHome$Stone;", true)
  | 1 => ("StoneHome$Past", "next", "I", false)
  | _ => ("StoneHome$Past", "size", "I", false)
def tyX2 : Nat → FieldType := fun k => match k with
  | 0 => .array (.object "StoneHome$Stone")
  | 1 => .int
  | _ => .int
abbrev wsX20 : List Cond := u_ws RX2 TX2 3
theorem nmX2 : ∀ a, a < 3 → ∀ b, b < 3 → a ≠ b → (TX2 a).2.1 ≠ (TX2 b).2.1 := by decide +kernel
theorem tyX2_ok : ∀ k, k < 3 → parseFieldDescriptor (TX2 k).2.2.1 = some (tyX2 k) := by decide +kernel
def RX3 : String := "StoneHome$Race"
def TX3 : u_T := fun k => match k with
  | 0 => ("StoneHome$Race", "table", "LStoneHome$Table;", true)
  | 1 => ("StoneHome$Race", "street", "LStoneHome$Street;", false)
  | 2 => ("StoneHome$Race", "odds", "[I", true)
  | 3 => ("StoneHome$Race", "line", "[I", true)
  | 4 => ("StoneHome$Race", "mySoonest", "[I", true)
  | _ => ("StoneHome$Race", "hisSoonest", "[I", true)
def tyX3 : Nat → FieldType := fun k => match k with
  | 0 => .object "StoneHome$Table"
  | 1 => .object "StoneHome$Street"
  | 2 => .array .int
  | 3 => .array .int
  | 4 => .array .int
  | _ => .array .int
abbrev wsX30 : List Cond := u_ws RX3 TX3 6
theorem nmX3 : ∀ a, a < 6 → ∀ b, b < 6 → a ≠ b → (TX3 a).2.1 ≠ (TX3 b).2.1 := by decide +kernel
theorem tyX3_ok : ∀ k, k < 6 → parseFieldDescriptor (TX3 k).2.2.1 = some (tyX3 k) := by decide +kernel
def RX4 : String := "StoneHome$Reader"
def TX4 : u_T := fun k => match k with
  | 0 => ("StoneHome$Reader", "tokens", "LStoneHome$Tokens;", true)
  | 1 => ("StoneHome$Reader", "street", "LStoneHome$Street;", false)
  | 2 => ("StoneHome$Reader", "taken", "I", false)
  | 3 => ("StoneHome$Reader", "kind", "I", false)
  | 4 => ("StoneHome$Reader", "from", "I", false)
  | 5 => ("StoneHome$Reader", "number", "I", false)
  | 6 => ("StoneHome$Reader", "law", "I", false)
  | 7 => ("StoneHome$Reader", "kickNames", "[J", true)
  | 8 => ("StoneHome$Reader", "fault", "I", false)
  | 9 => ("StoneHome$Reader", "faultAt", "I", false)
  | 10 => ("StoneHome$Reader", "lateFault", "I", false)
  | _ => ("StoneHome$Reader", "lateAt", "I", false)
def tyX4 : Nat → FieldType := fun k => match k with
  | 0 => .object "StoneHome$Tokens"
  | 1 => .object "StoneHome$Street"
  | 2 => .int
  | 3 => .int
  | 4 => .int
  | 5 => .int
  | 6 => .int
  | 7 => .array .long
  | 8 => .int
  | 9 => .int
  | 10 => .int
  | _ => .int
abbrev wsX40 : List Cond := u_ws RX4 TX4 12
theorem nmX4 : ∀ a, a < 12 → ∀ b, b < 12 → a ≠ b → (TX4 a).2.1 ≠ (TX4 b).2.1 := by decide +kernel
theorem tyX4_ok : ∀ k, k < 12 → parseFieldDescriptor (TX4 k).2.2.1 = some (tyX4 k) := by decide +kernel
def RX5 : String := "StoneHome$Scratches"
def TX5 : u_T := fun k => match k with
  | 0 => ("StoneHome$Scratches", "squares", "[I", true)
  | 1 => ("StoneHome$Scratches", "told", "I", false)
  | 2 => ("StoneHome$Scratches", "ways", "[I", true)
  | 3 => ("StoneHome$Scratches", "kicks", "I", false)
  | 4 => ("StoneHome$Scratches", "startSide", "I", false)
  | 5 => ("StoneHome$Scratches", "sides", "[I", true)
  | _ => ("StoneHome$Scratches", "sidesBehind", "[I", true)
def tyX5 : Nat → FieldType := fun k => match k with
  | 0 => .array .int
  | 1 => .int
  | 2 => .array .int
  | 3 => .int
  | 4 => .int
  | 5 => .array .int
  | _ => .array .int
abbrev wsX50 : List Cond := u_ws RX5 TX5 7
theorem nmX5 : ∀ a, a < 7 → ∀ b, b < 7 → a ≠ b → (TX5 a).2.1 ≠ (TX5 b).2.1 := by decide +kernel
theorem tyX5_ok : ∀ k, k < 7 → parseFieldDescriptor (TX5 k).2.2.1 = some (tyX5 k) := by decide +kernel
def RX6 : String := "StoneHome$Stone"
def TX6 : u_T := fun k => match k with
  | 0 => ("StoneHome$Stone", "square", "I", false)
  | 1 => ("StoneHome$Stone", "side", "I", false)
  | 2 => ("StoneHome$Stone", "lives", "I", false)
  | 3 => ("StoneHome$Stone", "livesLost", "I", false)
  | 4 => ("StoneHome$Stone", "done", "I", false)
  | 5 => ("StoneHome$Stone", "touches", "I", false)
  | 6 => ("StoneHome$Stone", "state", "I", false)
  | _ => ("StoneHome$Stone", "isHeld", "Z", false)
def tyX6 : Nat → FieldType := fun k => match k with
  | 0 => .int
  | 1 => .int
  | 2 => .int
  | 3 => .int
  | 4 => .int
  | 5 => .int
  | 6 => .int
  | _ => .boolean
abbrev wsX60 : List Cond := u_ws RX6 TX6 8
theorem nmX6 : ∀ a, a < 8 → ∀ b, b < 8 → a ≠ b → (TX6 a).2.1 ≠ (TX6 b).2.1 := by decide +kernel
theorem tyX6_ok : ∀ k, k < 8 → parseFieldDescriptor (TX6 k).2.2.1 = some (tyX6 k) := by decide +kernel
def RX7 : String := "StoneHome$Street"
def TX7 : u_T := fun k => match k with
  | 0 => ("StoneHome$Street", "length", "I", false)
  | 1 => ("StoneHome$Street", "rows", "I", false)
  | 2 => ("StoneHome$Street", "sorts", "[I", true)
  | 3 => ("StoneHome$Street", "faces", "I", false)
  | 4 => ("StoneHome$Street", "kicks", "I", false)
  | 5 => ("StoneHome$Street", "outcomes", "[I", true)
  | 6 => ("StoneHome$Street", "sixths", "[I", true)
  | 7 => ("StoneHome$Street", "far", "[I", true)
  | 8 => ("StoneHome$Street", "aside", "[I", true)
  | 9 => ("StoneHome$Street", "turns", "[I", true)
  | 10 => ("StoneHome$Street", "laws", "LStoneHome$Laws;", true)
  | 11 => ("StoneHome$Street", "stoneSpot", "[I", true)
  | 12 => ("StoneHome$Street", "friendSpot", "[I", true)
  | 13 => ("StoneHome$Street", "lives", "I", false)
  | 14 => ("StoneHome$Street", "takes", "I", false)
  | _ => ("StoneHome$Street", "seed", "I", false)
def tyX7 : Nat → FieldType := fun k => match k with
  | 0 => .int
  | 1 => .int
  | 2 => .array .int
  | 3 => .int
  | 4 => .int
  | 5 => .array .int
  | 6 => .array .int
  | 7 => .array .int
  | 8 => .array .int
  | 9 => .array .int
  | 10 => .object "StoneHome$Laws"
  | 11 => .array .int
  | 12 => .array .int
  | 13 => .int
  | 14 => .int
  | _ => .int
abbrev wsX70 : List Cond := u_ws RX7 TX7 16
theorem nmX7 : ∀ a, a < 16 → ∀ b, b < 16 → a ≠ b → (TX7 a).2.1 ≠ (TX7 b).2.1 := by decide +kernel
theorem tyX7_ok : ∀ k, k < 16 → parseFieldDescriptor (TX7 k).2.2.1 = some (tyX7 k) := by decide +kernel
def RX8 : String := "StoneHome$Table"
def TX8 : u_T := fun k => match k with
  | 0 => ("StoneHome$Table", "street", "LStoneHome$Street;", false)
  | 1 => ("StoneHome$Table", "rows", "[[I", true)
  | 2 => ("StoneHome$Table", "steps", "[I", true)
  | 3 => ("StoneHome$Table", "landings", "[I", false)
  | 4 => ("StoneHome$Table", "lies", "[I", true)
  | 5 => ("StoneHome$Table", "openLies", "I", false)
  | _ => ("StoneHome$Table", "allLies", "I", false)
def tyX8 : Nat → FieldType := fun k => match k with
  | 0 => .object "StoneHome$Street"
  | 1 => .array (.array .int)
  | 2 => .array .int
  | 3 => .array .int
  | 4 => .array .int
  | 5 => .int
  | _ => .int
abbrev wsX80 : List Cond := u_ws RX8 TX8 7
theorem nmX8 : ∀ a, a < 7 → ∀ b, b < 7 → a ≠ b → (TX8 a).2.1 ≠ (TX8 b).2.1 := by decide +kernel
theorem tyX8_ok : ∀ k, k < 7 → parseFieldDescriptor (TX8 k).2.2.1 = some (tyX8 k) := by decide +kernel
def RX9 : String := "StoneHome$Tokens"
def TX9 : u_T := fun k => match k with
  | 0 => ("StoneHome$Tokens", "kinds", "[I", true)
  | 1 => ("StoneHome$Tokens", "places", "[I", true)
  | 2 => ("StoneHome$Tokens", "numbers", "[I", true)
  | 3 => ("StoneHome$Tokens", "text", "[B", true)
  | 4 => ("StoneHome$Tokens", "size", "I", false)
  | 5 => ("StoneHome$Tokens", "at", "I", false)
  | 6 => ("StoneHome$Tokens", "kind", "I", false)
  | _ => ("StoneHome$Tokens", "number", "I", false)
def tyX9 : Nat → FieldType := fun k => match k with
  | 0 => .array .int
  | 1 => .array .int
  | 2 => .array .int
  | 3 => .array .byte
  | 4 => .int
  | 5 => .int
  | 6 => .int
  | _ => .int
abbrev wsX90 : List Cond := u_ws RX9 TX9 8
theorem nmX9 : ∀ a, a < 8 → ∀ b, b < 8 → a ≠ b → (TX9 a).2.1 ≠ (TX9 b).2.1 := by decide +kernel
theorem tyX9_ok : ∀ k, k < 8 → parseFieldDescriptor (TX9 k).2.2.1 = some (tyX9 k) := by decide +kernel
def RX10 : String := "StoneHome"
def TX10 : u_T := fun k => match k with
  | 0 => ("StoneHome", "tape", "[B", true)
  | 1 => ("StoneHome", "tapeSize", "I", false)
  | 2 => ("StoneHome", "faultPlace", "I", false)
  | 3 => ("StoneHome", "street", "LStoneHome$Street;", false)
  | 4 => ("StoneHome", "spare", "LStoneHome$Street;", false)
  | 5 => ("StoneHome", "reader", "LStoneHome$Reader;", true)
  | 6 => ("StoneHome", "stone", "LStoneHome$Stone;", true)
  | 7 => ("StoneHome", "past", "LStoneHome$Past;", true)
  | 8 => ("StoneHome", "slots", "[LStoneHome$Stone;", true)
  | 9 => ("StoneHome", "table", "LStoneHome$Table;", true)
  | 10 => ("StoneHome", "forecast", "LStoneHome$Forecast;", true)
  | 11 => ("StoneHome", "race", "LStoneHome$Race;", true)
  | _ => ("StoneHome", "scratches", "LStoneHome$Scratches;", true)
def tyX10 : Nat → FieldType := fun k => match k with
  | 0 => .array .byte
  | 1 => .int
  | 2 => .int
  | 3 => .object "StoneHome$Street"
  | 4 => .object "StoneHome$Street"
  | 5 => .object "StoneHome$Reader"
  | 6 => .object "StoneHome$Stone"
  | 7 => .object "StoneHome$Past"
  | 8 => .array (.object "StoneHome$Stone")
  | 9 => .object "StoneHome$Table"
  | 10 => .object "StoneHome$Forecast"
  | 11 => .object "StoneHome$Race"
  | _ => .object "StoneHome$Scratches"
abbrev wsX100 : List Cond := u_ws RX10 TX10 13
theorem nmX10 : ∀ a, a < 13 → ∀ b, b < 13 → a ≠ b → (TX10 a).2.1 ≠ (TX10 b).2.1 := by decide +kernel
theorem tyX10_ok : ∀ k, k < 13 → parseFieldDescriptor (TX10 k).2.2.1 = some (tyX10 k) := by decide +kernel
def RX11 : String := "StoneHomeModel"
def TX11 : u_T := fun k => match k with
  | 0 => ("StoneHomeModel", "thrown", "I", false)
  | 1 => ("StoneHomeModel", "tape", "[B", true)
  | 2 => ("StoneHomeModel", "taped", "I", false)
  | 3 => ("StoneHomeModel", "text", "[B", true)
  | 4 => ("StoneHomeModel", "size", "I", false)
  | 5 => ("StoneHomeModel", "tKind", "[I", true)
  | 6 => ("StoneHomeModel", "tPlace", "[I", true)
  | 7 => ("StoneHomeModel", "tValue", "[I", true)
  | 8 => ("StoneHomeModel", "tName", "[J", true)
  | 9 => ("StoneHomeModel", "keys", "[J", true)
  | 10 => ("StoneHomeModel", "tokens", "I", false)
  | 11 => ("StoneHomeModel", "t", "I", false)
  | 12 => ("StoneHomeModel", "open", "I", false)
  | 13 => ("StoneHomeModel", "fault", "I", false)
  | 14 => ("StoneHomeModel", "faultPlace", "I", false)
  | 15 => ("StoneHomeModel", "worst", "I", false)
  | 16 => ("StoneHomeModel", "worstPlace", "I", false)
  | 17 => ("StoneHomeModel", "place", "I", false)
  | 18 => ("StoneHomeModel", "live", "I", false)
  | 19 => ("StoneHomeModel", "side", "I", false)
  | 20 => ("StoneHomeModel", "names", "I", false)
  | 21 => ("StoneHomeModel", "nameOf", "[J", true)
  | 22 => ("StoneHomeModel", "rows", "[I", true)
  | 23 => ("StoneHomeModel", "wide", "[I", true)
  | 24 => ("StoneHomeModel", "squareOf", "[I", true)
  | 25 => ("StoneHomeModel", "faces", "[I", true)
  | 26 => ("StoneHomeModel", "kicks", "[I", true)
  | 27 => ("StoneHomeModel", "outcomes", "[I", true)
  | 28 => ("StoneHomeModel", "sixths", "[I", true)
  | 29 => ("StoneHomeModel", "byAlong", "[I", true)
  | 30 => ("StoneHomeModel", "byAcross", "[I", true)
  | 31 => ("StoneHomeModel", "turns", "[I", true)
  | 32 => ("StoneHomeModel", "stone", "[I", true)
  | 33 => ("StoneHomeModel", "friend", "[I", true)
  | 34 => ("StoneHomeModel", "livesTold", "[I", true)
  | 35 => ("StoneHomeModel", "takes", "[I", true)
  | 36 => ("StoneHomeModel", "seed", "[I", true)
  | 37 => ("StoneHomeModel", "lawFirst", "[I", true)
  | 38 => ("StoneHomeModel", "lawLast", "[I", true)
  | 39 => ("StoneHomeModel", "branches", "I", false)
  | 40 => ("StoneHomeModel", "hasTest", "[Z", true)
  | 41 => ("StoneHomeModel", "testFrom", "[I", true)
  | 42 => ("StoneHomeModel", "testMid", "[I", true)
  | 43 => ("StoneHomeModel", "testTo", "[I", true)
  | 44 => ("StoneHomeModel", "termTo", "[I", true)
  | 45 => ("StoneHomeModel", "codes", "I", false)
  | 46 => ("StoneHomeModel", "code", "[I", true)
  | 47 => ("StoneHomeModel", "codeInt", "[I", true)
  | 48 => ("StoneHomeModel", "waits", "[I", true)
  | 49 => ("StoneHomeModel", "waiting", "I", false)
  | 50 => ("StoneHomeModel", "variables", "[I", true)
  | 51 => ("StoneHomeModel", "pile", "[I", true)
  | 52 => ("StoneHomeModel", "isBroken", "Z", false)
  | 53 => ("StoneHomeModel", "now", "[I", true)
  | 54 => ("StoneHomeModel", "row", "[I", true)
  | 55 => ("StoneHomeModel", "isLosing", "Z", false)
  | 56 => ("StoneHomeModel", "chance", "[I", true)
  | 57 => ("StoneHomeModel", "chanceThen", "[I", true)
  | 58 => ("StoneHomeModel", "undos", "I", false)
  | 59 => ("StoneHomeModel", "history", "[I", true)
  | 60 => ("StoneHomeModel", "pair", "[I", true)
  | 61 => ("StoneHomeModel", "pairThen", "[I", true)
  | 62 => ("StoneHomeModel", "cameTo", "[I", true)
  | 63 => ("StoneHomeModel", "told", "I", false)
  | 64 => ("StoneHomeModel", "toldAlong", "[I", true)
  | 65 => ("StoneHomeModel", "toldAcross", "[I", true)
  | 66 => ("StoneHomeModel", "byFace", "[I", true)
  | 67 => ("StoneHomeModel", "byFaceThen", "[I", true)
  | 68 => ("StoneHomeModel", "isHeld", "[Z", true)
  | _ => ("StoneHomeModel", "heldRows", "[I", true)
def tyX11 : Nat → FieldType := fun k => match k with
  | 0 => .int
  | 1 => .array .byte
  | 2 => .int
  | 3 => .array .byte
  | 4 => .int
  | 5 => .array .int
  | 6 => .array .int
  | 7 => .array .int
  | 8 => .array .long
  | 9 => .array .long
  | 10 => .int
  | 11 => .int
  | 12 => .int
  | 13 => .int
  | 14 => .int
  | 15 => .int
  | 16 => .int
  | 17 => .int
  | 18 => .int
  | 19 => .int
  | 20 => .int
  | 21 => .array .long
  | 22 => .array .int
  | 23 => .array .int
  | 24 => .array .int
  | 25 => .array .int
  | 26 => .array .int
  | 27 => .array .int
  | 28 => .array .int
  | 29 => .array .int
  | 30 => .array .int
  | 31 => .array .int
  | 32 => .array .int
  | 33 => .array .int
  | 34 => .array .int
  | 35 => .array .int
  | 36 => .array .int
  | 37 => .array .int
  | 38 => .array .int
  | 39 => .int
  | 40 => .array .boolean
  | 41 => .array .int
  | 42 => .array .int
  | 43 => .array .int
  | 44 => .array .int
  | 45 => .int
  | 46 => .array .int
  | 47 => .array .int
  | 48 => .array .int
  | 49 => .int
  | 50 => .array .int
  | 51 => .array .int
  | 52 => .boolean
  | 53 => .array .int
  | 54 => .array .int
  | 55 => .boolean
  | 56 => .array .int
  | 57 => .array .int
  | 58 => .int
  | 59 => .array .int
  | 60 => .array .int
  | 61 => .array .int
  | 62 => .array .int
  | 63 => .int
  | 64 => .array .int
  | 65 => .array .int
  | 66 => .array .int
  | 67 => .array .int
  | 68 => .array .boolean
  | _ => .array .int
abbrev wsX110 : List Cond := u_ws RX11 TX11 70
theorem nmX11 : ∀ a, a < 70 → ∀ b, b < 70 → a ≠ b → (TX11 a).2.1 ≠ (TX11 b).2.1 := by decide +kernel
theorem tyX11_ok : ∀ k, k < 70 → parseFieldDescriptor (TX11 k).2.2.1 = some (tyX11 k) := by decide +kernel
def RJ11 : String := "java/lang/Character"
def RJ9 : String := "java/lang/Math"
def RJ0 : String := "java/lang/String"
def RJ1 : String := "java/lang/StringLatin1"
def RJ2 : String := "java/lang/StringUTF16"
def RJ10 : String := "java/lang/System"
def RJ7 : String := "java/util/Arrays"
def RJ3 : String := "jdk/internal/util/Preconditions"
def RL : String := "StoneHomeLaw"
abbrev am_cl : List vw_C := [(RX0, TX0, 9), (RX1, TX1, 8), (RX2, TX2, 3), (RX3, TX3, 6), (RX4, TX4, 12), (RX5, TX5, 7), (RX6, TX6, 8), (RX7, TX7, 16), (RX8, TX8, 7), (RX9, TX9, 8), (RX10, TX10, 13), (RX11, TX11, 70)]
/-- a class' name by its number -/
def am_cn : Nat → String
  | 0 => RX0 | 1 => RX1 | 2 => RX2 | 3 => RX3 | 4 => RX4 | 5 => RX5 | 6 => RX6 | 7 => RX7 | 8 => RX8 | 9 => RX9 | 10 => RX10 | 11 => RX11
  | 12 => RL | 13 => RJ7 | 14 => RJ9 | 15 => RJ0 | _ => RJ1
/-- how many fields, and of which types -/
def am_nf : Nat → Nat
  | 0 => 9 | 1 => 8 | 2 => 3 | 3 => 6 | 4 => 12 | 5 => 7 | 6 => 8 | 7 => 16 | 8 => 7 | 9 => 8 | 10 => 13 | 11 => 70 | _ => 0
def am_ft : Nat → Nat → FieldType
  | 0 => tyX0 | 1 => tyX1 | 2 => tyX2 | 3 => tyX3 | 4 => tyX4 | 5 => tyX5 | 6 => tyX6 | 7 => tyX7 | 8 => tyX8 | 9 => tyX9 | 10 => tyX10 | _ => tyX11
def am_tb : Nat → u_T
  | 0 => TX0 | 1 => TX1 | 2 => TX2 | 3 => TX3 | 4 => TX4 | 5 => TX5 | 6 => TX6 | 7 => TX7 | 8 => TX8 | 9 => TX9 | 10 => TX10 | _ => TX11
/-- an object's fields as they are born -/
def am_df (c : Nat) : List Value := (List.range (am_nf c)).map (fun k => defaultValue (am_ft c k))
theorem am_clAt : ∀ c, c < 12 → am_cl[c]? = some (am_cn c, am_tb c, am_nf c) := by
  intro c hc
  rcases (show c = 0 ∨ c = 1 ∨ c = 2 ∨ c = 3 ∨ c = 4 ∨ c = 5 ∨ c = 6 ∨ c = 7 ∨ c = 8 ∨ c = 9 ∨ c = 10 ∨ c = 11 by omega) with h | h | h | h | h | h | h | h | h | h | h | h <;> subst h <;> rfl
theorem am_nmAt : ∀ c, c < 12 → ∀ a, a < am_nf c → ∀ b, b < am_nf c → a ≠ b → (am_tb c a).2.1 ≠ (am_tb c b).2.1 := by
  intro c hc
  rcases (show c = 0 ∨ c = 1 ∨ c = 2 ∨ c = 3 ∨ c = 4 ∨ c = 5 ∨ c = 6 ∨ c = 7 ∨ c = 8 ∨ c = 9 ∨ c = 10 ∨ c = 11 by omega) with h | h | h | h | h | h | h | h | h | h | h | h <;> subst h
  · exact nmX0
  · exact nmX1
  · exact nmX2
  · exact nmX3
  · exact nmX4
  · exact nmX5
  · exact nmX6
  · exact nmX7
  · exact nmX8
  · exact nmX9
  · exact nmX10
  · exact nmX11
theorem am_tyAt : ∀ c, c < 12 → ∀ k, k < am_nf c → parseFieldDescriptor (am_tb c k).2.2.1 = some (am_ft c k) := by
  intro c hc
  rcases (show c = 0 ∨ c = 1 ∨ c = 2 ∨ c = 3 ∨ c = 4 ∨ c = 5 ∨ c = 6 ∨ c = 7 ∨ c = 8 ∨ c = 9 ∨ c = 10 ∨ c = 11 by omega) with h | h | h | h | h | h | h | h | h | h | h | h <;> subst h
  · exact tyX0_ok
  · exact tyX1_ok
  · exact tyX2_ok
  · exact tyX3_ok
  · exact tyX4_ok
  · exact tyX5_ok
  · exact tyX6_ok
  · exact tyX7_ok
  · exact tyX8_ok
  · exact tyX9_ok
  · exact tyX10_ok
  · exact tyX11_ok
end
section
/-! ===== THE ABSTRACT MACHINE: the instructions that the class, the reference and the law use, over a heap by places; am_run is a function; part 04 shows that the JVM does what it says ===== -/
/-- a cell: an object (class, fields), or an array (0 int, 1 byte, 2 boolean, 3 long, 4 stones, 5 int rows; length; contents); a reference is a place -/
abbrev am_C : Type := (Nat × List Value) ⊕ (Nat × Nat × ((Nat → Int32) ⊕ (Nat → Int64) ⊕ (Nat → Option Nat)))
/-- a heap: how many places are taken, how many slots, what lies there. Places 0 to 7: the script, SIXES, three Strings, their bytes: they are never written -/
abbrev am_H : Type := Nat × Nat × (Nat → am_C)
/-- an instruction, the pc behind it, two numbers that it needs -/
abbrev am_I : Type := Instr × Nat × Nat × Nat
/-- a method: its class, its locals, what it returns (0 nothing, 1 int, 2 boolean, 3 char, 4 long, 5 byte), its instructions -/
abbrev am_M : Type := Nat × Nat × Nat × List (Nat × am_I)
abbrev am_S : Type := Nat × List (Option Value) × List Value × am_H
abbrev am_O : Type := Option (am_S ⊕ (Option Value) ⊕ (Nat × List Value × am_S))
def am_at : List (Nat × am_I) → Nat → Option am_I
  | [], _ => none
  | q :: t, pc => bif Nat.beq q.1 pc then some q.2 else am_at t pc
def am_get : List (Option Value) → Nat → Option Value
  | [], _ => none
  | v :: _, 0 => v
  | _ :: t, n + 1 => am_get t n
def am_set : List (Option Value) → Nat → Option Value → List (Option Value)
  | [], _, _ => []
  | _ :: t, 0, v => v :: t
  | w :: t, n + 1, v => w :: am_set t n v
def am_isL : Option Value → Bool
  | some (.long _) => true
  | _ => false
def am_cut (ls : List (Option Value)) : Nat → List (Option Value)
  | 0 => ls
  | i + 1 => bif am_isL (am_get ls i) then am_set ls i none else ls
def am_st1 (ls : List (Option Value)) (i : Nat) (v : Value) : List (Option Value) := am_set (am_cut ls i) i (some v)
def am_st2 (ls : List (Option Value)) (i : Nat) (v : Value) : List (Option Value) := am_set (am_set (am_cut ls i) i (some v)) (i + 1) none
def am_ent0 : List Value → List (Option Value)
  | [] => []
  | .long x :: t => some (.long x) :: none :: am_ent0 t
  | .double _ :: t => none :: none :: am_ent0 t
  | v :: t => some v :: am_ent0 t
def am_pad : Nat → List (Option Value) → List (Option Value)
  | 0, _ => []
  | n + 1, [] => none :: am_pad n []
  | n + 1, v :: t => v :: am_pad n t
def am_ent (vs : List Value) (n : Nat) : List (Option Value) := am_pad n (am_ent0 vs)
def am_take : Nat → List Value → List Value → Option (List Value × List Value)
  | 0, acc, st => some (acc, st)
  | _ + 1, _, [] => none
  | n + 1, acc, v :: st => am_take n (v :: acc) st
def am_cat : List Value → Nat
  | [] => 0
  | .long _ :: t => 2 + am_cat t
  | .double _ :: t => 2 + am_cat t
  | _ :: t => 1 + am_cat t
def am_fit : Nat → Value → Bool
  | 0, .int _ => true
  | 1, .int x => x == 0 || x == 1
  | 2, .ref _ => true
  | 2, .null => true
  | _, _ => false
def am_cnd : ClassFile.Cond → Int32 → Int32 → Bool
  | .eq, x, y => decide (x = y)
  | .ne, x, y => decide (¬ x = y)
  | .lt, x, y => decide (x < y)
  | .ge, x, y => decide (y ≤ x)
  | .gt, x, y => decide (y < x)
  | .le, x, y => decide (x ≤ y)
def am_rt : Nat → Int32 → Bool
  | 1, _ => true
  | 2, x => x == 0 || x == 1
  | 3, x => decide (vp_nar .char x = x)
  | 5, x => decide (vp_nar .byte x = x)
  | _, _ => false
def am_ii (st : List Value) (k : Int32 → Int32 → List Value → am_O) : am_O := match st with
  | .int y :: .int x :: r => k x y r
  | _ => none
def am_i1 (st : List Value) (k : Int32 → List Value → am_O) : am_O := match st with
  | .int x :: r => k x r
  | _ => none
def am_ll (st : List Value) (k : Int64 → Int64 → List Value → am_O) : am_O := match st with
  | .long y :: .long x :: r => k x y r
  | _ => none
def am_l1 (st : List Value) (k : Int64 → List Value → am_O) : am_O := match st with
  | .long x :: r => k x r
  | _ => none
def am_r1 (st : List Value) (k : Nat → List Value → am_O) : am_O := match st with
  | .ref p :: r => k p r
  | _ => none
def am_ri (st : List Value) (k : Nat → Int32 → List Value → am_O) : am_O := match st with
  | .int j :: .ref p :: r => k p j r
  | _ => none
def am_cA (c : am_C) (ty : Nat) (k : Nat → (Nat → Int32) → am_O) : am_O := match c with
  | .inr (t, n, .inl f) => bif Nat.beq t ty then k n f else none
  | _ => none
def am_cL (c : am_C) (k : Nat → (Nat → Int64) → am_O) : am_O := match c with
  | .inr (t, n, .inr (.inl f)) => bif Nat.beq t 3 then k n f else none
  | _ => none
def am_cQ (c : am_C) (k : Nat → Nat → (Nat → Option Nat) → am_O) : am_O := match c with
  | .inr (t, n, .inr (.inr f)) => k t n f
  | _ => none
def am_cO (c : am_C) (k : Nat → List Value → am_O) : am_O := match c with
  | .inl (ci, fs) => k ci fs
  | _ => none
def am_ix (j : Int32) (n : Nat) (o : am_O) : am_O := if j < 0 ∨ n ≤ j.toNatClampNeg then none else o
def am_up (h : am_H) (p : Nat) (c : am_C) : am_H := (h.1, h.2.1, va_up h.2.2 p c)
def am_nw (h : am_H) (k : Nat) (c : am_C) : am_H := (h.1 + 1, h.2.1 + k, va_up h.2.2 h.1 c)
def am_z (ty n : Nat) : am_C := bif Nat.beq ty 3 then .inr (3, n, .inr (.inl (fun _ => 0))) else bif Nat.blt ty 3 then .inr (ty, n, .inl (fun _ => 0)) else .inr (ty, n, .inr (.inr (fun _ => none)))
def am_aty : ArrayType → Nat
  | .int => 0
  | .byte => 1
  | .boolean => 2
  | .long => 3
  | _ => 9
/-- the object q may lie in an array of the kind t -/
def am_elt (t : Nat) (c : am_C) : Bool := match t, c with
  | 4, .inl (6, _) => true
  | 5, .inr (0, _, .inl _) => true
  | _, _ => false
def am_do (P : Nat → am_M) (d L : Nat) (ret : Nat) (i : Instr) (pc nx a b : Nat) (ls : List (Option Value)) (st : List Value) (h : am_H) : am_O :=
  let go : List Value → am_O := fun st' => some (.inl (nx, ls, st', h))
  match i with
  | .aload _ | .aload_n _ => match am_get ls a with
    | some (.ref p) => go (.ref p :: st)
    | _ => none
  | .iload _ | .iload_n _ => match am_get ls a with
    | some (.int x) => go (.int x :: st)
    | _ => none
  | .lload _ | .lload_n _ => match am_get ls a with
    | some (.long x) => go (.long x :: st)
    | _ => none
  | .astore _ | .astore_n _ => am_r1 st fun p r => some (.inl (nx, am_st1 ls a (.ref p), r, h))
  | .istore _ | .istore_n _ => am_i1 st fun x r => some (.inl (nx, am_st1 ls a (.int x), r, h))
  | .lstore _ | .lstore_n _ => am_l1 st fun x r => some (.inl (nx, am_st2 ls a (.long x), r, h))
  | .iinc _ n => match am_get ls a with
    | some (.int x) => some (.inl (nx, am_st1 ls a (.int (x + Int32.ofInt n)), st, h))
    | _ => none
  | .iconst n => go (.int (Int32.ofInt n) :: st)
  | .bipush n => go (.int ((Int8.ofInt n).toInt32) :: st)
  | .sipush n => go (.int ((Int16.ofInt n).toInt32) :: st)
  | .ldc _ => bif Nat.beq a 0 then go (.int (Int32.ofNat b) :: st) else go (.ref b :: st)
  | .ldc_w _ => go (.int (Int32.ofNat b) :: st)
  | .ldc2_w _ => go (.long (Int64.ofNat b) :: st)
  | .lconst n => go (.long (Int64.ofNat n) :: st)
  | .iadd => am_ii st fun x y r => go (.int (x + y) :: r)
  | .isub => am_ii st fun x y r => go (.int (x - y) :: r)
  | .imul => am_ii st fun x y r => go (.int (x * y) :: r)
  | .idiv => am_ii st fun x y r => if y = 0 then none else go (.int (x / y) :: r)
  | .irem => am_ii st fun x y r => if y = 0 then none else go (.int (x - x / y * y) :: r)
  | .iand => am_ii st fun x y r => go (.int (x &&& y) :: r)
  | .ior => am_ii st fun x y r => go (.int (x ||| y) :: r)
  | .ixor => am_ii st fun x y r => go (.int (x ^^^ y) :: r)
  | .ishl => am_ii st fun x y r => go (.int (x <<< (y &&& 31)) :: r)
  | .ishr => am_ii st fun x y r => go (.int (x >>> (y &&& 31)) :: r)
  | .iushr => am_ii st fun x y r => go (.int ((x.toUInt32 >>> (y.toUInt32 &&& Int32.toUInt32 31)).toInt32) :: r)
  | .ineg => am_i1 st fun x r => go (.int (-x) :: r)
  | .ladd => am_ll st fun x y r => go (.long (x + y) :: r)
  | .lmul => am_ll st fun x y r => go (.long (x * y) :: r)
  | .ldiv => am_ll st fun x y r => if y = 0 then none else go (.long (x / y) :: r)
  | .lrem => am_ll st fun x y r => if y = 0 then none else go (.long (x - x / y * y) :: r)
  | .lor => am_ll st fun x y r => go (.long (x ||| y) :: r)
  | .lcmp => am_ll st fun x y r => go (.int (lg_cmp x y) :: r)
  | .lshl => am_i1 st fun y r => am_l1 r fun x r => go (.long (x <<< (y.toInt64 &&& 63)) :: r)
  | .i2l => am_i1 st fun x r => go (.long x.toInt64 :: r)
  | .l2i => am_l1 st fun x r => go (.int x.toInt32 :: r)
  | .i2b => am_i1 st fun x r => go (.int x.toInt8.toInt32 :: r)
  | .i2c => am_i1 st fun x r => go (.int (x.toUInt32 % 65536).toInt32 :: r)
  | .dup => match st with
    | .int x :: r => go (.int x :: .int x :: r)
    | .ref x :: r => go (.ref x :: .ref x :: r)
    | _ => none
  | .dup2 => am_ri st fun p j r => go (.int j :: .ref p :: .int j :: .ref p :: r)
  | .pop => am_i1 st fun _ r => go r
  | .goto _ => some (.inl (a, ls, st, h))
  | .ifCond c _ => am_i1 st fun x r => some (.inl (bif am_cnd c x 0 then a else nx, ls, r, h))
  | .if_icmp c _ => am_ii st fun x y r => some (.inl (bif am_cnd c x y then a else nx, ls, r, h))
  | .ifnonnull _ => match st with
    | .ref _ :: r => some (.inl (a, ls, r, h))
    | .null :: r => some (.inl (nx, ls, r, h))
    | _ => none
  | .tableswitch _ lo hi offs => am_i1 st fun x r => if x.toInt < lo ∨ hi < x.toInt then some (.inl (a, ls, r, h)) else
      match offs[(x.toInt - lo).toNat]? with
      | some off => if (pc : Int) + off < 0 then none else some (.inl (((pc : Int) + off).toNat, ls, r, h))
      | none => none
  | .iaload => am_ri st fun p j r => am_cA (h.2.2 p) 0 fun n f => am_ix j n (go (.int (f j.toNatClampNeg) :: r))
  | .baload => am_ri st fun p j r => am_cA (h.2.2 p) a fun n f => am_ix j n (go (.int (f j.toNatClampNeg) :: r))
  | .laload => am_ri st fun p j r => am_cL (h.2.2 p) fun n f => am_ix j n (go (.long (f j.toNatClampNeg) :: r))
  | .aaload => am_ri st fun p j r => am_cQ (h.2.2 p) fun t n f => bif Nat.beq t a then am_ix j n (go (va_rf (f j.toNatClampNeg) :: r)) else none
  | .iastore => am_i1 st fun x r => am_ri r fun p j r => am_cA (h.2.2 p) 0 fun n f => am_ix j n (if p < 8 then none else some (.inl (nx, ls, r, am_up h p (.inr (0, n, .inl (upd f j.toNatClampNeg x))))))
  | .bastore => am_i1 st fun x r => am_ri r fun p j r => am_cA (h.2.2 p) a fun n f => am_ix j n (if p < 8 then none else some (.inl (nx, ls, r, am_up h p (.inr (a, n, .inl (upd f j.toNatClampNeg (vp_nar (bif Nat.beq a 1 then .byte else .boolean) x)))))))
  | .lastore => am_l1 st fun x r => am_ri r fun p j r => am_cL (h.2.2 p) fun n f => am_ix j n (if p < 8 then none else some (.inl (nx, ls, r, am_up h p (.inr (3, n, .inr (.inl (vp_updL f j.toNatClampNeg x)))))))
  | .aastore => am_r1 st fun q r => am_ri r fun p j r => am_cQ (h.2.2 p) fun t n f => am_ix j n (if p < 8 ∨ q < 8 ∨ h.1 ≤ q then none else bif am_elt t (h.2.2 q) then some (.inl (nx, ls, r, am_up h p (.inr (t, n, .inr (.inr (va_up f j.toNatClampNeg (some q))))))) else none)
  | .arraylength => am_r1 st fun p r => match h.2.2 p with
    | .inr (t, n, _) => bif Nat.blt t 6 then go (.int (Int32.ofNat n) :: r) else none
    | _ => none
  | .newarray ty => am_i1 st fun x r => if x < 0 ∨ 1000000 < x.toNatClampNeg then none else some (.inl (nx, ls, .ref h.1 :: r, am_nw h x.toNatClampNeg (am_z (am_aty ty) x.toNatClampNeg)))
  | .anewarray _ => am_i1 st fun x r => if x < 0 ∨ 1000000 < x.toNatClampNeg then none else some (.inl (nx, ls, .ref h.1 :: r, am_nw h x.toNatClampNeg (.inr (a, x.toNatClampNeg, .inr (.inr (fun _ => none))))))
  | .new _ => some (.inl (nx, ls, .ref h.1 :: st, am_nw h (am_nf a) (.inl (a, am_df a))))
  | .getfield _ => am_r1 st fun p r => am_cO (h.2.2 p) fun ci fs => bif Nat.beq ci a then (match fs[b]? with
    | some v => go (v :: r)
    | none => none) else none
  | .putfield _ => match st with
    | v :: .ref p :: r => am_cO (h.2.2 p) fun ci fs => bif Nat.beq ci a && Nat.blt (b / 8) fs.length && am_fit (b % 4) v && Nat.ble 8 p then some (.inl (nx, ls, r, am_up h p (.inl (ci, fs.set (b / 8) v)))) else none
    | _ => none
  | .getstatic _ => bif Nat.beq a 0 then go (.ref 1 :: st) else go (.int 1 :: st)
  | .invokevirtual _ => match am_take (b + 1) [] st with
    | some (.ref p :: vs, r) => am_cO (h.2.2 p) fun ci _ => bif Nat.beq ci (P a).1 && Nat.ble (am_cat r) 8 then some (.inr (.inr (a, .ref p :: vs, nx, ls, r, h))) else none
    | _ => none
  | .invokespecial _ => bif Nat.beq a 999 then am_r1 st fun _ r => (bif Nat.ble 1 d && Nat.ble (am_cat r + 12) L then go r else none) else match am_take (b + 1) [] st with
    | some (.ref p :: vs, r) => bif Nat.ble (am_cat r) 8 then some (.inr (.inr (a, .ref p :: vs, nx, ls, r, h))) else none
    | _ => none
  | .invokestatic _ => bif Nat.beq a 998 then (match st with
      | .int n :: .int dp :: .ref q :: .int sp :: .ref p :: r => am_cA (h.2.2 p) 0 fun n0 f => am_cA (h.2.2 q) 0 fun n1 g =>
        if n < 0 ∨ dp < 0 ∨ sp < 0 ∨ n0 < sp.toNatClampNeg + n.toNatClampNeg ∨ n1 < dp.toNatClampNeg + n.toNatClampNeg ∨ p < 8 ∨ q < 8 ∨ d < 1 ∨ L < am_cat r + 40 then none
        else some (.inl (nx, ls, r, am_up h q (.inr (0, n1, .inl (va_cpy f g sp.toNatClampNeg dp.toNatClampNeg n.toNatClampNeg)))))
      | _ => none) else bif Nat.beq a 997 then (am_ii st fun x y r => bif Nat.ble 1 d && Nat.ble (am_cat r + 13) L then go (.int (if y < x then y else x) :: r) else none)
      else bif Nat.beq a 996 then (am_ii st fun x y r => bif Nat.ble 1 d && Nat.ble (am_cat r + 13) L then go (.int (if x < y then y else x) :: r) else none)
      else bif Nat.beq a 994 then (am_ii st fun x y r => if x < 0 ∨ ¬ x < y then none else bif Nat.ble 2 d && Nat.ble (am_cat r) 8 && Nat.ble 60 L then go r else none)
      else match am_take b [] st with
    | some (vs, r) => bif Nat.ble (am_cat r) 8 then some (.inr (.inr (a, vs, nx, ls, r, h))) else none
    | _ => none
  | .ireturn => match st with
    | [.int x] => bif am_rt ret x then some (.inr (.inl (some (.int x)))) else none
    | _ => none
  | .lreturn => match st with
    | [.long x] => bif Nat.beq ret 4 then some (.inr (.inl (some (.long x)))) else none
    | _ => none
  | .return_ => match st with
    | [] => bif Nat.beq ret 0 then some (.inr (.inl none)) else none
    | _ => none
  | _ => none
def am_step (P : Nat → am_M) (d L M : Nat) (c : am_S) : am_O := match am_at (P M).2.2.2 c.1 with
  | some (i, nx, a, b) => am_do P d L (P M).2.2.1 i c.1 nx a b c.2.1 c.2.2.1 c.2.2.2
  | none => none
/-- what a call costs of the locals -/
def am_lc (P : Nat → am_M) (y : Nat) : Nat := 8 + ((P y).2.1 + 11)
def am_run (P : Nat → am_M) : Nat → Nat → Nat → Nat → am_S → Option (Option Value × am_H)
  | 0, _, _, _, _ => none
  | n + 1, d, L, M, c => match am_step P d L M c with
    | none => none
    | some (.inl c') => am_run P n d L M c'
    | some (.inr (.inl r)) => some (r, c.2.2.2)
    | some (.inr (.inr (y, vs, c'))) => match d with
      | 0 => none
      | d' + 1 => if L < am_lc P y ∨ (P y).2.1 < (am_ent0 vs).length then none else
        match am_run P n d' (L - am_lc P y) y (0, am_ent vs (P y).2.1, [], c'.2.2.2) with
        | none => none
        | some (r, h) => am_run P n (d' + 1) L M (c'.1, c'.2.1, r.toList ++ c'.2.2.1, h)
theorem am_run_mono (P : Nat → am_M) : ∀ (n d L M : Nat) (c : am_S) (x : Option Value × am_H), am_run P n d L M c = some x → am_run P (n + 1) d L M c = some x := by
  intro n
  induction n with
  | zero => intro d L M c x h; simp [am_run] at h
  | succ n ih =>
    intro d L M c x h
    rw [am_run] at h ⊢
    cases hs : am_step P d L M c with
    | none => rw [hs] at h; simp at h
    | some o =>
      rw [hs] at h
      match o, h with
      | .inl c', h => exact ih _ _ _ _ _ h
      | .inr (.inl r), h => exact h
      | .inr (.inr (y, vs, c')), h =>
        cases d with
        | zero => simp at h
        | succ d' =>
          dsimp only at h ⊢
          split at h
          · cases h
          · rename_i hL
            rw [if_neg hL]
            cases hr : am_run P n d' (L - am_lc P y) y (0, am_ent vs (P y).2.1, [], c'.2.2.2) with
            | none => rw [hr] at h; simp at h
            | some q =>
              obtain ⟨r, h1⟩ := q
              rw [hr] at h
              rw [ih _ _ _ _ _ hr]
              exact ih _ _ _ _ _ h
theorem am_run_le (P : Nat → am_M) {n k d L M : Nat} {c : am_S} {x : Option Value × am_H} (h : am_run P n d L M c = some x) (hk : n ≤ k) : am_run P k d L M c = some x := by
  obtain ⟨j, rfl⟩ := Nat.le.dest hk
  induction j with
  | zero => exact h
  | succ j ih => exact am_run_mono P _ _ _ _ _ _ (ih (Nat.le_add_right _ _))
/-- from this frame on the method returns, and Q holds of its answer and of the heap -/
def AW (P : Nat → am_M) (d L M pc : Nat) (ls : List (Option Value)) (st : List Value) (h : am_H) (Q : Option Value → am_H → Prop) : Prop := ∃ n r h', am_run P n d L M (pc, ls, st, h) = some (r, h') ∧ Q r h'
/-- a call of method y returns, and Q holds of its answer and of the heap -/
def AC (P : Nat → am_M) (d L y : Nat) (vs : List Value) (h : am_H) (Q : Option Value → am_H → Prop) : Prop := AW P d L y 0 (am_ent vs (P y).2.1) [] h Q
section AMR
variable {P : Nat → am_M} {d L M pc : Nat} {ls : List (Option Value)} {st : List Value} {h : am_H} {Q : Option Value → am_H → Prop}
theorem AW.step {pc' : Nat} {ls' : List (Option Value)} {st' : List Value} {h' : am_H} (hs : am_step P d L M (pc, ls, st, h) = some (.inl (pc', ls', st', h'))) (k : AW P d L M pc' ls' st' h' Q) : AW P d L M pc ls st h Q := by
  obtain ⟨n, r, h1, e, q⟩ := k
  refine ⟨n + 1, r, h1, ?_, q⟩
  rw [am_run, hs]
  exact e
theorem AW.ret {r : Option Value} (hs : am_step P d L M (pc, ls, st, h) = some (.inr (.inl r))) (q : Q r h) : AW P d L M pc ls st h Q := by
  refine ⟨1, r, h, ?_, q⟩
  rw [am_run, hs]
theorem AW.call {y pc' : Nat} {vs : List Value} {ls' : List (Option Value)} {st' : List Value} {h' : am_H} {Q1 : Option Value → am_H → Prop} (hs : am_step P (d + 1) L M (pc, ls, st, h) = some (.inr (.inr (y, vs, pc', ls', st', h')))) (hL : am_lc P y ≤ L) (hA : (am_ent0 vs).length ≤ (P y).2.1) (hc : AC P d (L - am_lc P y) y vs h' Q1)
    (k : ∀ r h1, Q1 r h1 → AW P (d + 1) L M pc' ls' (r.toList ++ st') h1 Q) : AW P (d + 1) L M pc ls st h Q := by
  obtain ⟨n1, r1, h1, e1, q1⟩ := hc
  obtain ⟨n2, r2, h2, e2, q2⟩ := k r1 h1 q1
  refine ⟨max n1 n2 + 1, r2, h2, ?_, q2⟩
  rw [am_run, hs]
  dsimp only
  rw [if_neg (show ¬ (L < am_lc P y ∨ (P y).2.1 < (am_ent0 vs).length) by omega), am_run_le P e1 (Nat.le_max_left n1 n2)]
  exact am_run_le P e2 (Nat.le_max_right n1 n2)
theorem AW.mono {Q' : Option Value → am_H → Prop} (k : AW P d L M pc ls st h Q) (hq : ∀ r h1, Q r h1 → Q' r h1) : AW P d L M pc ls st h Q' := by
  obtain ⟨n, r, h1, e, q⟩ := k
  exact ⟨n, r, h1, e, hq r h1 q⟩
theorem AC.mono {vs : List Value} {y : Nat} {Q' : Option Value → am_H → Prop} (k : AC P d L y vs h Q) (hq : ∀ r h1, Q r h1 → Q' r h1) : AC P d L y vs h Q' := AW.mono k hq
end AMR
def am_nth {α : Type} : List α → Nat → α → α
  | [], _, d => d
  | x :: _, 0, _ => x
  | _ :: t, n + 1, d => am_nth t n d
end
section
/-! ===== what the abstract machine's state is on the JVM ===== -/
def am_nil : am_C := .inr (9, 0, .inl (fun _ => 0))
def am_sl : List Int32 := [1, 6, 36, 216, 1296, 7776, 46656, 279936, 1679616, 10077696, 60466176]
/-- the bytes of the three Strings -/
def am_by : List (List Int32) := [[114, 111, 119, 32, 102, 97, 99, 101, 115, 32, 107, 105, 99, 107, 32, 100, 114, 105, 102, 116, 32, 114, 117, 110, 115, 32, 99, 97, 114, 115, 32, 115, 116, 111, 110, 101, 32, 102, 114, 105, 101, 110, 100, 32, 108, 105, 118, 101, 115, 32, 116, 97, 107, 101, 115, 32, 115, 101, 101, 100, 32, 98, 121, 32, 116, 117, 114, 110, 32, 105, 102, 32, 116, 104, 101, 110, 32, 101, 108, 115, 101, 32, 97, 108, 111, 110, 103, 32, 97, 99, 114, 111, 115, 115, 32, 102, 97, 99, 101, 32, 115, 111, 114, 116, 32, 119, 104, 105, 99, 104, 32, 104, 97, 114, 100, 32, 115, 101, 99, 111, 110, 100, 32], [59, 61, 43, 45, 42, 47, 60, 40, 41], [116, 99, 115, 112, 103, 119, 104]]
def am_im (Ls : Nat) (xs : Nat → Int32) : Nat → am_C
  | 0 => .inr (0, Ls, .inl xs)
  | 1 => .inr (0, 11, .inl (fun j => am_sl.getD j 0))
  | 2 => .inl (15, [.ref 5, .int 0])
  | 3 => .inl (15, [.ref 6, .int 0])
  | 4 => .inl (15, [.ref 7, .int 0])
  | 5 => .inr (1, 123, .inl (fun j => (am_by.getD 0 []).getD j 0))
  | 6 => .inr (1, 9, .inl (fun j => (am_by.getD 1 []).getD j 0))
  | _ => .inr (1, 7, .inl (fun j => (am_by.getD 2 []).getD j 0))
def am_tx : Nat → String
  | 0 => "row faces kick drift runs cars stone friend lives takes seed by turn if then else along across face sort which hard second "
  | 1 => ";=+-*/<()"
  | _ => "tcspgwh"
def am_v (ad : Nat → Nat) : Value → Value
  | .ref a => .ref (ad a)
  | v => v
theorem am_v_cat (ad : Nat → Nat) (v : Value) : (am_v ad v).category = v.category := by cases v <;> rfl
theorem am_v_sum (ad : Nat → Nat) (l : List Value) : ((l.map (am_v ad)).map fun v => v.category).sum = am_cat l := by
  induction l with
  | nil => rfl
  | cons v t ih =>
    rw [List.map_cons, List.map_cons, List.sum_cons, ih]
    cases v <;> rfl
def am_e (ad dA : Nat → Nat) : am_C → va_E
  | .inl (ci, fs) => .inr (ci, fs.map (am_v ad))
  | .inr (t, n, .inl f) => .inl (dA t, n, .inl f)
  | .inr (t, n, .inr (.inl f)) => .inl (dA t, n, .inr (.inl f))
  | .inr (t, n, .inr (.inr f)) => .inl (dA t, n, .inr (.inr (.inr (.inr (fun j => (f j).map ad)))))
def am_W (ad dA : Nat → Nat) (h : am_H) : va_W := (List.range (h.1 - 8)).map (fun i => (ad (i + 8), am_e ad dA (h.2.2 (i + 8))))
def am_A (ad : Nat → Nat) : Nat → Prop := fun q => ad 8 ≤ q
def am_ty (dA : Nat → Nat) : List (ClassId × FieldType) := [(dA 0, .int), (dA 1, .byte), (dA 2, .boolean), (dA 3, .long), (dA 4, .object RX6), (dA 5, .array .int)]
/-- the words that don't count among those that last, and yet do -/
def am_Ns : List Cond := [.methodLinkNest "StoneHome" 22 ⟨"StoneHome$Street", "<init>", "()V"⟩ "StoneHome", .methodLinkNest "StoneHome$Street" 45 ⟨"StoneHome$Laws", "<init>", "()V"⟩ "StoneHome", .methodLinkNest "StoneHome" 41 ⟨"StoneHome$Stone", "<init>", "()V"⟩ "StoneHome", .methodLinkNest "StoneHome$Past" 24 ⟨"StoneHome$Stone", "<init>", "()V"⟩ "StoneHome", .methodLinkNest "StoneHome" 84 ⟨"StoneHome$Scratches", "<init>", "()V"⟩ "StoneHome", .methodLinkNest "StoneHome$Street" 83 ⟨"StoneHome", "squareOf", "(II)I"⟩ "StoneHome", .methodLinkNest "StoneHome$Street" 87 ⟨"StoneHome", "lieOf", "(II)I"⟩ "StoneHome", .methodLinkNest "StoneHome$Street" 101 ⟨"StoneHome", "alongOf", "(I)I"⟩ "StoneHome", .methodLinkNest "StoneHome$Street" 104 ⟨"StoneHome", "acrossOf", "(I)I"⟩ "StoneHome", .methodLinkNest "StoneHome$Stone" 37 ⟨"StoneHome", "lieOf", "(II)I"⟩ "StoneHome", .methodLinkNest "StoneHome$Street" 121 ⟨"StoneHome", "held", "(II)I"⟩ "StoneHome", .methodLinkNest "StoneHome$Forecast" 99 ⟨"StoneHome", "sixesOf", "(I)I"⟩ "StoneHome", .methodLinkNest "StoneHome$Race" 95 ⟨"StoneHome", "sixesOf", "(I)I"⟩ "StoneHome", .methodLinkNest "StoneHome$Scratches" 65 ⟨"StoneHome", "lieOf", "(II)I"⟩ "StoneHome"]
def am_AA (U : State) : Prop := (Cond.arrayOver (.array .int)).before #[] U = true
def am_K5 (dA : Nat → Nat) (U : State) : Prop := (∃ kA : Class, U.vm.classes[dA 5]? = some kA ∧ kA.kind = .array (dA 0) (.array .int)) ∧ va_AO RX6 U ∧ am_AA U ∧ ∀ w ∈ am_Ns, va_Nw w U
/-- what never changes: the script, SIXES, the Strings -/
def am_Z (ad : Nat → Nat) (Ls : Nat) (xs : Nat → Int32) (U : State) (H : Heap) : Prop := va_X (ad 0) Ls xs U H ∧ ¬ am_A ad (ad 0) ∧ va_Z "StoneHome" "SIXES" "[I" (.ref (ad 1)) (am_A ad) U H ∧ va_T .int (ad 1) 11 (fun j => .int (am_sl.getD j 0)) (am_A ad) U H ∧ va_Z "java/lang/String" "COMPACT_STRINGS" "Z" (.int 1) (am_A ad) U H ∧ vk_R RX9 84 (am_tx 0) (ad 2) U ∧ vk_R RX9 73 (am_tx 1) (ad 3) U ∧ vk_R RX4 139 (am_tx 2) (ad 4) U ∧ vk_S 3 [123, 9, 7] am_by (fun i => ad (i + 2)) (fun i => ad (i + 5)) (am_A ad) U H ∧ va_Zq "jdk/internal/util/Preconditions" "SIOOBE_FORMATTER" "Ljava/util/function/BiFunction;" (am_A ad) U H
def am_K (D : va_G) (ad dA : Nat → Nat) (Ls : Nat) (xs : Nat → Int32) (U : State) : Prop := va_K D am_cl (am_ty dA) U ∧ am_K5 dA U ∧ am_Z ad Ls xs U U.heap ∧ ad 8 ≤ U.heap.size ∧ ∀ i, 8 ≤ i → ad (i + 1) = ad i + 1
def am_G (D : va_G) (ad dA : Nat → Nat) (Ls : Nat) (xs : Nat → Int32) (H0 H : Heap) (h : am_H) (locs : List Loc) : Prop := va_P D am_cl (am_W ad dA h) H ∧ va_D (am_A ad) (am_W ad dA h) ∧ va_S (am_A ad) H0 H locs ∧ 8 ≤ h.1 ∧ ad h.1 = H.size ∧ (∀ p, h.1 ≤ p → h.2.2 p = am_nil) ∧ (∀ p, p < 8 → h.2.2 p = am_im Ls xs p)
theorem am_ad {ad : Nat → Nat} (h : ∀ i, 8 ≤ i → ad (i + 1) = ad i + 1) : ∀ k, ad (8 + k) = ad 8 + k := by
  intro k
  induction k with
  | zero => rfl
  | succ k ih => rw [← Nat.add_assoc, h (8 + k) (by omega), ih, Nat.add_assoc]
theorem am_W_at {ad dA : Nat → Nat} {h : am_H} {p : Nat} (h8 : 8 ≤ p) (hp : p < h.1) : (am_W ad dA h)[p - 8]? = some (ad p, am_e ad dA (h.2.2 p)) := by
  unfold am_W
  rw [List.getElem?_map, List.getElem?_range (by omega)]
  simp [show p - 8 + 8 = p by omega]
theorem am_W_get {ad dA : Nat → Nat} {h : am_H} {k : Nat} {q : Nat × va_E} (hq : (am_W ad dA h)[k]? = some q) : k + 8 < h.1 ∧ q = (ad (k + 8), am_e ad dA (h.2.2 (k + 8))) := by
  unfold am_W at hq
  rw [List.getElem?_map] at hq
  by_cases hk : k < h.1 - 8
  · rw [List.getElem?_range hk] at hq
    simp at hq
    exact ⟨by omega, hq.symm⟩
  · rw [List.getElem?_eq_none (by simp; omega)] at hq
    simp at hq
theorem am_W_set {ad dA : Nat → Nat} {h : am_H} {p : Nat} (c : am_C) (h8 : 8 ≤ p) : (am_W ad dA h).set (p - 8) (ad p, am_e ad dA c) = am_W ad dA (am_up h p c) := by
  apply List.ext_getElem?
  intro k
  unfold am_W am_up
  rw [List.getElem?_set, List.getElem?_map, List.getElem?_map]
  dsimp only
  by_cases hk : k < h.1 - 8
  · rw [List.getElem?_range hk]
    by_cases e : p - 8 = k
    · subst e
      simp [va_up, show p - 8 + 8 = p by omega, hk]
    · rw [if_neg e]
      simp [va_up, show ¬ k + 8 = p by omega]
  · rw [List.getElem?_eq_none (show (List.range (h.1 - 8)).length ≤ k by simp; omega)]
    by_cases e : p - 8 = k
    · rw [if_pos e, if_neg (by simp; omega)]
      rfl
    · rw [if_neg e]
      rfl
theorem am_W_push {ad dA : Nat → Nat} {h : am_H} {k : Nat} (c : am_C) (h8 : 8 ≤ h.1) : am_W ad dA h ++ [(ad h.1, am_e ad dA c)] = am_W ad dA (am_nw h k c) := by
  unfold am_W am_nw
  dsimp only
  rw [show h.1 + 1 - 8 = h.1 - 8 + 1 by omega, List.range_succ, List.map_append]
  congr 1
  · apply List.map_congr_left
    intro i hi
    have := List.mem_range.mp hi
    simp [va_up, show ¬ i + 8 = h.1 by omega]
  · simp [va_up, show h.1 - 8 + 8 = h.1 by omega]
theorem am_S_tr {A : Nat → Prop} {H0 H H1 : Heap} {l l1 : List Loc} (h : va_S A H0 H l) (h1 : va_S A H H1 l1) : va_S A H0 H1 l1 :=
  ⟨Nat.le_trans h.1 h1.1, fun q a b => (h1.2.1 q (Nat.lt_of_lt_of_le a h.1) b).trans (h.2.1 q a b), h1.2.2⟩
theorem am_S_self {A : Nat → Prop} {H0 H : Heap} {l : List Loc} (h : va_S A H0 H l) : va_S A H H l := ⟨Nat.le_refl _, fun _ _ _ => rfl, h.2.2⟩
section AMS
variable {p : Program} {l : Launch} {e : Env} {R : Room} {s : State} {m : MethodId} {args : Array Value} {below : List Frame} {meth : Method} {c : Code} {H : Heap} {locs : List Loc} {cells slots : Nat} {Q : State → Prop}
variable {D : va_G} {ad dA : Nat → Nat} {Ls : Nat} {xs : Nat → Int32} {H0 H1 : Heap} {h : am_H} {locs1 : List Loc}
theorem am_sz {g : JFrame} (k : H.size ≤ s.heap.size + cells → W p l e R s m args below meth c H locs cells slots Q g) : W p l e R s m args below meth c H locs cells slots Q g := by
  intro T hT X
  exact k (by rw [← hT]; exact X.heapSize) T hT X
/-- a cell was written -/
theorem am_G_up {q : Nat} {x : am_C} (g : am_G D ad dA Ls xs H0 H h locs) (h8 : 8 ≤ q) (hq : q < h.1) (hz : H1.size ≤ H.size) (hP : va_P D am_cl ((am_W ad dA h).set (q - 8) (ad q, am_e ad dA x)) H1) (hD : va_D (am_A ad) ((am_W ad dA h).set (q - 8) (ad q, am_e ad dA x))) (hS : va_S (am_A ad) H H1 locs1) : am_G D ad dA Ls xs H0 H1 (am_up h q x) locs1 := by
  obtain ⟨g1, g2, g3, g4, g5, g6, g7⟩ := g
  rw [am_W_set x h8] at hP hD
  refine ⟨hP, hD, am_S_tr g3 hS, g4, ?_, fun p hp => ?_, fun p hp => ?_⟩
  · show ad h.1 = H1.size
    have := hS.1
    omega
  · show va_up h.2.2 q x p = am_nil
    have : p ≠ q := by intro e; subst e; exact absurd (show h.1 ≤ p from hp) (by omega)
    simp only [va_up, if_neg this]
    exact g6 p hp
  · show va_up h.2.2 q x p = am_im Ls xs p
    simp only [va_up, if_neg (show ¬ p = q by omega)]
    exact g7 p hp
/-- a cell was made -/
theorem am_G_nw {k : Nat} {x : am_C} (g : am_G D ad dA Ls xs H0 H h locs) (hA : ∀ i, 8 ≤ i → ad (i + 1) = ad i + 1) (hz : H1.size = H.size + 1) (hx : va_at D am_cl (ad h.1, am_e ad dA x) H1) (ho : ∀ q : Nat, q < H.size → H1[q]? = H[q]?) : am_G D ad dA Ls xs H0 H1 (am_nw h k x) locs := by
  obtain ⟨g1, g2, g3, g4, g5, g6, g7⟩ := g
  have hP : va_P D am_cl (am_W ad dA h ++ [(ad h.1, am_e ad dA x)]) H1 := by
    refine va_P.app (va_P.kept g1 (fun i q hq => ho q.1 ((g1 i q hq).lt))) (fun i q hq => ?_)
    have hi : i < 1 := (List.getElem?_eq_some_iff.mp hq).1
    rw [show i = 0 by omega] at hq
    cases hq
    exact hx
  have hD : va_D (am_A ad) (am_W ad dA h ++ [(ad h.1, am_e ad dA x)]) := g2.push g1 g5 (by
    show ad 8 ≤ ad h.1
    have := am_ad hA (h.1 - 8)
    rw [show 8 + (h.1 - 8) = h.1 by omega] at this
    omega)
  rw [am_W_push (k := k) x g4] at hP hD
  refine ⟨hP, hD, ⟨Nat.le_trans g3.1 (by omega), fun q a b => (ho q (Nat.lt_of_lt_of_le a g3.1)).trans (g3.2.1 q a b), g3.2.2⟩, Nat.le_succ_of_le g4, ?_, fun q hq => ?_, fun q hq => ?_⟩
  · show ad (h.1 + 1) = H1.size
    rw [hA h.1 g4, g5, hz]
  · show va_up h.2.2 h.1 x q = am_nil
    have hq' : h.1 + 1 ≤ q := hq
    simp only [va_up, if_neg (show ¬ q = h.1 by omega)]
    exact g6 q (by omega)
  · show va_up h.2.2 h.1 x q = am_im Ls xs q
    simp only [va_up, if_neg (show ¬ q = h.1 by omega)]
    exact g7 q hq
end AMS
/-- the locals: what is known of them lies there -/
def am_L (ad : Nat → Nat) (ls : List (Option Value)) (lsr : Array Slot) (nL : Nat) : Prop := lsr.size = nL ∧ lv_wf lsr ∧ ∀ i v, am_get ls i = some v → lsr[i]? = some (.val (am_v ad v))
def am_prs (ad : Nat → Nat) : Nat → List (Option Value) → List (Nat × Value)
  | _, [] => []
  | k, none :: t => am_prs ad (k + 1) t
  | k, some v :: t => (k, am_v ad v) :: am_prs ad (k + 1) t
theorem am_prs_mem {ad : Nat → Nat} : ∀ (ls : List (Option Value)) (k : Nat) (q : Nat × Value), q ∈ am_prs ad k ls ↔ ∃ i v, am_get ls i = some v ∧ q = (k + i, am_v ad v) := by
  intro ls
  induction ls with
  | nil => intro k q; simp [am_prs, am_get]
  | cons w t ih =>
    intro k q
    cases w with
    | none =>
      rw [am_prs, ih]
      constructor
      · rintro ⟨i, v, h, rfl⟩
        exact ⟨i + 1, v, h, by rw [Nat.add_assoc, Nat.add_comm 1 i]⟩
      · rintro ⟨i, v, h, rfl⟩
        cases i with
        | zero => simp [am_get] at h
        | succ i => exact ⟨i, v, h, by rw [Nat.add_assoc, Nat.add_comm 1 i]⟩
    | some w =>
      rw [am_prs, List.mem_cons, ih]
      constructor
      · rintro (rfl | ⟨i, v, h, rfl⟩)
        · exact ⟨0, w, rfl, rfl⟩
        · exact ⟨i + 1, v, h, by rw [Nat.add_assoc, Nat.add_comm 1 i]⟩
      · rintro ⟨i, v, h, rfl⟩
        cases i with
        | zero => left; simp [am_get] at h; subst h; rfl
        | succ i => right; exact ⟨i, v, h, by rw [Nat.add_assoc, Nat.add_comm 1 i]⟩
theorem am_L_has {ad : Nat → Nat} {ls : List (Option Value)} {lsr : Array Slot} {nL : Nat} (h : am_L ad ls lsr nL) : lv_has lsr nL (am_prs ad 0 ls) := by
  refine ⟨h.1, h.2.1, fun q hq => ?_⟩
  obtain ⟨i, v, hv, rfl⟩ := (am_prs_mem ls 0 q).mp hq
  rw [Nat.zero_add]
  exact h.2.2 i v hv
theorem am_get_set : ∀ (ls : List (Option Value)) (i j : Nat) (v : Option Value) (w : Value), am_get (am_set ls i v) j = some w → (j = i ∧ v = some w) ∨ (j ≠ i ∧ am_get ls j = some w) := by
  intro ls
  induction ls with
  | nil => intro i j v w h; simp [am_set, am_get] at h
  | cons a t ih =>
    intro i j v w h
    cases i with
    | zero =>
      cases j with
      | zero => left; exact ⟨rfl, h⟩
      | succ j => right; exact ⟨by omega, h⟩
    | succ i =>
      cases j with
      | zero => right; exact ⟨by omega, h⟩
      | succ j =>
        rcases ih i j v w h with ⟨a, b⟩ | ⟨a, b⟩
        · left; exact ⟨by omega, b⟩
        · right; exact ⟨by omega, b⟩
theorem am_get_cut {ls : List (Option Value)} {i j : Nat} {w : Value} (h : am_get (am_cut ls i) j = some w) : am_get ls j = some w ∧ ¬ (j + 1 = i ∧ w.category = 2 ∧ am_isL (some w) = true) := by
  cases i with
  | zero => exact ⟨h, by omega⟩
  | succ i =>
    change am_get (bif am_isL (am_get ls i) then am_set ls i none else ls) j = some w at h
    cases hb : am_isL (am_get ls i) with
    | true =>
      rw [hb] at h
      rcases am_get_set _ _ _ _ _ h with ⟨a, b⟩ | ⟨a, b⟩
      · cases b
      · exact ⟨b, by omega⟩
    | false =>
      rw [hb] at h
      refine ⟨h, fun z => ?_⟩
      have : j = i := by omega
      subst this
      rw [show am_get ls j = some w from h, z.2.2] at hb
      cases hb
/-- no double lies in the locals -/
def am_nd (ls : List (Option Value)) : Prop := ∀ i v, am_get ls i = some v → v.category = 2 → am_isL (some v) = true
theorem am_L_st1 {ad : Nat → Nat} {ls : List (Option Value)} {lsr : Array Slot} {nL i : Nat} {v : Value} (hn : am_nd ls) (h : lv_has lsr nL ((i, am_v ad v) :: (am_prs ad 0 ls).filter (fun q => !(q.1 == i) && !(q.1 + 1 == i && q.2.category == 2)))) : am_L ad (am_st1 ls i v) lsr nL := by
  refine ⟨h.1, h.2.1, fun j w hw => ?_⟩
  rcases am_get_set _ _ _ _ _ hw with ⟨a, b⟩ | ⟨a, b⟩
  · subst a; cases b
    exact h.2.2 (j, am_v ad v) List.mem_cons_self
  · obtain ⟨h1, h2⟩ := am_get_cut b
    refine h.2.2 (j, am_v ad w) (List.mem_cons_of_mem _ (List.mem_filter.mpr ⟨(am_prs_mem ls 0 _).mpr ⟨j, w, h1, by rw [Nat.zero_add]⟩, ?_⟩))
    have e1 : (j == i) = false := by simp [a]
    dsimp only
    rw [e1, am_v_cat]
    by_cases e2 : j + 1 = i
    · by_cases e3 : w.category = 2
      · exact absurd ⟨e2, e3, hn j w h1 e3⟩ h2
      · simp [e3]
    · simp [e2]
theorem am_L_st2 {ad : Nat → Nat} {ls : List (Option Value)} {lsr : Array Slot} {nL i : Nat} {v : Value} (hn : am_nd ls) (h : lv_has lsr nL ((i, am_v ad v) :: (am_prs ad 0 ls).filter (fun q => !(q.1 == i) && (!(q.1 == i + 1) && !(q.1 + 1 == i && q.2.category == 2))))) : am_L ad (am_st2 ls i v) lsr nL := by
  refine ⟨h.1, h.2.1, fun j w hw => ?_⟩
  rcases am_get_set _ _ _ _ _ hw with ⟨a, b⟩ | ⟨a0, b⟩
  · cases b
  · rcases am_get_set _ _ _ _ _ b with ⟨a, b2⟩ | ⟨a, b2⟩
    · cases b2; subst a
      exact h.2.2 (j, am_v ad v) List.mem_cons_self
    · obtain ⟨h1, h2⟩ := am_get_cut b2
      refine h.2.2 (j, am_v ad w) (List.mem_cons_of_mem _ (List.mem_filter.mpr ⟨(am_prs_mem ls 0 _).mpr ⟨j, w, h1, by rw [Nat.zero_add]⟩, ?_⟩))
      have e1 : (j == i) = false := by simp [a]
      have e0 : (j == i + 1) = false := by simp [a0]
      dsimp only
      rw [e1, e0, am_v_cat]
      by_cases e2 : j + 1 = i
      · by_cases e3 : w.category = 2
        · exact absurd ⟨e2, e3, hn j w h1 e3⟩ h2
        · simp [e3]
      · simp [e2]
theorem am_AA.moved {u U : State} (hvm : u.vm.Alike U.vm) (h : am_AA u) : am_AA U := over_moved hvm h
theorem am_Ns_warm {s U : State} (hW : s.WarmedH U.vm) (h : ∀ w ∈ am_Ns, va_Nw w s) : ∀ w ∈ am_Ns, va_Nw w U := by
  intro w hw
  have h1 := h w hw
  simp only [am_Ns, List.mem_cons, List.not_mem_nil, or_false] at hw
  rcases hw with e | e | e | e | e | e | e | e | e | e | e | e | e | e <;> subst e <;> exact va_Nw.warmM hW h1
theorem am_Ns_same {s U : State} (hv : s.vm = U.vm) (h : ∀ w ∈ am_Ns, va_Nw w s) : ∀ w ∈ am_Ns, va_Nw w U := by
  intro w hw
  have h1 := h w hw
  simp only [am_Ns, List.mem_cons, List.not_mem_nil, or_false] at hw
  rcases hw with e | e | e | e | e | e | e | e | e | e | e | e | e | e <;> subst e <;> exact va_Nw.same rfl hv h1
end
section
/-! ===== the JVM does what the abstract machine says: what is asked of a table, and the plain instructions ===== -/
def am_rty : Nat → Option FieldType
  | 0 => none
  | 1 => some .int
  | 2 => some .boolean
  | 3 => some .char
  | 4 => some .long
  | _ => some .byte
def am_len : Instr → Nat
  | .aload _ | .iload _ | .lload _ | .astore _ | .istore _ | .lstore _ | .bipush _ | .ldc _ | .newarray _ => 2
  | .iinc _ _ | .sipush _ | .ldc_w _ | .ldc2_w _ | .goto _ | .ifCond _ _ | .if_icmp _ _ | .ifnonnull _ | .getfield _ | .putfield _ | .getstatic _ | .new _ | .anewarray _ | .invokevirtual _ | .invokespecial _ | .invokestatic _ => 3
  | _ => 1
/-- String.checkIndex and what it calls: one instruction of the abstract machine -/
def am_yCk : MethodName := ⟨"java/lang/String", "checkIndex", "(II)V"⟩
def am_yPr : MethodName := ⟨"jdk/internal/util/Preconditions", "checkIndex", "(IILjava/util/function/BiFunction;)I"⟩
def am_ckw : List Cond := [.code am_yCk prog_16_method_155_code 2 none, .static am_yCk, .initialized "java/lang/String", .methodLink "java/lang/String" 1059 am_yPr, .static am_yPr, .initialized "jdk/internal/util/Preconditions", .code am_yPr prog_21_method_11_code 3 (some .int), .fieldLink "java/lang/String" 1053 "jdk/internal/util/Preconditions" "SIOOBE_FORMATTER" "Ljava/util/function/BiFunction;"]
/-- what the tables must say of an instruction of a method of class own, with maxL locals -/
def am_Ei (P : Nat → am_M) (yN : Nat → MethodName) (NM : Nat) (Ts : List Cond) (own yn : String) (maxL : Nat) (i : Instr) (pc a b : Nat) : Prop := match i with
  | .aload k | .iload k | .lload k => a = k
  | .aload_n k | .iload_n k | .lload_n k => a = k.val
  | .astore k | .istore k => a = k ∧ k < maxL
  | .astore_n k | .istore_n k => a = k.val ∧ k.val < maxL
  | .lstore k => a = k ∧ k + 1 < maxL
  | .lstore_n k => a = k.val ∧ k.val + 1 < maxL
  | .iinc k _ => a = k ∧ k < maxL
  | .ldc idx => (a = 0 ∧ Cond.constant own idx (Int32.ofNat b) ∈ Ts) ∨ (a = 1 ∧ ((b = 2 ∧ own = RX9 ∧ idx = 84) ∨ (b = 3 ∧ own = RX9 ∧ idx = 73) ∨ (b = 4 ∧ own = RX4 ∧ idx = 139)))
  | .ldc_w idx => Cond.constant own idx (Int32.ofNat b) ∈ Ts
  | .ldc2_w idx => Cond.constantLong own idx (Int64.ofNat b) ∈ Ts
  | .goto off | .ifCond _ off | .if_icmp _ off | .ifnonnull off => (pc : Int) + off = (a : Int)
  | .tableswitch dflt _ _ _ => (pc : Int) + dflt = (a : Int)
  | .baload | .bastore => a = 1 ∨ a = 2
  | .aaload => a = 4 ∨ a = 5
  | .newarray ty => am_aty ty < 4 ∧ Cond.arrayClass (newarray.typeOf ty) ∈ Ts
  | .anewarray idx => (a = 4 ∧ Cond.classLink own idx RX6 ∈ Ts) ∨ (a = 5 ∧ Cond.classLink own idx "[I" ∈ Ts)
  | .new idx => a < 12 ∧ Cond.classLink own idx (am_cn a) ∈ Ts ∧ Cond.instantiable (am_cn a) (am_nf a) ∈ Ts ∧ Cond.initialized (am_cn a) ∈ Ts
  | .getfield idx => (a < 12 ∧ b < am_nf a ∧ Cond.fieldLink own idx (am_tb a b).1 (am_tb a b).2.1 (am_tb a b).2.2.1 ∈ Ts) ∨ (a = 15 ∧ ((b = 0 ∧ Cond.fieldLink own idx "java/lang/String" "value" "[B" ∈ Ts) ∨ (b = 1 ∧ Cond.fieldLink own idx "java/lang/String" "coder" "B" ∈ Ts)))
  | .putfield idx => a < 12 ∧ b / 8 < am_nf a ∧ Cond.fieldLink own idx (am_tb a (b / 8)).1 (am_tb a (b / 8)).2.1 (am_tb a (b / 8)).2.2.1 ∈ Ts ∧ ((b % 4 = 0 ∧ am_ft a (b / 8) = .int) ∨ (b % 4 = 1 ∧ am_ft a (b / 8) = .boolean) ∨ (b % 4 = 2 ∧ ∃ n, am_ft a (b / 8) = .object n) ∨ (b % 4 = 2 ∧ ∃ n, am_ft a (b / 8) = .array n)) ∧ ((am_tb a (b / 8)).2.2.2 = false ∨ ((am_tb a (b / 8)).2.2.2 = true ∧ yn = "<init>" ∧ (am_tb a (b / 8)).1 = own))
  | .getstatic idx => (a = 0 ∧ Cond.fieldLink own idx "StoneHome" "SIXES" "[I" ∈ Ts) ∨ (a = 1 ∧ Cond.fieldLink own idx "java/lang/String" "COMPACT_STRINGS" "Z" ∈ Ts)
  | .invokevirtual idx => a < NM ∧ Cond.methodLink own idx (yN a) ∈ Ts ∧ Cond.instanceMethod (yN a) ∈ Ts ∧ Cond.selects (yN a).cls (yN a) (yN a) ∈ Ts ∧ (parseMethodDescriptor (yN a).desc).map (fun d => d.parameters.length) = some b
  | .invokespecial idx => (a = 999 ∧ Cond.methodLink own idx objectInit ∈ Ts ∧ Cond.instanceMethod objectInit ∈ Ts ∧ Cond.code objectInit ⟨#[0xb1]⟩ 1 none ∈ Ts) ∨ (¬ a = 999 ∧ a < NM ∧ (Cond.methodLink own idx (yN a) ∈ Ts ∨ ∃ host, Cond.methodLinkNest own idx (yN a) host ∈ am_Ns) ∧ Cond.instanceMethod (yN a) ∈ Ts ∧ (yN a).name = "<init>" ∧ (P a).2.2.1 = 0 ∧ (parseMethodDescriptor (yN a).desc).map (fun d => d.parameters.length) = some b)
  | .invokestatic idx => (a = 998 ∧ Cond.methodLink own idx arraycopyName ∈ Ts ∧ Cond.native arraycopyName ∈ Ts ∧ Cond.static arraycopyName ∈ Ts ∧ Cond.initialized "java/lang/System" ∈ Ts) ∨ (a = 997 ∧ Cond.methodLink own idx Lib.Math.min.name ∈ Ts ∧ Cond.static Lib.Math.min.name ∈ Ts ∧ Cond.initialized "java/lang/Math" ∈ Ts ∧ Cond.code Lib.Math.min.name Lib.Math.min.code 2 (some .int) ∈ Ts) ∨ (a = 996 ∧ Cond.methodLink own idx Lib.Math.max.name ∈ Ts ∧ Cond.static Lib.Math.max.name ∈ Ts ∧ Cond.initialized "java/lang/Math" ∈ Ts ∧ Cond.code Lib.Math.max.name Lib.Math.max.code 2 (some .int) ∈ Ts) ∨ (a = 994 ∧ Cond.methodLink own idx am_yCk ∈ Ts ∧ ∀ w ∈ am_ckw, w ∈ Ts) ∨ (¬ a = 998 ∧ ¬ a = 997 ∧ ¬ a = 996 ∧ ¬ a = 994 ∧ a < NM ∧ (Cond.methodLink own idx (yN a) ∈ Ts ∨ ∃ host, Cond.methodLinkNest own idx (yN a) host ∈ am_Ns) ∧ Cond.static (yN a) ∈ Ts ∧ (parseMethodDescriptor (yN a).desc).map (fun d => d.parameters.length) = some b)
  | _ => True
/-- an entry of a table is right -/
def am_E (P : Nat → am_M) (yN : Nat → MethodName) (cN : Nat → ByteArray) (NM : Nat) (Ts : List Cond) (M pc : Nat) (q : am_I) : Prop :=
  (∃ len, decode (cN M) pc = .ok (q.1, len) ∧ ((∃ d lo hi os, q.1 = .tableswitch d lo hi os) ∨ (len = am_len q.1 ∧ q.2.1 = pc + len))) ∧ am_Ei P yN NM Ts (am_cn (P M).1) (yN M).name (P M).2.1 q.1 pc q.2.2.1 q.2.2.2
/-- the frame in which a method is walked -/
def am_X (P : Nat → am_M) (yN : Nat → MethodName) (cN : Nat → ByteArray) (Ts : List Cond) (p : Program) (s : State) (m : MethodId) (args : Array Value) (meth : Method) (c : Code) (M : Nat) : Prop :=
  p.tables.exec = Jvm.exec ∧ c.code = cN M ∧ c.maxLocals = (P M).2.1 ∧ s.vm.findClass (am_cn (P M).1) = some m.cls ∧ (∀ w ∈ Ts, w.before args s = true) ∧ meth.sig.returnType = am_rty (P M).2.2.1 ∧ meth.locks = false ∧ meth.name = (yN M).name
def am_LN (ad : Nat → Nat) (ls : List (Option Value)) (lsr : Array Slot) (nL : Nat) : Prop := am_L ad ls lsr nL ∧ am_nd ls
theorem am_nd_set {ls : List (Option Value)} {i : Nat} {v : Option Value} (h : am_nd ls) (hv : ∀ w, v = some w → w.category = 2 → am_isL (some w) = true) : am_nd (am_set ls i v) := by
  intro j w hw h2
  rcases am_get_set _ _ _ _ _ hw with ⟨a, b⟩ | ⟨a, b⟩
  · exact hv w b h2
  · exact h j w b h2
theorem am_nd_cut {ls : List (Option Value)} {i : Nat} (h : am_nd ls) : am_nd (am_cut ls i) := fun j w hw h2 => h j w (am_get_cut hw).1 h2
theorem am_ii_inv {st : List Value} {k : Int32 → Int32 → List Value → am_O} {o : am_S ⊕ (Option Value) ⊕ (Nat × List Value × am_S)} (h : am_ii st k = some o) : ∃ x y r, st = .int y :: .int x :: r ∧ k x y r = some o := by
  unfold am_ii at h
  split at h
  · exact ⟨_, _, _, rfl, h⟩
  · cases h
theorem am_i1_inv {st : List Value} {k : Int32 → List Value → am_O} {o : am_S ⊕ (Option Value) ⊕ (Nat × List Value × am_S)} (h : am_i1 st k = some o) : ∃ x r, st = .int x :: r ∧ k x r = some o := by
  unfold am_i1 at h
  split at h
  · exact ⟨_, _, rfl, h⟩
  · cases h
theorem am_ll_inv {st : List Value} {k : Int64 → Int64 → List Value → am_O} {o : am_S ⊕ (Option Value) ⊕ (Nat × List Value × am_S)} (h : am_ll st k = some o) : ∃ x y r, st = .long y :: .long x :: r ∧ k x y r = some o := by
  unfold am_ll at h
  split at h
  · exact ⟨_, _, _, rfl, h⟩
  · cases h
theorem am_l1_inv {st : List Value} {k : Int64 → List Value → am_O} {o : am_S ⊕ (Option Value) ⊕ (Nat × List Value × am_S)} (h : am_l1 st k = some o) : ∃ x r, st = .long x :: r ∧ k x r = some o := by
  unfold am_l1 at h
  split at h
  · exact ⟨_, _, rfl, h⟩
  · cases h
theorem am_r1_inv {st : List Value} {k : Nat → List Value → am_O} {o : am_S ⊕ (Option Value) ⊕ (Nat × List Value × am_S)} (h : am_r1 st k = some o) : ∃ x r, st = .ref x :: r ∧ k x r = some o := by
  unfold am_r1 at h
  split at h
  · exact ⟨_, _, rfl, h⟩
  · cases h
theorem am_ri_inv {st : List Value} {k : Nat → Int32 → List Value → am_O} {o : am_S ⊕ (Option Value) ⊕ (Nat × List Value × am_S)} (h : am_ri st k = some o) : ∃ q j r, st = .int j :: .ref q :: r ∧ k q j r = some o := by
  unfold am_ri at h
  split at h
  · exact ⟨_, _, _, rfl, h⟩
  · cases h
theorem am_cA_inv {x : am_C} {ty : Nat} {k : Nat → (Nat → Int32) → am_O} {o : am_S ⊕ (Option Value) ⊕ (Nat × List Value × am_S)} (h : am_cA x ty k = some o) : ∃ n f, x = .inr (ty, n, .inl f) ∧ k n f = some o := by
  unfold am_cA at h
  split at h
  · rename_i t n f
    cases e : Nat.beq t ty with
    | true => rw [e] at h; have := Nat.eq_of_beq_eq_true e; subst this; exact ⟨n, f, rfl, h⟩
    | false => rw [e] at h; cases h
  · cases h
theorem am_cL_inv {x : am_C} {k : Nat → (Nat → Int64) → am_O} {o : am_S ⊕ (Option Value) ⊕ (Nat × List Value × am_S)} (h : am_cL x k = some o) : ∃ n f, x = .inr (3, n, .inr (.inl f)) ∧ k n f = some o := by
  unfold am_cL at h
  split at h
  · rename_i t n f
    cases e : Nat.beq t 3 with
    | true => rw [e] at h; have := Nat.eq_of_beq_eq_true e; subst this; exact ⟨n, f, rfl, h⟩
    | false => rw [e] at h; cases h
  · cases h
theorem am_cQ_inv {x : am_C} {k : Nat → Nat → (Nat → Option Nat) → am_O} {o : am_S ⊕ (Option Value) ⊕ (Nat × List Value × am_S)} (h : am_cQ x k = some o) : ∃ t n f, x = .inr (t, n, .inr (.inr f)) ∧ k t n f = some o := by
  unfold am_cQ at h
  split at h
  · exact ⟨_, _, _, rfl, h⟩
  · cases h
theorem am_cO_inv {x : am_C} {k : Nat → List Value → am_O} {o : am_S ⊕ (Option Value) ⊕ (Nat × List Value × am_S)} (h : am_cO x k = some o) : ∃ t f, x = .inl (t, f) ∧ k t f = some o := by
  unfold am_cO at h
  split at h
  · exact ⟨_, _, rfl, h⟩
  · cases h
theorem am_ix_inv {j : Int32} {n : Nat} {o : am_O} {x : am_S ⊕ (Option Value) ⊕ (Nat × List Value × am_S)} (h : am_ix j n o = some x) : vp_in j n ∧ o = some x := by
  unfold am_ix at h
  split at h
  · cases h
  · rename_i e
    exact ⟨e, h⟩
theorem am_bif_inv {b : Bool} {o : am_O} {x : am_S ⊕ (Option Value) ⊕ (Nat × List Value × am_S)} (h : (bif b then o else none) = some x) : b = true ∧ o = some x := by
  cases b
  · cases h
  · exact ⟨rfl, h⟩
section AMP
variable {p : Program} {l : Launch} {e : Env} {R : Room} {s : State} {m : MethodId} {args : Array Value} {below : List Frame} {meth : Method} {c : Code} {H : Heap} {locs : List Loc} {cells slots : Nat} {Q : State → Prop}
variable {D : va_G} {ad dA : Nat → Nat} {Ls : Nat} {xs : Nat → Int32} {h : am_H} {P : Nat → am_M} {yN : Nat → MethodName} {cN : Nat → ByteArray} {Ts : List Cond} {NM M pc nx a b d L ret nL : Nat} {ls : List (Option Value)} {lsr : Array Slot} {st : List Value} {S' : am_S}
/-- what stands behind an instruction -/
def am_KK (p : Program) (l : Launch) (e : Env) (R : Room) (s : State) (m : MethodId) (args : Array Value) (below : List Frame) (meth : Method) (c : Code) (cells slots : Nat) (Q : State → Prop) (D : va_G) (ad dA : Nat → Nat) (Ls : Nat) (xs : Nat → Int32) (nL : Nat) (h : am_H) (S' : am_S) : Prop :=
  ∀ (H1 : Heap) (locs1 : List Loc) (lsr1 : Array Slot), am_G D ad dA Ls xs s.heap H1 S'.2.2.2 locs1 → am_LN ad S'.2.1 lsr1 nL → H1.size = s.heap.size + (cells + (S'.2.2.2.1 - h.1)) → W p l e R s m args below meth c H1 locs1 (cells + (S'.2.2.2.1 - h.1)) (slots + (S'.2.2.2.2.1 - h.2.1)) Q (F0 m S'.1 lsr1 (S'.2.2.1.map (am_v ad)))
theorem am_go {pc' : Nat} {ls' : List (Option Value)} {lsr' : Array Slot} {st' : List Value} (kk : am_KK p l e R s m args below meth c cells slots Q D ad dA Ls xs nL h (pc', ls', st', h)) (g : am_G D ad dA Ls xs s.heap H h locs) (hl : am_LN ad ls' lsr' nL) (hz : H.size = s.heap.size + cells) : W p l e R s m args below meth c H locs cells slots Q (F0 m pc' lsr' (st'.map (am_v ad))) := by
  have := kk H locs lsr' g hl (by show H.size = s.heap.size + (cells + (h.1 - h.1)); rw [Nat.sub_self]; exact hz)
  simpa only [Nat.sub_self, Nat.add_zero] using this
/-- the instructions that look at the heap or at the tables -/
def am_hp : Instr → Bool
  | .iaload | .baload | .laload | .aaload | .iastore | .bastore | .lastore | .aastore | .arraylength | .newarray _ | .anewarray _ | .new _ | .getfield _ | .putfield _ | .getstatic _ | .invokevirtual _ | .invokespecial _ | .invokestatic _ | .ldc _ => true
  | _ => false
/-- the plain instructions: stack and locals alone -/
theorem am_sd1 (X : am_X P yN cN Ts p s m args meth c M) (hml : nL = (P M).2.1) (hK : am_K D ad dA Ls xs s) {i : Instr} (hd : ∃ len, decode (cN M) pc = .ok (i, len) ∧ ((∃ d lo hi os, i = .tableswitch d lo hi os) ∨ (len = am_len i ∧ nx = pc + len))) (hE : am_Ei P yN NM Ts (am_cn (P M).1) (yN M).name (P M).2.1 i pc a b)
    (g : am_G D ad dA Ls xs s.heap H h locs) (hl : am_LN ad ls lsr nL) (hz : H.size = s.heap.size + cells) (kk : am_KK p l e R s m args below meth c cells slots Q D ad dA Ls xs nL h S') (hs : am_do P d L ret i pc nx a b ls st h = some (.inl S'))
    (hh : am_hp i = false) :
    W p l e R s m args below meth c H locs cells slots Q (F0 m pc lsr (st.map (am_v ad))) := by
  obtain ⟨hx, hb, hml2, hown, hts, hr, hlocks, hnm⟩ := X
  obtain ⟨len, hd, hlen⟩ := hd
  cases i
  case tableswitch dflt lo hi offs =>
    have hs0 := am_i1_inv hs; clear hs; obtain ⟨x, r, hst, hs⟩ := hs0; subst hst
    split at hs
    · rename_i hc
      cases hs
      exact lv_tableOut hx hb hd hc hE (am_go kk g hl hz)
    · rename_i hc
      split at hs
      · rename_i off ho
        split at hs
        · cases hs
        · rename_i hn
          cases hs
          exact lv_tableIn hx hb hd (fun z => hc (Or.inl z)) (fun z => hc (Or.inr z)) ho (by omega) (am_go kk g hl hz)
      · cases hs
  all_goals (have hl1 := hlen.resolve_left (by rintro ⟨_, _, _, _, hq⟩; cases hq); have hl2 := hl1.1; have hl3 := hl1.2; clear hl1 hlen; subst hl2; subst hl3)
  case aload k =>
    cases hE
    dsimp only [am_do] at hs
    split at hs
    · rename_i q hq
      cases hs
      exact lv_aload hx hb hd (hl.1.2.2 _ _ hq) (am_go kk g hl hz)
    · cases hs
  case aload_n k =>
    cases hE
    dsimp only [am_do] at hs
    split at hs
    · rename_i q hq
      cases hs
      exact lv_aload_n hx hb hd rfl (hl.1.2.2 _ _ hq) (am_go kk g hl hz)
    · cases hs
  case iload k =>
    cases hE
    dsimp only [am_do] at hs
    split at hs
    · rename_i q hq
      cases hs
      exact lv_iload hx hb hd (hl.1.2.2 _ _ hq) (am_go kk g hl hz)
    · cases hs
  case iload_n k =>
    cases hE
    dsimp only [am_do] at hs
    split at hs
    · rename_i q hq
      cases hs
      exact lv_iload_n hx hb hd rfl (hl.1.2.2 _ _ hq) (am_go kk g hl hz)
    · cases hs
  case lload k =>
    cases hE
    dsimp only [am_do] at hs
    split at hs
    · rename_i q hq
      cases hs
      exact lv_lload hx hb hd (hl.1.2.2 _ _ hq) (am_go kk g hl hz)
    · cases hs
  case lload_n k =>
    cases hE
    dsimp only [am_do] at hs
    split at hs
    · rename_i q hq
      cases hs
      exact lv_lload_n hx hb hd rfl (hl.1.2.2 _ _ hq) (am_go kk g hl hz)
    · cases hs
  case astore k =>
    obtain ⟨rfl, hk⟩ := hE
    have hs0 := am_r1_inv hs; clear hs; obtain ⟨q, r, hst, hs⟩ := hs0; subst hst
    cases hs
    exact lv_astore hx hb hd (am_L_has hl.1) (by rw [hml]; exact hk) rfl (fun ls' h' => am_go kk g ⟨am_L_st1 (v := .ref q) hl.2 h', am_nd_set (am_nd_cut hl.2) (fun w e h2 => by cases e; cases h2)⟩ hz)
  case astore_n k =>
    obtain ⟨rfl, hk⟩ := hE
    have hs0 := am_r1_inv hs; clear hs; obtain ⟨q, r, hst, hs⟩ := hs0; subst hst
    cases hs
    exact lv_astore_n hx hb hd rfl (am_L_has hl.1) (by rw [hml]; exact hk) rfl (fun ls' h' => am_go kk g ⟨am_L_st1 (v := .ref q) hl.2 h', am_nd_set (am_nd_cut hl.2) (fun w e h2 => by cases e; cases h2)⟩ hz)
  case istore k =>
    obtain ⟨rfl, hk⟩ := hE
    have hs0 := am_i1_inv hs; clear hs; obtain ⟨q, r, hst, hs⟩ := hs0; subst hst
    cases hs
    exact lv_istore hx hb hd (am_L_has hl.1) (by rw [hml]; exact hk) rfl (fun ls' h' => am_go kk g ⟨am_L_st1 (v := .int q) hl.2 h', am_nd_set (am_nd_cut hl.2) (fun w e h2 => by cases e; cases h2)⟩ hz)
  case istore_n k =>
    obtain ⟨rfl, hk⟩ := hE
    have hs0 := am_i1_inv hs; clear hs; obtain ⟨q, r, hst, hs⟩ := hs0; subst hst
    cases hs
    exact lv_istore_n hx hb hd rfl (am_L_has hl.1) (by rw [hml]; exact hk) rfl (fun ls' h' => am_go kk g ⟨am_L_st1 (v := .int q) hl.2 h', am_nd_set (am_nd_cut hl.2) (fun w e h2 => by cases e; cases h2)⟩ hz)
  case lstore k =>
    obtain ⟨rfl, hk⟩ := hE
    have hs0 := am_l1_inv hs; clear hs; obtain ⟨q, r, hst, hs⟩ := hs0; subst hst
    cases hs
    exact lv_lstore hx hb hd (am_L_has hl.1) (by rw [hml]; exact hk) rfl (fun ls' h' => am_go kk g ⟨am_L_st2 (v := .long q) hl.2 h', am_nd_set (am_nd_set (am_nd_cut hl.2) (fun w e h2 => by cases e; rfl)) (fun w e => by cases e)⟩ hz)
  case lstore_n k =>
    obtain ⟨rfl, hk⟩ := hE
    have hs0 := am_l1_inv hs; clear hs; obtain ⟨q, r, hst, hs⟩ := hs0; subst hst
    cases hs
    exact lv_lstore_n hx hb hd rfl (am_L_has hl.1) (by rw [hml]; exact hk) rfl (fun ls' h' => am_go kk g ⟨am_L_st2 (v := .long q) hl.2 h', am_nd_set (am_nd_set (am_nd_cut hl.2) (fun w e h2 => by cases e; rfl)) (fun w e => by cases e)⟩ hz)
  case iinc k n =>
    obtain ⟨rfl, hk⟩ := hE
    dsimp only [am_do] at hs
    split at hs
    · rename_i q hq
      cases hs
      obtain ⟨j, hj⟩ := List.mem_iff_getElem?.mp ((am_prs_mem ls 0 (a, .int q)).mpr ⟨a, .int q, hq, by rw [Nat.zero_add]; rfl⟩)
      exact lv_iinc hx hb hd (am_L_has hl.1) hj rfl (by rw [hml]; exact hk) rfl (fun ls' h' => am_go kk g ⟨am_L_st1 (v := .int _) hl.2 h', am_nd_set (am_nd_cut hl.2) (fun w e h2 => by cases e; cases h2)⟩ hz)
    · cases hs
  case iconst n => cases hs; exact lv_iconst hx hb hd rfl (am_go kk g hl hz)
  case bipush n => cases hs; exact lv_bipush hx hb hd rfl (am_go kk g hl hz)
  case sipush n => cases hs; exact lv_sipush hx hb hd rfl (am_go kk g hl hz)
  case lconst n => cases hs; exact lv_lconst hx hb hd rfl (am_go kk g hl hz)
  case ldc_w idx => cases hs; exact lv_ldcw hx hb hown (hts _ hE) hd (am_go kk g hl hz)
  case ldc2_w idx => cases hs; exact lv_ldc2 hx hb hown (hts _ hE) hd (am_go kk g hl hz)
  case iadd => have hs0 := am_ii_inv hs; clear hs; obtain ⟨x, y, r, hst, hs⟩ := hs0; subst hst; cases hs; exact lv_iadd hx hb hd (am_go kk g hl hz)
  case isub => have hs0 := am_ii_inv hs; clear hs; obtain ⟨x, y, r, hst, hs⟩ := hs0; subst hst; cases hs; exact lv_isub hx hb hd (am_go kk g hl hz)
  case imul => have hs0 := am_ii_inv hs; clear hs; obtain ⟨x, y, r, hst, hs⟩ := hs0; subst hst; cases hs; exact lv_imul hx hb hd (am_go kk g hl hz)
  case iand => have hs0 := am_ii_inv hs; clear hs; obtain ⟨x, y, r, hst, hs⟩ := hs0; subst hst; cases hs; exact lv_iand hx hb hd (am_go kk g hl hz)
  case ior => have hs0 := am_ii_inv hs; clear hs; obtain ⟨x, y, r, hst, hs⟩ := hs0; subst hst; cases hs; exact lv_ior hx hb hd (am_go kk g hl hz)
  case ixor => have hs0 := am_ii_inv hs; clear hs; obtain ⟨x, y, r, hst, hs⟩ := hs0; subst hst; cases hs; exact lv_ixor hx hb hd (am_go kk g hl hz)
  case ishl => have hs0 := am_ii_inv hs; clear hs; obtain ⟨x, y, r, hst, hs⟩ := hs0; subst hst; cases hs; exact lv_ishl hx hb hd (am_go kk g hl hz)
  case ishr => have hs0 := am_ii_inv hs; clear hs; obtain ⟨x, y, r, hst, hs⟩ := hs0; subst hst; cases hs; exact lv_ishr hx hb hd (am_go kk g hl hz)
  case iushr => have hs0 := am_ii_inv hs; clear hs; obtain ⟨x, y, r, hst, hs⟩ := hs0; subst hst; cases hs; exact lv_iushr hx hb hd rfl (am_go kk g hl hz)
  case idiv =>
    have hs0 := am_ii_inv hs; clear hs; obtain ⟨x, y, r, hst, hs⟩ := hs0; subst hst
    split at hs
    · cases hs
    · rename_i hy
      cases hs; exact lv_idiv hx hb hd hy (am_go kk g hl hz)
  case irem =>
    have hs0 := am_ii_inv hs; clear hs; obtain ⟨x, y, r, hst, hs⟩ := hs0; subst hst
    split at hs
    · cases hs
    · rename_i hy
      cases hs; exact lv_irem hx hb hd hy (am_go kk g hl hz)
  case ineg => have hs0 := am_i1_inv hs; clear hs; obtain ⟨x, r, hst, hs⟩ := hs0; subst hst; cases hs; exact lv_ineg hx hb hd (am_go kk g hl hz)
  case ladd => have hs0 := am_ll_inv hs; clear hs; obtain ⟨x, y, r, hst, hs⟩ := hs0; subst hst; cases hs; exact lv_ladd hx hb hd (am_go kk g hl hz)
  case lmul => have hs0 := am_ll_inv hs; clear hs; obtain ⟨x, y, r, hst, hs⟩ := hs0; subst hst; cases hs; exact lv_lmul hx hb hd (am_go kk g hl hz)
  case lor => have hs0 := am_ll_inv hs; clear hs; obtain ⟨x, y, r, hst, hs⟩ := hs0; subst hst; cases hs; exact lv_lor hx hb hd (am_go kk g hl hz)
  case lcmp => have hs0 := am_ll_inv hs; clear hs; obtain ⟨x, y, r, hst, hs⟩ := hs0; subst hst; cases hs; exact W.lcmp hx hb hd (am_go kk g hl hz)
  case ldiv =>
    have hs0 := am_ll_inv hs; clear hs; obtain ⟨x, y, r, hst, hs⟩ := hs0; subst hst
    split at hs
    · cases hs
    · rename_i hy
      cases hs; exact lv_ldiv hx hb hd hy (am_go kk g hl hz)
  case lrem =>
    have hs0 := am_ll_inv hs; clear hs; obtain ⟨x, y, r, hst, hs⟩ := hs0; subst hst
    split at hs
    · cases hs
    · rename_i hy
      cases hs; exact lv_lrem hx hb hd hy (am_go kk g hl hz)
  case lshl =>
    have hs0 := am_i1_inv hs; clear hs; obtain ⟨y, r, hst, hs⟩ := hs0; subst hst
    have hs0 := am_l1_inv hs; clear hs; obtain ⟨x, r, hst, hs⟩ := hs0; subst hst
    cases hs; exact lv_lshl hx hb hd rfl (am_go kk g hl hz)
  case i2l => have hs0 := am_i1_inv hs; clear hs; obtain ⟨x, r, hst, hs⟩ := hs0; subst hst; cases hs; exact lv_i2l hx hb hd rfl (am_go kk g hl hz)
  case l2i => have hs0 := am_l1_inv hs; clear hs; obtain ⟨x, r, hst, hs⟩ := hs0; subst hst; cases hs; exact lv_l2i hx hb hd rfl (am_go kk g hl hz)
  case i2b => have hs0 := am_i1_inv hs; clear hs; obtain ⟨x, r, hst, hs⟩ := hs0; subst hst; cases hs; exact lv_i2b hx hb hd rfl (am_go kk g hl hz)
  case i2c => have hs0 := am_i1_inv hs; clear hs; obtain ⟨x, r, hst, hs⟩ := hs0; subst hst; cases hs; exact lv_i2c hx hb hd rfl (am_go kk g hl hz)
  case dup =>
    dsimp only [am_do] at hs
    split at hs
    · cases hs; exact lv_dup hx hb hd rfl (am_go kk g hl hz)
    · cases hs; exact lv_dup hx hb hd rfl (am_go kk g hl hz)
    · cases hs
  case dup2 => have hs0 := am_ri_inv hs; clear hs; obtain ⟨q, j, r, hst, hs⟩ := hs0; subst hst; cases hs; exact lv_dup2_11 hx hb hd rfl rfl (am_go kk g hl hz)
  case pop => have hs0 := am_i1_inv hs; clear hs; obtain ⟨x, r, hst, hs⟩ := hs0; subst hst; cases hs; exact lv_pop hx hb hd rfl (am_go kk g hl hz)
  case goto off => cases hs; exact lv_goto hx hb hd hE (am_go kk g hl hz)
  case ifnonnull off =>
    dsimp only [am_do] at hs
    split at hs
    · cases hs; exact lv_ifnonnull hx hb hd hE (am_go kk g hl hz)
    · cases hs; exact lv_ifnonnullN hx hb hd (am_go kk g hl hz)
    · cases hs
  case ifCond cd off =>
    have hs0 := am_i1_inv hs; clear hs; obtain ⟨x, r, hst, hs⟩ := hs0; subst hst
    cases hc : am_cnd cd x 0 with
    | true =>
      rw [hc] at hs; cases hs
      cases cd
      · exact lv_if_eq hx hb hd hE (fun _ => am_go kk g hl hz) (fun z => absurd (of_decide_eq_true hc) z)
      · exact lv_if_ne hx hb hd hE (fun _ => am_go kk g hl hz) (fun z => absurd z (of_decide_eq_true hc))
      · exact lv_if_lt hx hb hd hE (fun _ => am_go kk g hl hz) (fun z => absurd (of_decide_eq_true hc) z)
      · exact lv_if_ge hx hb hd hE (fun _ => am_go kk g hl hz) (fun z => absurd (of_decide_eq_true hc) z)
      · exact lv_if_gt hx hb hd hE (fun _ => am_go kk g hl hz) (fun z => absurd (of_decide_eq_true hc) z)
      · exact lv_if_le hx hb hd hE (fun _ => am_go kk g hl hz) (fun z => absurd (of_decide_eq_true hc) z)
    | false =>
      rw [hc] at hs; cases hs
      cases cd
      · exact lv_if_eq hx hb hd hE (fun z => absurd z (of_decide_eq_false hc)) (fun _ => am_go kk g hl hz)
      · exact lv_if_ne hx hb hd hE (fun z => absurd z (of_decide_eq_false hc)) (fun _ => am_go kk g hl hz)
      · exact lv_if_lt hx hb hd hE (fun z => absurd z (of_decide_eq_false hc)) (fun _ => am_go kk g hl hz)
      · exact lv_if_ge hx hb hd hE (fun z => absurd z (of_decide_eq_false hc)) (fun _ => am_go kk g hl hz)
      · exact lv_if_gt hx hb hd hE (fun z => absurd z (of_decide_eq_false hc)) (fun _ => am_go kk g hl hz)
      · exact lv_if_le hx hb hd hE (fun z => absurd z (of_decide_eq_false hc)) (fun _ => am_go kk g hl hz)
  case if_icmp cd off =>
    have hs0 := am_ii_inv hs; clear hs; obtain ⟨x, y, r, hst, hs⟩ := hs0; subst hst
    cases hc : am_cnd cd x y with
    | true =>
      rw [hc] at hs; cases hs
      cases cd
      · exact lv_icmp_eq hx hb hd hE (fun _ => am_go kk g hl hz) (fun z => absurd (of_decide_eq_true hc) z)
      · exact lv_icmp_ne hx hb hd hE (fun _ => am_go kk g hl hz) (fun z => absurd z (of_decide_eq_true hc))
      · exact lv_icmp_lt hx hb hd hE (fun _ => am_go kk g hl hz) (fun z => absurd (of_decide_eq_true hc) z)
      · exact lv_icmp_ge hx hb hd hE (fun _ => am_go kk g hl hz) (fun z => absurd (of_decide_eq_true hc) z)
      · exact lv_icmp_gt hx hb hd hE (fun _ => am_go kk g hl hz) (fun z => absurd (of_decide_eq_true hc) z)
      · exact lv_icmp_le hx hb hd hE (fun _ => am_go kk g hl hz) (fun z => absurd (of_decide_eq_true hc) z)
    | false =>
      rw [hc] at hs; cases hs
      cases cd
      · exact lv_icmp_eq hx hb hd hE (fun z => absurd z (of_decide_eq_false hc)) (fun _ => am_go kk g hl hz)
      · exact lv_icmp_ne hx hb hd hE (fun z => absurd z (of_decide_eq_false hc)) (fun _ => am_go kk g hl hz)
      · exact lv_icmp_lt hx hb hd hE (fun z => absurd z (of_decide_eq_false hc)) (fun _ => am_go kk g hl hz)
      · exact lv_icmp_ge hx hb hd hE (fun z => absurd z (of_decide_eq_false hc)) (fun _ => am_go kk g hl hz)
      · exact lv_icmp_gt hx hb hd hE (fun z => absurd z (of_decide_eq_false hc)) (fun _ => am_go kk g hl hz)
      · exact lv_icmp_le hx hb hd hE (fun z => absurd z (of_decide_eq_false hc)) (fun _ => am_go kk g hl hz)
  all_goals (first | (cases hh; done) | (cases hs; done) | (exfalso; dsimp only [am_do] at hs; split at hs <;> first | (cases hs; done) | (have hs1 := (am_bif_inv hs).2; cases hs1)))
end AMP
end
section
/-! ===== calls and the main theorem ===== -/
section AMC
variable {D : va_G} {ad dA : Nat → Nat} {Ls : Nat} {xs : Nat → Int32}
theorem am_K_moved {s U : State} {H : Heap} {locs : List Loc} (hK : am_K D ad dA Ls xs s) (hU : U.heap = H) (hW : s.WarmedH U.vm) (hS : va_S (am_A ad) s.heap H locs) : am_K D ad dA Ls xs U := by
  obtain ⟨hKa, hK5, ⟨z1, z2, z3, z4, z5, z6, z7, z8, z9, z10⟩, h8, hA⟩ := hK
  subst hU
  have hal := hW.alike
  refine ⟨va_K.moved hal hKa, ?_, ⟨va_X.moved hal (z1.kept ?_), z2, (z3.moved hal).kept hS.2.1, (z4.moved hal).kept hS.2.1, (z5.moved hal).kept hS.2.1, z6.warm hW, z7.warm hW, z8.warm hW, (z9.moved hal).kept hS.2.1, (z10.moved hal).kept hS.2.1⟩, Nat.le_trans h8 hS.1, hA⟩
  · obtain ⟨⟨kA, h1, h2⟩, h3, h4, h5⟩ := hK5
    obtain ⟨k', hk', he⟩ := hal.2.2 _ _ h1
    exact ⟨⟨k', hk', by rw [he]; exact h2⟩, h3.moved hal, h4.moved hal, am_Ns_warm hW h5⟩
  · obtain ⟨scr, h1, -⟩ := z1
    exact hS.2.1 _ (Array.getElem?_eq_some_iff.mp h1).1 z2
theorem am_K_cal {U : State} {g : JFrame} {mk : MethodId} {a : Array Value} (hK : am_K D ad dA Ls xs U) : am_K D ad dA Ls xs (U.calling g mk a) := by
  obtain ⟨hKa, hK5, ⟨z1, z2, z3, z4, z5, z6, z7, z8, z9, z10⟩, h8, hA⟩ := hK
  have hal : U.vm.Alike (U.calling g mk a).vm := Vm.Alike.refl U.vm
  exact ⟨va_K.moved hal hKa, ⟨hK5.1, hK5.2.1.moved hal, hK5.2.2.1.moved hal, am_Ns_same (s := U) rfl hK5.2.2.2⟩, ⟨va_X.moved hal z1, z2, z3.moved hal, z4.moved hal, z5.moved hal, z6.same rfl, z7.same rfl, z8.same rfl, z9.moved hal, z10.moved hal⟩, h8, hA⟩
/-- a method's start and end, as the abstract machine has them -/
def am_B (D : va_G) (ad dA : Nat → Nat) (Ls : Nat) (xs : Nat → Int32) (h : am_H) (U : State) : Prop := am_K D ad dA Ls xs U ∧ am_G D ad dA Ls xs U.heap U.heap h []
def am_Qc (D : va_G) (ad dA : Nat → Nat) (Ls : Nat) (xs : Nat → Int32) (r : Option Value) (h : am_H) : Array Value → State → Outcome → State → Prop := fun _ st o t => o = .returned (r.map (am_v ad)) ∧ ∃ locs, am_G D ad dA Ls xs st.heap t.heap h locs
theorem am_blind {vs : List Value} {h : am_H} : FrameBlind (va_Pc vs (am_B D ad dA Ls xs h)) := fun a U g mk q => ⟨q.1, am_K_cal q.2.1, q.2.2⟩
variable {p : Program} {l : Launch} {e : Env} {R : Room} {s : State} {m : MethodId} {args : Array Value} {below : List Frame} {meth : Method} {c : Code} {H : Heap} {locs : List Loc} {cells slots : Nat} {Q : State → Prop}
variable {h h1 : am_H} {lsr : Array Slot} {pc : Nat} {rest st0 : List Value} {r : Option Value} {a : Array Value}
theorem am_pre (g : am_G D ad dA Ls xs s.heap H h locs) (hK : am_K D ad dA Ls xs s) {U : State} (hU : U.heap = H) (hW : s.WarmedH U.vm) : am_B D ad dA Ls xs h U := by
  refine ⟨am_K_moved hK hU hW g.2.2.1, ?_⟩
  subst hU
  obtain ⟨g1, g2, g3, g4, g5, g6, g7⟩ := g
  exact ⟨g1, g2, va_S.rf, g4, g5, g6, g7⟩
theorem am_goC (hr : va_Run p l e R s m args below meth c H locs cells slots (h1.1 - h.1) (h1.2.1 - h.2.1) (F0 m pc lsr st0) rest (am_Qc D ad dA Ls xs r h1 a) (am_A ad)) (hA : ∀ i, 8 ≤ i → ad (i + 1) = ad i + 1) (g : am_G D ad dA Ls xs s.heap H h locs) (hz : H.size = s.heap.size + cells) (hle : h.1 ≤ h1.1)
    (kk : ∀ (H1 : Heap) (locs1 : List Loc), am_G D ad dA Ls xs s.heap H1 h1 locs1 → H1.size = s.heap.size + (cells + (h1.1 - h.1)) → W p l e R s m args below meth c H1 locs1 (cells + (h1.1 - h.1)) (slots + (h1.2.1 - h.2.1)) Q (F0 m (pc + 3) lsr ((r.map (am_v ad)).toList ++ rest))) : W p l e R s m args below meth c H locs cells slots Q (F0 m pc lsr st0) := by
  intro T hT X
  obtain ⟨v, st₀, t, T', L, h0, X', hL, e1, e2, ⟨hv, locs', hG⟩, st⟩ := hr T hT X
  cases hv
  have g3 := g.2.2.1
  obtain ⟨q1, q2, q3, q4, q5, q6, q7⟩ := hG
  rw [h0] at q3
  rw [← e1] at q1 q3 q5
  have hsz : T'.heap.size = s.heap.size + (cells + (h1.1 - h.1)) := by
    have a1 := am_ad hA (h.1 - 8)
    have a2 := am_ad hA (h1.1 - 8)
    rw [show 8 + (h.1 - 8) = h.1 by have := g.2.2.2.1; omega] at a1
    rw [show 8 + (h1.1 - 8) = h1.1 by omega] at a2
    have a3 := g.2.2.2.2.1
    have := g.2.2.2.1
    omega
  obtain ⟨t2, a1, b1⟩ := kk T'.heap (locs ++ L) ⟨q1, q2, ⟨(am_S_tr g3 q3).1, (am_S_tr g3 q3).2.1, fun q hq => by
      rcases List.mem_append.mp hq with h | h
      · exact g3.2.2 q h
      · exact hL q h⟩, q4, q5, q6, q7⟩ hsz T' rfl X'
  exact ⟨t2, st t2 a1, b1⟩
end AMC
end
section
/-! ===== String.checkIndex within its bounds: it returns and changes nothing ===== -/
section AMK
variable {Ts : List Cond} {l : Launch} {D : va_G} {ad dA : Nat → Nat} {Ls : Nat} {xs : Nat → Int32} {h : am_H}
theorem am_goodT (hG : ∀ w ∈ Ts, goodWord w = true) {ws : List Cond} (h : ∀ w ∈ ws, w ∈ Ts) : GoodIn Ts ws := fun w hw => ⟨h w hw, good_of_word (hG w (h w hw))⟩
theorem am_consT {w0 : Cond} (h : w0 ∈ Ts) : ∀ w ∈ w0 :: Ts, w ∈ Ts := by
  intro w hw
  rcases List.mem_cons.mp hw with e | e
  · rw [e]; exact h
  · exact e
theorem am_dP0 : decode prog_21_method_11_code 0 = .ok (.iload_n 0, 1) := by decide +kernel
theorem am_dP1 : decode prog_21_method_11_code 1 = .ok (.ifCond .lt 8, 3) := by decide +kernel
theorem am_dP4 : decode prog_21_method_11_code 4 = .ok (.iload_n 0, 1) := by decide +kernel
theorem am_dP5 : decode prog_21_method_11_code 5 = .ok (.iload_n 1, 1) := by decide +kernel
theorem am_dP6 : decode prog_21_method_11_code 6 = .ok (.if_icmp .lt 10, 3) := by decide +kernel
theorem am_dP16 : decode prog_21_method_11_code 16 = .ok (.iload_n 0, 1) := by decide +kernel
theorem am_dP17 : decode prog_21_method_11_code 17 = .ok (.ireturn, 1) := by decide +kernel
theorem am_dC0 : decode prog_16_method_155_code 0 = .ok (.iload_n 0, 1) := by decide +kernel
theorem am_dC1 : decode prog_16_method_155_code 1 = .ok (.iload_n 1, 1) := by decide +kernel
theorem am_dC2 : decode prog_16_method_155_code 2 = .ok (.getstatic 1053, 3) := by decide +kernel
theorem am_dC5 : decode prog_16_method_155_code 5 = .ok (.invokestatic 1059, 3) := by decide +kernel
theorem am_dC8 : decode prog_16_method_155_code 8 = .ok (.pop, 1) := by decide +kernel
theorem am_dC9 : decode prog_16_method_155_code 9 = .ok (.return_, 1) := by decide +kernel
theorem am_ck0 {x y : Int32} {fv : Value} (hf : fv.category = 1) (h0 : ¬ x < 0) (hy : x < y) : Met l am_yPr (Cond.code am_yPr prog_21_method_11_code 3 (some .int) :: Ts) ({ frames := 0, cells := h.1 - h.1, slots := h.2.1 - h.2.1, locals := 0 }) (va_Pc [.int x, .int y, fv] (am_B D ad dA Ls xs h)) (am_Qc D ad dA Ls xs (some (.int x)) h) (h.1 - h.1) (h.2.1 - h.2.1) (am_A ad) := by
  refine Met.ofW (cc := prog_21_method_11_code) (maxL := 3) (ret := some .int) (by decide) rfl ?_
  intro p e s m args below meth c s₁ B hml hv
  obtain ⟨rfl, hK, hGh⟩ := hv
  have hx := B.exec
  have hb := B.bytes
  have hlen : (lg_sl [.int x, .int y, fv]).length ≤ 3 := by cases fv <;> first | (cases hf; done) | exact Nat.le_refl 3
  have hl := lv_entry ([.int x, .int y, fv]) (n := 3) hlen
  rw [lg_entry_eq]
  generalize (lg_sl [.int x, .int y, fv] ++ List.replicate (3 - (lg_sl [.int x, .int y, fv]).length) Slot.unset).toArray = ls at hl ⊢
  have h0l : ls[0]? = some (.val (.int x)) := hl.2.2 (0, .int x) (by simp [lv_args])
  have h1l : ls[1]? = some (.val (.int y)) := hl.2.2 (1, .int y) (by simp [lv_args, Value.category])
  refine lv_iload_n hx hb am_dP0 rfl h0l ?_
  refine lv_if_lt (tgt := 9) hx hb am_dP1 (by decide) (fun z => absurd z h0) (fun _ => ?_)
  refine lv_iload_n hx hb am_dP4 rfl h0l ?_
  refine lv_iload_n hx hb am_dP5 rfl h1l ?_
  refine lv_icmp_lt (tgt := 16) hx hb am_dP6 (by decide) (fun _ => ?_) (fun z => absurd hy z)
  refine lv_iload_n hx hb am_dP16 rfl h0l ?_
  refine W.widen (k := h.1 - h.1) (n := h.2.1 - h.2.1) (by omega) (by omega) ?_
  exact W.iret hx hb B.returns (fun t ht _ => ⟨rfl, [], by rw [ht]; exact hGh⟩) (fun q hq => by cases hq) am_dP17 B.notSynchronized
theorem am_ck1 (hG : ∀ w ∈ Ts, goodWord w = true) (hw : ∀ w ∈ am_ckw, w ∈ Ts) {x y : Int32} (h0 : ¬ x < 0) (hy : x < y) : Met l am_yCk (Cond.code am_yCk prog_16_method_155_code 2 none :: Ts) ({ frames := 1, cells := h.1 - h.1, slots := h.2.1 - h.2.1, locals := 22 }) (va_Pc [.int x, .int y] (am_B D ad dA Ls xs h)) (am_Qc D ad dA Ls xs none h) (h.1 - h.1) (h.2.1 - h.2.1) (am_A ad) := by
  refine Met.ofW (cc := prog_16_method_155_code) (maxL := 2) (ret := none) (by decide) rfl ?_
  intro p e s m args below meth c s₁ B hml hv
  obtain ⟨rfl, hK, hGh⟩ := hv
  have hx := B.exec
  have hb := B.bytes
  have hts0 := atoms_spec (ws := Cond.code am_yCk prog_16_method_155_code 2 none :: Ts) B.pre
  have hts : ∀ w ∈ Ts, w.before [Value.int x, Value.int y].toArray s = true := fun w h => hts0 w (List.mem_cons_of_mem _ h)
  have hown : s.vm.findClass "java/lang/String" = some m.cls := findClass_of_methodNamed B.named
  have hl := lv_entry ([.int x, .int y]) (n := 2) (Nat.le_of_ble_eq_true rfl)
  rw [lg_entry_eq]
  generalize (lg_sl [.int x, .int y] ++ List.replicate (2 - (lg_sl [.int x, .int y]).length) Slot.unset).toArray = ls at hl ⊢
  have h0l : ls[0]? = some (.val (.int x)) := hl.2.2 (0, .int x) (by simp [lv_args])
  have h1l : ls[1]? = some (.val (.int y)) := hl.2.2 (1, .int y) (by simp [lv_args, Value.category])
  have hlw : ∀ w ∈ am_ckw, w.before [Value.int x, Value.int y].toArray s = true := fun w h => hts w (hw w h)
  have main : ∀ fv : Value, fv.category = 1 → va_Z "jdk/internal/util/Preconditions" "SIOOBE_FORMATTER" "Ljava/util/function/BiFunction;" fv (am_A ad) s s.heap → W p l e (headSpec (Cond.code am_yCk prog_16_method_155_code 2 none :: Ts) { frames := 1, cells := h.1 - h.1, slots := h.2.1 - h.2.1, locals := 22 }).room s m [Value.int x, Value.int y].toArray below meth c s.heap [] 0 0 (MQ below (am_Qc D ad dA Ls xs none h) [Value.int x, Value.int y].toArray s (h.1 - h.1) (h.2.1 - h.2.1) (am_A ad)) (F0 m 0 ls []) := by
    intro fv hf hZ
    refine lv_iload_n hx hb am_dC0 rfl h0l ?_
    refine lv_iload_n hx hb am_dC1 rfl h1l ?_
    refine va_gets hx hb hZ va_S.rf hown (hlw _ (by simp [am_ckw])) (fun _ h => h) am_dC2 ?_
    refine am_goC (h := h) (h1 := h) (r := some (.int x)) (rest := []) (va_runS (As := [.int x, .int y, fv]) ⟨hx, hb, hml, hown, hts⟩ (am_ck0 hf h0 hy) ⟨callB_of 3 hts (am_goodT hG (am_consT (hw _ (by simp [am_ckw])))) rfl rfl rfl (hlw _ (by simp [am_ckw, am_yPr])) (hlw _ (by simp [am_ckw])) (by decide +kernel) ⟨Nat.le_refl _, Nat.le_refl _⟩, hlw _ (by simp [am_ckw])⟩ ⟨am_blind, fun U hU hW => ⟨rfl, am_pre hGh hK hU hW⟩⟩ rfl rfl hl.1 rfl (lv_room (by decide)) am_dC5 ⟨Nat.le_of_eq (Nat.zero_add _), Nat.le_of_eq (Nat.zero_add _)⟩) hK.2.2.2.2 hGh rfl (Nat.le_refl _) ?_
    intro H1 locs1 g1 hz1
    refine lv_pop hx hb am_dC8 rfl ?_
    rw [Nat.zero_add, Nat.zero_add]
    exact W.vret hx hb B.returns (fun t ht _ => ⟨rfl, locs1, by rw [ht]; exact g1⟩) g1.2.2.1.2.2 am_dC9 B.notSynchronized
  rcases hK.2.2.1.2.2.2.2.2.2.2.2.2 with hZ | ⟨t, hZ⟩
  · exact main _ rfl hZ
  · exact main _ rfl hZ
variable {p : Program} {e : Env} {R : Room} {s : State} {m : MethodId} {args : Array Value} {below : List Frame} {meth : Method} {c : Code} {H : Heap} {locs : List Loc} {cells slots : Nat} {Q : State → Prop}
theorem am_ckrun (hG : ∀ w ∈ Ts, goodWord w = true) (hw : ∀ w ∈ am_ckw, w ∈ Ts) {cc : ByteArray} {nL pc index : Nat} {own : String} {lsr : Array Slot} {r : List Value} {x y : Int32} (hx : p.tables.exec = Jvm.exec) (hb : c.code = cc) (hml : c.maxLocals = nL) (hown : s.vm.findClass own = some m.cls) (hts : ∀ w ∈ Ts, w.before args s = true) (hsz : lsr.size = nL) (hK : am_K D ad dA Ls xs s) (g : am_G D ad dA Ls xs s.heap H h locs) (hz : H.size = s.heap.size + cells) (hlink : (Cond.methodLink own index am_yCk).before args s = true) (h0 : ¬ x < 0) (hy : x < y) (h8 : am_cat r ≤ 8) (hf : 2 ≤ R.frames) (hL : 60 ≤ R.locals) (hRc : cells + (h.1 - h.1) ≤ R.cells) (hRs : slots + (h.2.1 - h.2.1) ≤ R.slots) (hdg : decode cc pc = .ok (.invokestatic index, 3))
    (kk : ∀ (H1 : Heap) (locs1 : List Loc), am_G D ad dA Ls xs s.heap H1 h locs1 → H1.size = s.heap.size + cells → W p l e R s m args below meth c H1 locs1 cells slots Q (F0 m (pc + 3) lsr (r.map (am_v ad)))) : W p l e R s m args below meth c H locs cells slots Q (F0 m pc lsr ((.int y :: .int x :: r).map (am_v ad))) := by
  refine am_goC (h := h) (h1 := h) (r := none) (rest := r.map (am_v ad)) (va_runS (As := [.int x, .int y]) ⟨hx, hb, hml, hown, hts⟩ (am_ck1 hG hw h0 hy) ⟨callB_of 2 hts (am_goodT hG (am_consT (hw _ (by simp [am_ckw])))) rfl rfl rfl (hts _ (hw _ (by simp [am_ckw, am_yCk]))) hlink (by decide +kernel) ⟨hf, Nat.le_trans (show 8 + (2 + 11) + 22 ≤ 60 by decide) hL⟩, hts _ (hw _ (by simp [am_ckw]))⟩ ⟨am_blind, fun U hU hW => ⟨rfl, am_pre g hK hU hW⟩⟩ rfl rfl hsz rfl ?_ hdg ⟨hRc, hRs⟩) hK.2.2.2.2 g hz (Nat.le_refl _) ?_
  · rw [am_v_sum]
    show 2 * 0 + am_cat r ≤ 8
    omega
  · intro H1 locs1 g1 hz1
    rw [Nat.sub_self] at hz1
    have := kk H1 locs1 g1 hz1
    rw [Nat.sub_self, Nat.sub_self, Nat.add_zero, Nat.add_zero]
    exact this
end AMK
end
section
/-! ===== the JVM does what the abstract machine says: the instructions that look at the heap or at the tables ===== -/
section AMQ
variable {p : Program} {l : Launch} {e : Env} {R : Room} {s : State} {m : MethodId} {args : Array Value} {below : List Frame} {meth : Method} {c : Code} {H H1 : Heap} {locs locs1 : List Loc} {cells slots : Nat} {Q : State → Prop}
variable {D : va_G} {ad dA : Nat → Nat} {Ls : Nat} {xs : Nat → Int32} {h : am_H} {P : Nat → am_M} {yN : Nat → MethodName} {cN : Nat → ByteArray} {Ts : List Cond} {NM M pc nx a b d L ret nL : Nat} {ls : List (Option Value)} {lsr : Array Slot} {st : List Value} {S' : am_S}
theorem am_lt8 {q : Nat} (h : q < 8) : q = 0 ∨ q = 1 ∨ q = 2 ∨ q = 3 ∨ q = 4 ∨ q = 5 ∨ q = 6 ∨ q = 7 := by omega
theorem am_loc (g : am_G D ad dA Ls xs s.heap H h locs) (q : Nat) : (q < 8 ∧ h.2.2 q = am_im Ls xs q) ∨ (8 ≤ q ∧ q < h.1 ∧ (am_W ad dA h)[q - 8]? = some (ad q, am_e ad dA (h.2.2 q))) ∨ h.2.2 q = am_nil := by
  obtain ⟨g1, g2, g3, g4, g5, g6, g7⟩ := g
  by_cases h8 : q < 8
  · exact Or.inl ⟨h8, g7 q h8⟩
  · by_cases hq : q < h.1
    · exact Or.inr (Or.inl ⟨by omega, hq, am_W_at (by omega) hq⟩)
    · exact Or.inr (Or.inr (g6 q (by omega)))
theorem am_goU {q pc' : Nat} {x : am_C} {ls' : List (Option Value)} {lsr' : Array Slot} {st' : List Value} (kk : am_KK p l e R s m args below meth c cells slots Q D ad dA Ls xs nL h (pc', ls', st', am_up h q x)) (g : am_G D ad dA Ls xs s.heap H h locs) (hl : am_LN ad ls' lsr' nL) (hz : H.size = s.heap.size + cells) (h8 : 8 ≤ q) (hq : q < h.1)
    (hP : va_P D am_cl ((am_W ad dA h).set (q - 8) (ad q, am_e ad dA x)) H1) (hD : va_D (am_A ad) ((am_W ad dA h).set (q - 8) (ad q, am_e ad dA x))) (hS : va_S (am_A ad) H H1 locs1) : W p l e R s m args below meth c H1 locs1 cells slots Q (F0 m pc' lsr' (st'.map (am_v ad))) := by
  refine am_sz fun hz1 => ?_
  have h1 := hS.1
  have := kk H1 locs1 lsr' (am_G_up g h8 hq (by omega) hP hD hS) hl (by show H1.size = s.heap.size + (cells + (h.1 - h.1)); rw [Nat.sub_self]; omega)
  simpa only [am_up, Nat.sub_self, Nat.add_zero] using this
theorem am_goN {k pc' : Nat} {x : am_C} {ls' : List (Option Value)} {lsr' : Array Slot} {st' : List Value} (kk : am_KK p l e R s m args below meth c cells slots Q D ad dA Ls xs nL h (pc', ls', .ref h.1 :: st', am_nw h k x)) (g : am_G D ad dA Ls xs s.heap H h locs) (hA : ∀ i, 8 ≤ i → ad (i + 1) = ad i + 1) (hl : am_LN ad ls' lsr' nL) (hz : H.size = s.heap.size + cells) (hz1 : H1.size = H.size + 1)
    (hx : va_at D am_cl (ad h.1, am_e ad dA x) H1) (ho : ∀ q : Nat, q < H.size → H1[q]? = H[q]?) : W p l e R s m args below meth c H1 locs (cells + 1) (slots + k) Q (F0 m pc' lsr' (.ref H.size :: st'.map (am_v ad))) := by
  have := kk H1 locs lsr' (am_G_nw g hA hz1 hx ho) hl (by show H1.size = s.heap.size + (cells + (h.1 + 1 - h.1)); rw [Nat.add_sub_cancel_left]; omega)
  rw [← g.2.2.2.2.1]
  simp only [am_nw, Nat.add_sub_cancel_left] at this
  exact this
theorem am_rf (f : Nat → Option Nat) (j : Nat) : am_v ad (va_rf (f j)) = va_rf ((f j).map ad) := by
  cases f j <;> rfl
/-- an array's class by its kind -/
theorem am_cls {k : Nat} {ty : FieldType} (hK : va_K D am_cl (am_ty dA) s) (hk : (am_ty dA)[k]? = some (dA k, ty)) (hty : ∀ C, ty ≠ .object C) {cA : ClassId} (h : s.vm.findClass ("[" ++ ty.toString) = some cA) : cA = dA k := by
  have h2 := (hK.2 k _ hk).2
  cases ty <;> first | exact absurd rfl (hty _) | exact Option.some.inj (h.symm.trans h2)
theorem am_df_v (ad : Nat → Nat) (a j : Nat) (hj : j < am_nf a) : defaultValue (am_ft a j) = vp_V ((am_df a).map (am_v ad)) j := by
  unfold vp_V am_df
  rw [List.map_map, List.getD_eq_getElem?_getD, List.getElem?_map, List.getElem?_range hj]
  show _ = am_v ad (defaultValue (am_ft a j))
  cases am_ft a j <;> rfl
theorem am_asg (vm : Vm) (cA : ClassId) : vm.assignable cA cA = true := by
  show vm.assignableAux 256 cA cA = true
  unfold Vm.assignableAux
  simp
theorem am_up_map (f : Nat → Option Nat) (k w : Nat) : va_up (fun j => (f j).map ad) k (some (ad w)) = fun j => (va_up f k (some w) j).map ad := by
  funext j
  by_cases hj : j = k
  · simp [va_up, hj]
  · simp [va_up, hj]
/-- the heap's reads and writes, the tables' values -/
theorem am_sd2 (hG : ∀ w ∈ Ts, goodWord w = true) (X : am_X P yN cN Ts p s m args meth c M) (hml : nL = (P M).2.1) (hK : am_K D ad dA Ls xs s) (hU : ∀ k, k < 12 → ∀ w ∈ u_ws (am_cn k) (am_tb k) (am_nf k), w ∈ Ts) {i : Instr} (hd : ∃ len, decode (cN M) pc = .ok (i, len) ∧ ((∃ d lo hi os, i = .tableswitch d lo hi os) ∨ (len = am_len i ∧ nx = pc + len))) (hE : am_Ei P yN NM Ts (am_cn (P M).1) (yN M).name (P M).2.1 i pc a b)
    (g : am_G D ad dA Ls xs s.heap H h locs) (hl : am_LN ad ls lsr nL) (hz : H.size = s.heap.size + cells) (kk : am_KK p l e R s m args below meth c cells slots Q D ad dA Ls xs nL h S') (hs : am_do P d L ret i pc nx a b ls st h = some (.inl S'))
    (hRf : d ≤ R.frames) (hRl : L ≤ R.locals) (hRc : cells + (S'.2.2.2.1 - h.1) ≤ R.cells) (hRs : slots + (S'.2.2.2.2.1 - h.2.1) ≤ R.slots) (hh : am_hp i = true) :
    W p l e R s m args below meth c H locs cells slots Q (F0 m pc lsr (st.map (am_v ad))) := by
  obtain ⟨hx, hb, hml2, hown, hts, hr, hlocks, hnm⟩ := X
  have hK0 := hK
  obtain ⟨hKa, hK5, hZ, h8s, hA⟩ := hK
  obtain ⟨z1, z2, z3, z4, z5, z6, z7, z8, z9, z10⟩ := hZ
  obtain ⟨len, hd, hlen⟩ := hd
  have hS := g.2.2.1
  have hSs := am_S_self hS
  cases i
  all_goals first | (exact Bool.noConfusion hh) | skip
  all_goals (have hl1 := hlen.resolve_left (by rintro ⟨_, _, _, _, hq⟩; cases hq); have hl2 := hl1.1; have hl3 := hl1.2; clear hl1 hlen; subst hl2; subst hl3)
  case iaload =>
    have hs0 := am_ri_inv hs; clear hs; obtain ⟨q, j, r, hst, hs⟩ := hs0; subst hst
    have hs0 := am_cA_inv hs; clear hs; obtain ⟨n, f, hc, hs⟩ := hs0
    have hs0 := am_ix_inv hs; clear hs; obtain ⟨hin, hs⟩ := hs0
    cases hs
    rcases am_loc g q with ⟨h8, hq⟩ | ⟨h8, hlt, hq⟩ | hq
    · rw [hc] at hq
      rcases (am_lt8 h8) with e | e | e | e | e | e | e | e <;> subst e <;> first | (cases hq; done) | skip
      · cases hq
        exact va_sld hx hb z1 (by obtain ⟨scr, h1, -⟩ := z1; exact (Array.getElem?_eq_some_iff.mp h1).1) z2 hS hin hd (am_go kk g hl hz)
      · cases hq
        exact va_ti hx hb z4 hS hin rfl hd (am_go kk g hl hz)
    · rw [hc] at hq
      exact va_iald hx hb hKa g.1 (q - 8) 0 hq rfl hin hd (am_go kk g hl hz)
    · rw [hc] at hq; cases hq
  case baload =>
    have hs0 := am_ri_inv hs; clear hs; obtain ⟨q, j, r, hst, hs⟩ := hs0; subst hst
    have hs0 := am_cA_inv hs; clear hs; obtain ⟨n, f, hc, hs⟩ := hs0
    have hs0 := am_ix_inv hs; clear hs; obtain ⟨hin, hs⟩ := hs0
    cases hs
    rcases am_loc g q with ⟨h8, hq⟩ | ⟨h8, hlt, hq⟩ | hq
    · rw [hc] at hq
      rcases (am_lt8 h8) with e | e | e | e | e | e | e | e <;> subst e <;> rcases hE with hE | hE <;> subst hE <;> first | (cases hq; done) | skip
      · cases hq
        exact va_tb hx hb (z9.1 0 (by decide)).2.2.2 hS hin rfl hd (am_go kk g hl hz)
      · cases hq
        exact va_tb hx hb (z9.1 1 (by decide)).2.2.2 hS hin rfl hd (am_go kk g hl hz)
      · cases hq
        exact va_tb hx hb (z9.1 2 (by decide)).2.2.2 hS hin rfl hd (am_go kk g hl hz)
    · rw [hc] at hq
      rcases hE with hE | hE <;> subst hE
      · exact va_bald hx hb hKa g.1 (q - 8) 1 hq rfl hin hd (am_go kk g hl hz)
      · exact va_zald hx hb hKa g.1 (q - 8) 2 hq rfl hin hd (am_go kk g hl hz)
    · rw [hc] at hq; rcases hE with hE | hE <;> subst hE <;> cases hq
  case laload =>
    have hs0 := am_ri_inv hs; clear hs; obtain ⟨q, j, r, hst, hs⟩ := hs0; subst hst
    have hs0 := am_cL_inv hs; clear hs; obtain ⟨n, f, hc, hs⟩ := hs0
    have hs0 := am_ix_inv hs; clear hs; obtain ⟨hin, hs⟩ := hs0
    cases hs
    rcases am_loc g q with ⟨h8, hq⟩ | ⟨h8, hlt, hq⟩ | hq
    · rw [hc] at hq
      rcases (am_lt8 h8) with e | e | e | e | e | e | e | e <;> subst e <;> cases hq
    · rw [hc] at hq
      exact va_lald hx hb hKa g.1 (q - 8) 3 hq rfl hin hd (am_go kk g hl hz)
    · rw [hc] at hq; cases hq
  case aaload =>
    have hs0 := am_ri_inv hs; clear hs; obtain ⟨q, j, r, hst, hs⟩ := hs0; subst hst
    have hs0 := am_cQ_inv hs; clear hs; obtain ⟨t, n, f, hc, hs⟩ := hs0
    have hs0 := am_bif_inv hs; clear hs; obtain ⟨ht, hs⟩ := hs0
    have hs0 := am_ix_inv hs; clear hs; obtain ⟨hin, hs⟩ := hs0
    have ht := Nat.eq_of_beq_eq_true ht
    subst ht
    cases hs
    have kk2 := am_go kk g hl hz
    rw [List.map_cons, am_rf] at kk2
    rcases am_loc g q with ⟨h8, hq⟩ | ⟨h8, hlt, hq⟩ | hq
    · rw [hc] at hq
      rcases (am_lt8 h8) with e | e | e | e | e | e | e | e <;> subst e <;> cases hq
    · rw [hc] at hq
      rcases hE with hE | hE <;> subst hE
      · exact va_aldq (C := RX6) hx hb hKa g.1 (q - 8) 4 hq rfl hin hd kk2
      · have hlt : j.toNatClampNeg < n := Nat.not_le.mp fun q => hin (Or.inr q)
        exact W.aald (v := va_rf ((f j.toNatClampNeg).map ad)) (ty := .array .int) hx hb (g.1 (q - 8) _ hq) ((hKa.2 5 _ rfl).1 n (fun j => va_rf ((f j).map ad))) rfl (fun q => by cases q) (by show ¬ (j < 0 ∨ (arrV _ _ _).slots.size ≤ _); rw [arrV_size]; exact hin) (by show (arrV _ _ _).slots[_]? = _; rw [arrV_read _ _ hlt]) rfl rfl hd kk2
    · rw [hc] at hq; cases hq
  case arraylength =>
    have hs0 := am_r1_inv hs; clear hs; obtain ⟨q, r, hst, hs⟩ := hs0; subst hst
    split at hs
    · rename_i t n f hc
      have hs0 := am_bif_inv hs; clear hs; obtain ⟨ht, hs⟩ := hs0
      cases hs
      rcases am_loc g q with ⟨h8, hq⟩ | ⟨h8, hlt, hq⟩ | hq
      · rw [hc] at hq
        rcases (am_lt8 h8) with e | e | e | e | e | e | e | e <;> subst e <;> first | (cases hq; done) | skip
        · cases hq
          exact va_slen hx hb z1 (by obtain ⟨scr, h1, -⟩ := z1; exact (Array.getElem?_eq_some_iff.mp h1).1) z2 hS hd (am_go kk g hl hz)
        · cases hq
          exact va_tlen hx hb z4 hS rfl hd (am_go kk g hl hz)
        · cases hq
          exact va_tlen hx hb (z9.1 0 (by decide)).2.2.2 hS rfl hd (am_go kk g hl hz)
        · cases hq
          exact va_tlen hx hb (z9.1 1 (by decide)).2.2.2 hS rfl hd (am_go kk g hl hz)
        · cases hq
          exact va_tlen hx hb (z9.1 2 (by decide)).2.2.2 hS rfl hd (am_go kk g hl hz)
      · rw [hc] at hq
        have ht6 : t < 6 := Nat.lt_of_succ_le (Nat.le_of_ble_eq_true ht)
        have hty : ∃ ty, (am_ty dA)[t]? = some (dA t, ty) := by
          rcases (show t = 0 ∨ t = 1 ∨ t = 2 ∨ t = 3 ∨ t = 4 ∨ t = 5 by omega) with e | e | e | e | e | e <;> subst e <;> exact ⟨_, rfl⟩
        obtain ⟨ty, hty⟩ := hty
        rcases f with f | f | f
        · exact va_alen hx hb hKa g.1 (q - 8) t hq hty rfl hd (am_go kk g hl hz)
        · exact va_alen hx hb hKa g.1 (q - 8) t hq hty rfl hd (am_go kk g hl hz)
        · exact va_alen hx hb hKa g.1 (q - 8) t hq hty rfl hd (am_go kk g hl hz)
      · rw [hc] at hq; cases hq; cases ht
    · cases hs
  case getfield idx =>
    have hs0 := am_r1_inv hs; clear hs; obtain ⟨q, r, hst, hs⟩ := hs0; subst hst
    have hs0 := am_cO_inv hs; clear hs; obtain ⟨ci, fs, hc, hs⟩ := hs0
    have hs0 := am_bif_inv hs; clear hs; obtain ⟨hci, hs⟩ := hs0
    have hci := Nat.eq_of_beq_eq_true hci
    subst hci
    split at hs
    · rename_i v hv
      cases hs
      rcases am_loc g q with ⟨h8, hq⟩ | ⟨h8, hlt, hq⟩ | hq
      · rw [hc] at hq
        rcases (am_lt8 h8) with e | e | e | e | e | e | e | e <;> subst e <;> first | (cases hq; done) | skip
        all_goals cases hq
        all_goals (rcases hE with hE | ⟨-, hE⟩; · exact absurd hE.1 (by decide))
        all_goals (rcases hE with ⟨hb0, hlk⟩ | ⟨hb0, hlk⟩ <;> subst hb0 <;> cases hv)
        · exact vk_getf hx hb (z9.1 0 (by decide)).2.2.1 hS hown (hts _ hlk) (fun _ h => h) hd (am_go kk g hl hz)
        · exact vk_getf hx hb (z9.1 0 (by decide)).2.1 hS hown (hts _ hlk) (fun _ h => h) hd (am_go kk g hl hz)
        · exact vk_getf hx hb (z9.1 1 (by decide)).2.2.1 hS hown (hts _ hlk) (fun _ h => h) hd (am_go kk g hl hz)
        · exact vk_getf hx hb (z9.1 1 (by decide)).2.1 hS hown (hts _ hlk) (fun _ h => h) hd (am_go kk g hl hz)
        · exact vk_getf hx hb (z9.1 2 (by decide)).2.2.1 hS hown (hts _ hlk) (fun _ h => h) hd (am_go kk g hl hz)
        · exact vk_getf hx hb (z9.1 2 (by decide)).2.1 hS hown (hts _ hlk) (fun _ h => h) hd (am_go kk g hl hz)
      · rw [hc] at hq
        rcases hE with ⟨ha, hbn, hlk⟩ | ⟨ha, -⟩
        · exact va_get hx hb hts (hU _ ha) hown hKa g.1 (q - 8) hq (am_clAt _ ha) b hbn (hts _ hlk) (fun _ h => h) (v := am_v ad v) (by rw [List.getElem?_map, hv]; rfl) hd (am_go kk g hl hz)
        · exfalso
          subst ha
          obtain ⟨r0, hr0, -⟩ := g.1 (q - 8) _ hq
          cases hr0
      · rw [hc] at hq; cases hq
    · cases hs
  case getstatic idx =>
    rcases hE with ⟨ha, hlk⟩ | ⟨ha, hlk⟩ <;> subst ha
    · cases hs
      exact va_gets hx hb z3 hS hown (hts _ hlk) (fun _ h => h) hd (am_go kk g hl hz)
    · cases hs
      exact va_gets hx hb z5 hS hown (hts _ hlk) (fun _ h => h) hd (am_go kk g hl hz)
  case ldc idx =>
    rcases hE with ⟨ha, hlk⟩ | ⟨ha, hlk⟩
    · subst ha
      cases hs
      exact lv_ldc hx hb hown (hts _ hlk) hd (am_go kk g hl hz)
    · subst ha
      rcases hlk with ⟨hb0, ho, hi⟩ | ⟨hb0, ho, hi⟩ | ⟨hb0, ho, hi⟩ <;> subst hb0 <;> subst hi <;> cases hs
      · exact va_ldcS hx hb hown (by rw [ho]; exact z6) hd (am_go kk g hl hz)
      · exact va_ldcS hx hb hown (by rw [ho]; exact z7) hd (am_go kk g hl hz)
      · exact va_ldcS hx hb hown (by rw [ho]; exact z8) hd (am_go kk g hl hz)
  case iastore =>
    have hs0 := am_i1_inv hs; clear hs; obtain ⟨x, r, hst, hs⟩ := hs0; subst hst
    have hs0 := am_ri_inv hs; clear hs; obtain ⟨q, j, r, hst, hs⟩ := hs0; subst hst
    have hs0 := am_cA_inv hs; clear hs; obtain ⟨n, f, hc, hs⟩ := hs0
    have hs0 := am_ix_inv hs; clear hs; obtain ⟨hin, hs⟩ := hs0
    split at hs
    · cases hs
    rename_i h8
    cases hs
    rcases am_loc g q with ⟨h8', hq⟩ | ⟨h8', hlt, hq⟩ | hq
    · exact absurd h8' h8
    · rw [hc] at hq
      exact va_iast hx hb hKa g.1 g.2.1 hSs (q - 8) 0 hq rfl hin hd (fun H1 locs1 hP hD hS1 => am_goU kk g hl hz h8' hlt hP hD hS1)
    · rw [hc] at hq; cases hq
  case bastore =>
    have hs0 := am_i1_inv hs; clear hs; obtain ⟨x, r, hst, hs⟩ := hs0; subst hst
    have hs0 := am_ri_inv hs; clear hs; obtain ⟨q, j, r, hst, hs⟩ := hs0; subst hst
    have hs0 := am_cA_inv hs; clear hs; obtain ⟨n, f, hc, hs⟩ := hs0
    have hs0 := am_ix_inv hs; clear hs; obtain ⟨hin, hs⟩ := hs0
    split at hs
    · cases hs
    rename_i h8
    rcases am_loc g q with ⟨h8', hq⟩ | ⟨h8', hlt, hq⟩ | hq
    · exact absurd h8' h8
    · rw [hc] at hq
      rcases hE with hE | hE <;> subst hE <;> cases hs
      · exact va_bast hx hb hKa g.1 g.2.1 hSs (q - 8) 1 hq rfl hin hd (fun H1 locs1 hP hD hS1 => am_goU kk g hl hz h8' hlt hP hD hS1)
      · exact va_zast hx hb hKa g.1 g.2.1 hSs (q - 8) 2 hq rfl hin hd (fun H1 locs1 hP hD hS1 => am_goU kk g hl hz h8' hlt hP hD hS1)
    · rw [hc] at hq; rcases hE with hE | hE <;> subst hE <;> cases hq
  case lastore =>
    have hs0 := am_l1_inv hs; clear hs; obtain ⟨x, r, hst, hs⟩ := hs0; subst hst
    have hs0 := am_ri_inv hs; clear hs; obtain ⟨q, j, r, hst, hs⟩ := hs0; subst hst
    have hs0 := am_cL_inv hs; clear hs; obtain ⟨n, f, hc, hs⟩ := hs0
    have hs0 := am_ix_inv hs; clear hs; obtain ⟨hin, hs⟩ := hs0
    split at hs
    · cases hs
    rename_i h8
    cases hs
    rcases am_loc g q with ⟨h8', hq⟩ | ⟨h8', hlt, hq⟩ | hq
    · exact absurd h8' h8
    · rw [hc] at hq
      exact va_last hx hb hKa g.1 g.2.1 hSs (q - 8) 3 hq rfl hin hd (fun H1 locs1 hP hD hS1 => am_goU kk g hl hz h8' hlt hP hD hS1)
    · rw [hc] at hq; cases hq
  case aastore =>
    have hs0 := am_r1_inv hs; clear hs; obtain ⟨w, r, hst, hs⟩ := hs0; subst hst
    have hs0 := am_ri_inv hs; clear hs; obtain ⟨q, j, r, hst, hs⟩ := hs0; subst hst
    have hs0 := am_cQ_inv hs; clear hs; obtain ⟨t, n, f, hc, hs⟩ := hs0
    have hs0 := am_ix_inv hs; clear hs; obtain ⟨hin, hs⟩ := hs0
    split at hs
    · cases hs
    rename_i h8
    have hs0 := am_bif_inv hs; clear hs; obtain ⟨he, hs⟩ := hs0
    cases hs
    have hw : (am_W ad dA h)[w - 8]? = some (ad w, am_e ad dA (h.2.2 w)) := am_W_at (Nat.not_lt.mp fun z => h8 (Or.inr (Or.inl z))) (Nat.not_le.mp fun z => h8 (Or.inr (Or.inr z)))
    have hlt : j.toNatClampNeg < n := Nat.not_le.mp fun q => hin (Or.inr q)
    have h0 : ¬ j < 0 := fun q => hin (Or.inl q)
    rcases am_loc g q with ⟨h8', hq⟩ | ⟨h8', hlq, hq⟩ | hq
    · exact absurd (Or.inl h8') h8
    · rw [hc] at hq
      unfold am_elt at he
      split at he
      · rename_i fs hcw
        rw [hcw] at hw
        refine va_astq hx hb hKa g.1 g.2.1 hSs (q - 8) 4 (w - 8) 6 (r := (RX6, TX6, 8)) hq rfl hw rfl hin hd (fun H1 locs1 hP hD hS1 => ?_)
        rw [am_up_map] at hP hD
        exact am_goU kk g hl hz h8' hlq hP hD hS1
      · rename_i n2 f2 hcw
        rw [hcw] at hw
        obtain ⟨⟨kA, hkA, hkind⟩, -⟩ := hK5
        obtain ⟨-, kI, hkI, compI, hkindI⟩ := (hKa.2 0 _ rfl).1 0 (fun _ => .null)
        refine W.aast hx hb (g.1 (q - 8) _ hq) (fun q h => by cases h) (fun h => by cases h) hkA hkind rfl hkI ⟨h0, by show _ < (arrV _ _ _).slots.size; rw [arrV_size]; exact hlt⟩ (g.1 (w - 8) _ hw) (fun q h => by cases h) hkI (am_asg _ _) rfl rfl hd fun H1 e1 zz oq => ?_
        have hP : va_P D am_cl ((am_W ad dA h).set (q - 8) (ad q, .inl (dA 5, n, .inr (.inr (.inr (.inr (va_up (fun j => (f j).map ad) j.toNatClampNeg (some (ad w))))))))) H1 := by
          refine g.1.set g.2.1 hq ?_ oq
          show H1[ad q]? = some (vp_cell _ _)
          rw [e1]
          rw [vp_cell_q, vp_cell_q, arrV_store]
          congr 2
          funext k
          by_cases hk : k = j.toNatClampNeg
          · subst hk
            simp [updV, va_up, va_rf]
          · simp [updV, va_up, hk]
        have hD : va_D (am_A ad) ((am_W ad dA h).set (q - 8) (ad q, .inl (dA 5, n, .inr (.inr (.inr (.inr (va_up (fun j => (f j).map ad) j.toNatClampNeg (some (ad w))))))))) := g.2.1.set hq
        rw [am_up_map] at hP hD
        exact am_goU kk g hl hz h8' hlq hP hD (hSs.put zz oq (g.2.1.2 (q - 8) _ hq))
      · cases he
    · rw [hc] at hq; cases hq
  case newarray ty =>
    obtain ⟨hty, hlk⟩ := hE
    have hs0 := am_i1_inv hs; clear hs; obtain ⟨x, r, hst, hs⟩ := hs0; subst hst
    split at hs
    · cases hs
    rename_i hx0
    cases hs
    have hc1 : cells + 1 ≤ R.cells := by
      have : cells + (h.1 + 1 - h.1) ≤ R.cells := hRc
      omega
    have hc2 : slots + x.toNatClampNeg ≤ R.slots := by
      have : slots + (h.2.1 + x.toNatClampNeg - h.2.1) ≤ R.slots := hRs
      omega
    have hbytes : x.toNatClampNeg * componentBytes (newarray.typeOf ty) ≤ 536870912 := by
      have : x.toNatClampNeg ≤ 1000000 := Nat.not_lt.mp fun z => hx0 (Or.inr z)
      have h8 : componentBytes (newarray.typeOf ty) ≤ 8 := by cases ty <;> decide
      calc x.toNatClampNeg * componentBytes (newarray.typeOf ty) ≤ 1000000 * 8 := Nat.mul_le_mul this h8
        _ ≤ 536870912 := by decide
    refine va_newaK hx hb (hts _ hlk) rfl hd rfl (fun z => hx0 (Or.inl z)) rfl hbytes hc1 hc2 rfl fun H1 cA e1 zz o1 hAr hNm => ?_
    refine am_goN kk g hA hl hz zz ?_ o1
    show va_at D am_cl (ad h.1, am_e ad dA (am_z (am_aty ty) x.toNatClampNeg)) H1
    rw [g.2.2.2.2.1]
    cases ty <;> first | exact absurd hty (by decide) | skip
    · have hcA := am_cls (k := 2) hKa rfl (by intro C; exact fun z => by cases z) hNm
      subst hcA; exact e1
    · have hcA := am_cls (k := 1) hKa rfl (by intro C; exact fun z => by cases z) hNm
      subst hcA; exact e1
    · have hcA := am_cls (k := 0) hKa rfl (by intro C; exact fun z => by cases z) hNm
      subst hcA; exact e1
    · have hcA := am_cls (k := 3) hKa rfl (by intro C; exact fun z => by cases z) hNm
      subst hcA; exact e1
  case anewarray idx =>
    have hs0 := am_i1_inv hs; clear hs; obtain ⟨x, r, hst, hs⟩ := hs0; subst hst
    split at hs
    · cases hs
    rename_i hx0
    cases hs
    have hc1 : cells + 1 ≤ R.cells := by
      have : cells + (h.1 + 1 - h.1) ≤ R.cells := hRc
      omega
    have hc2 : slots + x.toNatClampNeg ≤ R.slots := by
      have : slots + (h.2.1 + x.toNatClampNeg - h.2.1) ≤ R.slots := hRs
      omega
    have hbytes : x.toNatClampNeg * 4 ≤ 536870912 := by
      have : x.toNatClampNeg ≤ 1000000 := Nat.not_lt.mp fun z => hx0 (Or.inr z)
      omega
    have hpush : ∀ cA : ClassId, (H.push ({ cls := cA, slots := Array.replicate x.toNatClampNeg .null, vm := .none } : Cell))[ad h.1]? = some (arrV cA x.toNatClampNeg (fun _ => .null)) := fun cA => by rw [g.2.2.2.2.1, Array.getElem?_push_size, ← arrV_new]
    have ho : ∀ (cA : ClassId) (q : Nat), q < H.size → (H.push ({ cls := cA, slots := Array.replicate x.toNatClampNeg .null, vm := .none } : Cell))[q]? = H[q]? := fun cA q hq => by rw [Array.getElem?_push, if_neg (Nat.ne_of_lt hq)]
    rcases hE with ⟨ha, hlk⟩ | ⟨ha, hlk⟩ <;> subst ha
    · refine W.anew hx hb hown (hts _ hlk) hK5.2.1.use rfl hd rfl (fun z => hx0 (Or.inl z)) hbytes hc1 hc2 fun cA kA comp f1 f2 f3 f4 => ?_
      obtain ⟨kA', comp', -, -, -, f1'⟩ := (hKa.2 4 _ rfl).2
      have hcA : cA = dA 4 := Option.some.inj (f1.symm.trans f1')
      refine am_goN kk g hA hl hz (Array.size_push _) ?_ (ho cA)
      subst hcA
      exact hpush _
    · refine W.anewA (t := .int) hx hb hown (hts _ hlk) (show (Cond.arrayOver (.array .int)).before args s = true from hK5.2.2.1) rfl hd rfl (fun z => hx0 (Or.inl z)) hbytes hc1 hc2 fun cA kA comp f1 f2 f3 f4 => ?_
      have hcA := am_cls (k := 5) hKa rfl (by intro C; exact fun z => by cases z) f1
      refine am_goN kk g hA hl hz (Array.size_push _) ?_ (ho cA)
      subst hcA
      exact hpush _
  case new idx =>
    obtain ⟨ha, hlk, hins, hini⟩ := hE
    cases hs
    have hc1 : cells + 1 ≤ R.cells := by
      have : cells + (h.1 + 1 - h.1) ≤ R.cells := hRc
      omega
    have hc2 : slots + am_nf a ≤ R.slots := by
      have : slots + (h.2.1 + am_nf a - h.2.1) ≤ R.slots := hRs
      omega
    have hKn := hKa.1 a _ (am_clAt a ha)
    refine W.newcK hx hb hown (hts _ hlk) (hts _ hins) (hts _ hini) rfl hd hc1 hc2 hKn.2.1 rfl fun H1 kC hkC e1 zz o1 => ?_
    refine am_goN kk g hA hl hz zz ?_ o1
    rw [g.2.2.2.2.1]
    exact ⟨_, am_clAt a ha, (u_born (am_ft a) hts (hU a ha) hKn hkC e1 (am_tyAt a ha)).to (am_df_v ad a)⟩
  case putfield idx =>
    obtain ⟨ha, hbn, hlk, hty, hfin⟩ := hE
    dsimp only [am_do] at hs
    split at hs
    · rename_i v q r
      have hs0 := am_cO_inv hs; clear hs; obtain ⟨ci, fs, hc, hs⟩ := hs0
      have hs0 := am_bif_inv hs; clear hs; obtain ⟨hcd, hs⟩ := hs0
      simp only [Bool.and_eq_true] at hcd
      obtain ⟨⟨⟨hci, hlt⟩, hft⟩, h8⟩ := hcd
      have hci := Nat.eq_of_beq_eq_true hci
      have h8 := Nat.le_of_ble_eq_true h8
      have hlt : b / 8 < fs.length := Nat.lt_of_succ_le (Nat.le_of_ble_eq_true hlt)
      subst hci
      cases hs
      have hnf : narrow (am_ft ci (b / 8)) (am_v ad v) = am_v ad v ∧ fits (am_ft ci (b / 8)) (am_v ad v) = true := by
        rcases hty with ⟨e1, e2⟩ | ⟨e1, e2⟩ | ⟨e1, n, e2⟩ | ⟨e1, n, e2⟩ <;> rw [e1] at hft <;> rw [e2] <;> cases v <;> first | (cases hft; done) | exact ⟨rfl, rfl⟩ | skip
        rename_i x
        simp only [am_fit, Bool.or_eq_true, beq_iff_eq] at hft
        rcases hft with hft | hft <;> subst hft <;> exact ⟨rfl, rfl⟩
      rcases am_loc g q with ⟨h8', hq⟩ | ⟨h8', hlq, hq⟩ | hq
      · omega
      · rw [hc] at hq
        have hset : (fs.map (am_v ad)).set (b / 8) (am_v ad v) = (fs.set (b / 8) v).map (am_v ad) := List.map_set.symm
        rcases hfin with hfin | ⟨hfin, hin, hdecl⟩
        · refine va_put hx hb hts (hU _ ha) (am_ft ci) (am_tyAt _ ha) (am_nmAt _ ha) hown hKa g.1 g.2.1 hSs (q - 8) hq (am_clAt _ ha) (b / 8) hbn (hts _ hlk) (fun _ h => h) hfin (am_tyAt _ ha _ hbn) hnf.1 hnf.2 (by simpa using hlt) hd (fun H1 locs1 hP hD hS1 => ?_)
          rw [hset] at hP hD
          exact am_goU kk g hl hz h8' hlq hP hD hS1
        · refine va_putF hx hb hts (hU _ ha) (am_ft ci) (am_tyAt _ ha) (am_nmAt _ ha) hown hKa g.1 g.2.1 hSs (q - 8) hq (am_clAt _ ha) (b / 8) hbn (hts _ hlk) (fun _ h => h) hfin (by rw [hnm]; exact hin) hdecl (am_tyAt _ ha _ hbn) hnf.1 hnf.2 (by simpa using hlt) hd (fun H1 locs1 hP hD hS1 => ?_)
          rw [hset] at hP hD
          exact am_goU kk g hl hz h8' hlq hP hD hS1
      · rw [hc] at hq; cases hq
    · cases hs
  case invokespecial idx =>
    rcases hE with ⟨ha, h1, h2, h3⟩ | ⟨ha, -⟩
    · subst ha
      have hs0 := am_r1_inv (show am_r1 st (fun _ r => bif Nat.ble 1 d && Nat.ble (am_cat r + 12) L then some (.inl (pc + am_len (.invokespecial idx), ls, r, h)) else none) = some (.inl S') from hs)
      clear hs
      obtain ⟨q, r, hst, hs⟩ := hs0
      subst hst
      have hs0 := am_bif_inv hs; clear hs; obtain ⟨hcd, hs⟩ := hs0
      simp only [Bool.and_eq_true] at hcd
      have hd1 := Nat.le_of_ble_eq_true hcd.1
      have hL1 := Nat.le_of_ble_eq_true hcd.2
      cases hs
      refine W.objInit hx hb hown (hts _ h1) (hts _ h2) (hts _ h3) rfl (by show lsr.size = _; rw [hl.1.1, hml, hml2]) rfl hd (by omega) ?_ (am_go kk g hl hz)
      rw [am_v_sum]
      show 2 * 0 + am_cat r + 12 ≤ R.locals
      omega
    · exfalso
      have hb0 : Nat.beq a 999 = false := by
        cases e : Nat.beq a 999
        · rfl
        · exact absurd (Nat.eq_of_beq_eq_true e) ha
      dsimp only [am_do] at hs
      rw [hb0] at hs
      dsimp only [cond] at hs
      split at hs
      · have hs1 := (am_bif_inv hs).2; cases hs1
      · cases hs
  case invokestatic idx =>
    rcases hE with ⟨ha, h1, h2, h3, h4⟩ | ⟨ha, h1, h2, h3, h4⟩ | ⟨ha, h1, h2, h3, h4⟩ | ⟨ha, h1, h2⟩ | ⟨ha, ha2, ha3, ha4, -⟩
    · subst ha
      dsimp only [am_do] at hs
      change (match st with
        | .int n :: .int dp :: .ref q :: .int sp :: .ref p :: r => am_cA (h.2.2 p) 0 fun n0 f => am_cA (h.2.2 q) 0 fun n1 g =>
          if n < 0 ∨ dp < 0 ∨ sp < 0 ∨ n0 < sp.toNatClampNeg + n.toNatClampNeg ∨ n1 < dp.toNatClampNeg + n.toNatClampNeg ∨ p < 8 ∨ q < 8 ∨ d < 1 ∨ L < am_cat r + 40 then none
          else some (.inl (pc + am_len (.invokestatic idx), ls, r, am_up h q (.inr (0, n1, .inl (va_cpy f g sp.toNatClampNeg dp.toNatClampNeg n.toNatClampNeg)))))
        | _ => (none : am_O)) = some (.inl S') at hs
      split at hs
      · rename_i n dp q sp q0 r
        have hs0 := am_cA_inv hs; clear hs; obtain ⟨n0, f, hc0, hs⟩ := hs0
        have hs0 := am_cA_inv hs; clear hs; obtain ⟨n1, f1, hc1, hs⟩ := hs0
        split at hs
        · cases hs
        rename_i hcd
        cases hs
        simp only [not_or] at hcd
        obtain ⟨c1, c2, c3, c4, c5, c6, c7, c8, c9⟩ := hcd
        rcases am_loc g q0 with ⟨h8', hq⟩ | ⟨h8', hlq, hq⟩ | hq
        · exact absurd h8' c6
        · rcases am_loc g q with ⟨h8w, hw⟩ | ⟨h8w, hlw, hw⟩ | hw
          · exact absurd h8w c7
          · rw [hc0] at hq
            rw [hc1] at hw
            refine va_copyi hx hb (by rw [hl.1.1, hml, hml2]) hown (hts _ h1) (hts _ h2) (hts _ h3) (hts _ h4) hKa g.1 g.2.1 hSs (q0 - 8) (q - 8) 0 0 hq hw rfl rfl rfl c3 c2 c1 (by omega) (by omega) (fun _ _ => rfl) (by omega) ?_ hd (fun H1 locs1 hP hD hS1 => am_goU kk g hl hz h8w hlw hP hD hS1)
            rw [am_v_sum]
            have : nativeFrameWords "java/lang/System" "arraycopy" 5 ≤ 29 := by decide
            omega
          · rw [hc1] at hw; cases hw
        · rw [hc0] at hq; cases hq
      · cases hs
    · subst ha
      have hs0 := am_ii_inv (show am_ii st (fun x y r => bif Nat.ble 1 d && Nat.ble (am_cat r + 13) L then some (.inl (pc + am_len (.invokestatic idx), ls, .int (if y < x then y else x) :: r, h)) else none) = some (.inl S') from hs)
      clear hs
      obtain ⟨x, y, r, hst, hs⟩ := hs0
      subst hst
      have hs0 := am_bif_inv hs; clear hs; obtain ⟨hcd, hs⟩ := hs0
      simp only [Bool.and_eq_true] at hcd
      have hd1 := Nat.le_of_ble_eq_true hcd.1
      have hL1 := Nat.le_of_ble_eq_true hcd.2
      cases hs
      have hc1 : cells + (h.1 - h.1) ≤ R.cells := hRc
      have hc2 : slots + (h.2.1 - h.2.1) ≤ R.slots := hRs
      refine va_mmin hx hb (by rw [hl.1.1, hml, hml2]) hown (hts _ h1) (hts _ h2) (hts _ h3) (hts _ h4) (by omega) ?_ (by omega) (by omega) hd (am_go kk g hl hz)
      rw [am_v_sum]
      omega
    · subst ha
      have hs0 := am_ii_inv (show am_ii st (fun x y r => bif Nat.ble 1 d && Nat.ble (am_cat r + 13) L then some (.inl (pc + am_len (.invokestatic idx), ls, .int (if x < y then y else x) :: r, h)) else none) = some (.inl S') from hs)
      clear hs
      obtain ⟨x, y, r, hst, hs⟩ := hs0
      subst hst
      have hs0 := am_bif_inv hs; clear hs; obtain ⟨hcd, hs⟩ := hs0
      simp only [Bool.and_eq_true] at hcd
      have hd1 := Nat.le_of_ble_eq_true hcd.1
      have hL1 := Nat.le_of_ble_eq_true hcd.2
      cases hs
      have hc1 : cells + (h.1 - h.1) ≤ R.cells := hRc
      have hc2 : slots + (h.2.1 - h.2.1) ≤ R.slots := hRs
      refine va_mmax hx hb (by rw [hl.1.1, hml, hml2]) hown (hts _ h1) (hts _ h2) (hts _ h3) (hts _ h4) (by omega) ?_ (by omega) (by omega) hd (am_go kk g hl hz)
      rw [am_v_sum]
      omega
    · subst ha
      have hs0 := am_ii_inv (show am_ii st (fun x y r => if x < 0 ∨ ¬ x < y then none else bif Nat.ble 2 d && Nat.ble (am_cat r) 8 && Nat.ble 60 L then some (.inl (pc + am_len (.invokestatic idx), ls, r, h)) else none) = some (.inl S') from hs)
      clear hs
      obtain ⟨x, y, r, hst, hs⟩ := hs0
      subst hst
      split at hs
      · cases hs
      rename_i hxy
      have hs0 := am_bif_inv hs; clear hs; obtain ⟨hcd, hs⟩ := hs0
      simp only [Bool.and_eq_true] at hcd
      have hd1 := Nat.le_of_ble_eq_true hcd.1.1
      have h8 := Nat.le_of_ble_eq_true hcd.1.2
      have hL1 := Nat.le_of_ble_eq_true hcd.2
      cases hs
      refine am_ckrun hG h2 hx hb hml2 hown hts (by rw [← hml]; exact hl.1.1) hK0 g hz (hts _ h1) (fun z => hxy (Or.inl z)) (Decidable.byContradiction fun z => hxy (Or.inr z)) h8 (by omega) (by omega) hRc hRs hd (fun H1 locs1 g1 hz1 => am_go kk g1 hl hz1)
    · exfalso
      have hbf : ∀ k, ¬ a = k → Nat.beq a k = false := by
        intro k hk
        cases e : Nat.beq a k
        · rfl
        · exact absurd (Nat.eq_of_beq_eq_true e) hk
      dsimp only [am_do] at hs
      rw [hbf 998 ha, hbf 997 ha2, hbf 996 ha3, hbf 994 ha4] at hs
      dsimp only [cond] at hs
      split at hs
      · have hs1 := (am_bif_inv hs).2; cases hs1
      · cases hs
  case invokevirtual idx =>
    exfalso
    dsimp only [am_do] at hs
    split at hs
    · obtain ⟨ci, fs, -, hs1⟩ := am_cO_inv hs
      have hs2 := (am_bif_inv hs1).2; cases hs2
    · cases hs
end AMQ
end
section
/-! ===== calls, and the whole: what am_run says, the JVM does ===== -/
theorem am_do_mono {P : Nat → am_M} {d L ret pc nx a b : Nat} {i : Instr} {ls : List (Option Value)} {st : List Value} {h : am_H} {S' : am_S} (hs : am_do P d L ret i pc nx a b ls st h = some (.inl S')) : h.1 ≤ S'.2.2.2.1 ∧ h.2.1 ≤ S'.2.2.2.2.1 := by
  cases i <;> simp only [am_do, am_ii, am_i1, am_ll, am_l1, am_r1, am_ri, am_cA, am_cL, am_cQ, am_cO, am_ix, Bool.cond_eq_ite] at hs <;> (repeat' split at hs) <;> first | (cases hs; done) | (cases hs; simp only [am_up, am_nw]; omega)
theorem am_run_grow {P : Nat → am_M} : ∀ (n d L M : Nat) (c : am_S) (x : Option Value × am_H), am_run P n d L M c = some x → c.2.2.2.1 ≤ x.2.1 ∧ c.2.2.2.2.1 ≤ x.2.2.1 := by
  intro n
  induction n with
  | zero => intro d L M c x h; simp [am_run] at h
  | succ n ih =>
    intro d L M c x h
    rw [am_run] at h
    cases hs : am_step P d L M c with
    | none => rw [hs] at h; simp at h
    | some o =>
      rw [hs] at h
      unfold am_step at hs
      cases hat : am_at (P M).2.2.2 c.1 with
      | none => rw [hat] at hs; cases hs
      | some q =>
        obtain ⟨i, nx, a, b⟩ := q
        rw [hat] at hs
        dsimp only at hs
        match o, h, hs with
        | .inl c', h, hs =>
          have h1 := am_do_mono hs
          have h2 := ih _ _ _ _ _ h
          exact ⟨Nat.le_trans h1.1 h2.1, Nat.le_trans h1.2 h2.2⟩
        | .inr (.inl r), h, hs => cases h; exact ⟨Nat.le_refl _, Nat.le_refl _⟩
        | .inr (.inr (y, vs, c')), h, hs =>
          have hc : c'.2.2.2 = c.2.2.2 := by
            cases i <;> simp only [am_do, am_ii, am_i1, am_ll, am_l1, am_r1, am_ri, am_cA, am_cL, am_cQ, am_cO, am_ix, Bool.cond_eq_ite] at hs <;> (repeat' split at hs) <;> first | (cases hs; done) | (cases hs; rfl)
          cases d with
          | zero => simp at h
          | succ d' =>
            dsimp only at h
            split at h
            · cases h
            · cases hr : am_run P n d' (L - am_lc P y) y (0, am_ent vs (P y).2.1, [], c'.2.2.2) with
              | none => rw [hr] at h; simp at h
              | some q =>
                obtain ⟨r, h1⟩ := q
                rw [hr] at h
                have g1 := ih _ _ _ _ _ hr
                have g2 := ih _ _ _ _ _ h
                dsimp only at g1 g2
                rw [hc] at g1
                exact ⟨Nat.le_trans g1.1 g2.1, Nat.le_trans g1.2 g2.2⟩
theorem am_take_inv : ∀ (n : Nat) (acc st vs r : List Value), am_take n acc st = some (vs, r) → ∃ ws, ws.length = n ∧ st = ws ++ r ∧ vs = ws.reverse ++ acc := by
  intro n
  induction n with
  | zero => intro acc st vs r h; cases h; exact ⟨[], rfl, rfl, rfl⟩
  | succ n ih =>
    intro acc st vs r h
    cases st with
    | nil => cases h
    | cons v st =>
      obtain ⟨ws, h1, h2, h3⟩ := ih _ _ _ _ h
      exact ⟨v :: ws, by rw [List.length_cons, h1], by rw [h2]; rfl, by rw [h3]; simp⟩
theorem am_take0 {n : Nat} {st vs r : List Value} (h : am_take n [] st = some (vs, r)) : vs.length = n ∧ st = vs.reverse ++ r := by
  obtain ⟨ws, h1, h2, h3⟩ := am_take_inv _ _ _ _ _ h
  rw [List.append_nil] at h3
  subst h3
  exact ⟨by rw [List.length_reverse, h1], by rw [List.reverse_reverse]; exact h2⟩
theorem am_get_pad : ∀ (n : Nat) (l : List (Option Value)) (i : Nat) (v : Value), am_get (am_pad n l) i = some v → am_get l i = some v := by
  intro n
  induction n with
  | zero => intro l i v h; cases l <;> cases h
  | succ n ih =>
    intro l i v h
    cases l with
    | nil =>
      cases i with
      | zero => cases h
      | succ i => exact ih [] i v h
    | cons w t =>
      cases i with
      | zero => exact h
      | succ i => exact ih t i v h
theorem am_ent_args (ad : Nat → Nat) : ∀ (vs : List Value) (k i : Nat) (v : Value), am_get (am_ent0 vs) i = some v → (k + i, am_v ad v) ∈ lv_args k (vs.map (am_v ad)) := by
  intro vs
  induction vs with
  | nil => intro k i v h; cases h
  | cons w t ih =>
    intro k i v h
    rw [List.map_cons, lv_args, am_v_cat]
    have one : ∀ (x : Value), x.category = 1 → am_get (some x :: am_ent0 t) i = some v → (k + i, am_v ad v) ∈ (k, am_v ad x) :: lv_args (if x.category = 2 then k + 2 else k + 1) (t.map (am_v ad)) := by
      intro x hx h
      cases i with
      | zero => cases h; exact List.mem_cons_self
      | succ i =>
        refine List.mem_cons_of_mem _ ?_
        rw [hx, if_neg (by decide)]
        have := ih (k + 1) i v h
        rwa [Nat.add_assoc, Nat.add_comm 1 i] at this
    cases w with
    | long x =>
      cases i with
      | zero => cases h; exact List.mem_cons_self
      | succ i =>
        cases i with
        | zero => cases h
        | succ i =>
          refine List.mem_cons_of_mem _ ?_
          have := ih (k + 2) i v h
          rw [show k + 2 + i = k + (i + 1 + 1) by omega] at this
          exact this
    | double x =>
      cases i with
      | zero => cases h
      | succ i =>
        cases i with
        | zero => cases h
        | succ i =>
          refine List.mem_cons_of_mem _ ?_
          have := ih (k + 2) i v h
          rw [show k + 2 + i = k + (i + 1 + 1) by omega] at this
          exact this
    | int x => exact one _ rfl h
    | float x => exact one _ rfl h
    | null => exact one _ rfl h
    | ref x => exact one _ rfl h
    | retAddr x => exact one _ rfl h
theorem am_ent_nd : ∀ (vs : List Value), am_nd (am_ent0 vs) := by
  intro vs
  induction vs with
  | nil => intro i v h; cases h
  | cons w t ih =>
    intro i v h h2
    have one : ∀ (x : Value), x.category = 1 → am_get (some x :: am_ent0 t) i = some v → am_isL (some v) = true := by
      intro x hx h
      cases i with
      | zero => cases h; rw [hx] at h2; cases h2
      | succ i => exact ih i v h h2
    cases w with
    | long x =>
      cases i with
      | zero => cases h; rfl
      | succ i =>
        cases i with
        | zero => cases h
        | succ i => exact ih i v h h2
    | double x =>
      cases i with
      | zero => cases h
      | succ i =>
        cases i with
        | zero => cases h
        | succ i => exact ih i v h h2
    | int x => exact one _ rfl h
    | float x => exact one _ rfl h
    | null => exact one _ rfl h
    | ref x => exact one _ rfl h
    | retAddr x => exact one _ rfl h
theorem am_ent_len (ad : Nat → Nat) : ∀ (vs : List Value), (lg_sl (vs.map (am_v ad))).length = (am_ent0 vs).length := by
  intro vs
  induction vs with
  | nil => rfl
  | cons w t ih =>
    unfold lg_sl at ih ⊢
    rw [List.map_cons, List.flatMap_cons, List.length_append, ih, am_v_cat]
    cases w <;> simp [am_ent0, Value.category] <;> omega
theorem am_ent_LN {ad : Nat → Nat} {vs : List Value} {n : Nat} {lsr : Array Slot} (h : lv_has lsr n (lv_args 0 (vs.map (am_v ad)))) : am_LN ad (am_ent vs n) lsr n := by
  refine ⟨⟨h.1, h.2.1, fun i v hv => ?_⟩, fun i v hv => am_ent_nd vs i v (am_get_pad _ _ _ _ hv)⟩
  have := am_ent_args ad vs 0 i v (am_get_pad _ _ _ _ hv)
  rw [Nat.zero_add] at this
  exact h.2.2 _ this
/-- how a method ends -/
def am_RD (cc : ByteArray) (pc ret : Nat) (r : Option Value) : Prop := (∃ x, r = some (.int x) ∧ decode cc pc = .ok (.ireturn, 1) ∧ am_rt ret x = true) ∨ (∃ x, r = some (.long x) ∧ decode cc pc = .ok (.lreturn, 1) ∧ ret = 4) ∨ (r = none ∧ decode cc pc = .ok (.return_, 1) ∧ ret = 0)
theorem am_ret_inv {P : Nat → am_M} {d L ret pc nx a b : Nat} {i : Instr} {ls : List (Option Value)} {st : List Value} {h : am_H} {r : Option Value} {cc : ByteArray} (hd : ∃ len, decode cc pc = .ok (i, len) ∧ ((∃ d lo hi os, i = .tableswitch d lo hi os) ∨ (len = am_len i ∧ nx = pc + len))) (hs : am_do P d L ret i pc nx a b ls st h = some (.inr (.inl r))) : st = r.toList ∧ am_RD cc pc ret r := by
  obtain ⟨len, hd, hlen⟩ := hd
  cases i <;> simp only [am_do, am_ii, am_i1, am_ll, am_l1, am_r1, am_ri, am_cA, am_cL, am_cQ, am_cO, am_ix, Bool.cond_eq_ite] at hs <;> (repeat' split at hs) <;> first | (cases hs; done) | skip
  · have hl1 := hlen.resolve_left (by rintro ⟨_, _, _, _, hq⟩; cases hq)
    have hl2 := hl1.1
    subst hl2
    rename_i hx
    cases hs
    exact ⟨rfl, Or.inl ⟨_, rfl, hd, hx⟩⟩
  · have hl1 := hlen.resolve_left (by rintro ⟨_, _, _, _, hq⟩; cases hq)
    have hl2 := hl1.1
    subst hl2
    rename_i hx
    cases hs
    exact ⟨rfl, Or.inr (Or.inl ⟨_, rfl, hd, Nat.eq_of_beq_eq_true hx⟩)⟩
  · have hl1 := hlen.resolve_left (by rintro ⟨_, _, _, _, hq⟩; cases hq)
    have hl2 := hl1.1
    subst hl2
    rename_i hx
    cases hs
    exact ⟨rfl, Or.inr (Or.inr ⟨rfl, hd, Nat.eq_of_beq_eq_true hx⟩)⟩
end
section
/-- a method whose table is right -/
def am_gm (P : Nat → am_M) (yN : Nat → MethodName) (cN : Nat → ByteArray) (NM : Nat) (Ts : List Cond) (M : Nat) : Prop := plainName (yN M).cls = true ∧ Cond.code (yN M) (cN M) (P M).2.1 (am_rty (P M).2.2.1) ∈ Ts ∧ Cond.initialized (yN M).cls ∈ Ts ∧ (yN M).cls ≠ "java/lang/invoke/MethodHandle" ∧ (yN M).cls ≠ "java/lang/invoke/VarHandle" ∧ (yN M).cls = am_cn (P M).1 ∧ ∀ pc q, am_at (P M).2.2.2 pc = some q → am_E P yN cN NM Ts M pc q
def am_IH (P : Nat → am_M) (yN : Nat → MethodName) (cN : Nat → ByteArray) (NM : Nat) (Ts : List Cond) (l : Launch) (D : va_G) (ad dA : Nat → Nat) (Ls : Nat) (xs : Nat → Int32) (n : Nat) : Prop := ∀ (d L M pc : Nat) (ls : List (Option Value)) (st : List Value) (h : am_H) (r : Option Value) (h' : am_H), am_run P n d L M (pc, ls, st, h) = some (r, h') →
  ∀ (p : Program) (e : Env) (R : Room) (s : State) (m : MethodId) (args : Array Value) (below : List Frame) (meth : Method) (c : Code) (H : Heap) (locs : List Loc) (cells slots : Nat) (Q : State → Prop) (lsr : Array Slot), am_X P yN cN Ts p s m args meth c M → (∀ pc q, am_at (P M).2.2.2 pc = some q → am_E P yN cN NM Ts M pc q) → am_K D ad dA Ls xs s → am_G D ad dA Ls xs s.heap H h locs → am_LN ad ls lsr (P M).2.1 → H.size = s.heap.size + cells → d ≤ R.frames → L ≤ R.locals → cells + (h'.1 - h.1) ≤ R.cells → slots + (h'.2.1 - h.2.1) ≤ R.slots →
  (∀ (H1 : Heap) (locs1 : List Loc) (pc1 : Nat) (lsr1 : Array Slot), am_G D ad dA Ls xs s.heap H1 h' locs1 → am_RD (cN M) pc1 (P M).2.2.1 r → W p l e R s m args below meth c H1 locs1 (cells + (h'.1 - h.1)) (slots + (h'.2.1 - h.2.1)) Q (F0 m pc1 lsr1 (r.toList.map (am_v ad)))) →
  W p l e R s m args below meth c H locs cells slots Q (F0 m pc lsr (st.map (am_v ad)))
section AMM
variable {P : Nat → am_M} {yN : Nat → MethodName} {cN : Nat → ByteArray} {NM : Nat} {Ts : List Cond} {l : Launch} {D : va_G} {ad dA : Nat → Nat} {Ls : Nat} {xs : Nat → Int32} {n : Nat}
theorem am_rt_nar {ret : Nat} {x : Int32} (h : am_rt ret x = true) : ∃ ty, am_rty ret = some ty ∧ narrow ty (.int x) = .int x := by
  match ret, h with
  | 1, _ => exact ⟨_, rfl, rfl⟩
  | 2, h =>
    simp only [am_rt, Bool.or_eq_true, beq_iff_eq] at h
    rcases h with h | h <;> subst h <;> exact ⟨_, rfl, rfl⟩
  | 3, h =>
    have h := of_decide_eq_true h
    exact ⟨_, rfl, congrArg Value.int h⟩
  | 5, h =>
    have h := of_decide_eq_true h
    exact ⟨_, rfl, congrArg Value.int h⟩
theorem am_met (hIH : am_IH P yN cN NM Ts l D ad dA Ls xs n) {y d L : Nat} {vs : List Value} {h h1 : am_H} {r : Option Value} (hy : am_gm P yN cN NM Ts y) (hlen : (am_ent0 vs).length ≤ (P y).2.1) (hrun : am_run P n d L y (0, am_ent vs (P y).2.1, [], h) = some (r, h1)) :
    Met l (yN y) (Cond.code (yN y) (cN y) (P y).2.1 (am_rty (P y).2.2.1) :: Ts) ({ frames := d, cells := h1.1 - h.1, slots := h1.2.1 - h.2.1, locals := L }) (va_Pc (vs.map (am_v ad)) (am_B D ad dA Ls xs h)) (am_Qc D ad dA Ls xs r h1) (h1.1 - h.1) (h1.2.1 - h.2.1) (am_A ad) := by
  obtain ⟨y1, y2, y3, y4, y5, y6, y7⟩ := hy
  refine Met.ofW (cc := cN y) (maxL := (P y).2.1) (ret := am_rty (P y).2.2.1) y1 rfl ?_
  intro p e s m args below meth c s₁ B hml hv
  obtain ⟨rfl, hK, hG⟩ := hv
  have hts := atoms_spec (ws := Cond.code (yN y) (cN y) (P y).2.1 (am_rty (P y).2.2.1) :: Ts) B.pre
  have hown : s.vm.findClass (yN y).cls = some m.cls := findClass_of_methodNamed B.named
  have hX : am_X P yN cN Ts p s m (vs.map (am_v ad)).toArray meth c y := ⟨B.exec, B.bytes, hml, by rw [← y6]; exact hown, fun w hw => hts w (List.mem_cons_of_mem _ hw), B.returns, B.notSynchronized, (name_of_methodNamed B.named B.method).1⟩
  have hl := lv_entry (vs.map (am_v ad)) (n := (P y).2.1) (by rw [am_ent_len]; exact hlen)
  rw [lg_entry_eq]
  generalize (lg_sl (vs.map (am_v ad)) ++ List.replicate ((P y).2.1 - (lg_sl (vs.map (am_v ad))).length) Slot.unset).toArray = ls at hl ⊢
  refine hIH d L y 0 (am_ent vs (P y).2.1) [] h r h1 hrun p e _ s m _ below meth c s.heap [] 0 0 _ ls hX y7 hK hG (am_ent_LN hl) rfl (Nat.le_refl _) (Nat.le_refl _) (Nat.le_of_eq (Nat.zero_add _)) (Nat.le_of_eq (Nat.zero_add _)) ?_
  intro H1 locs1 pc1 lsr1 g1 hRD
  rw [Nat.zero_add, Nat.zero_add]
  have hq : ∀ t : State, t.heap = H1 → s.WarmedH t.vm → am_Qc D ad dA Ls xs r h1 (vs.map (am_v ad)).toArray s (.returned (r.map (am_v ad))) t := fun t ht _ => ⟨rfl, locs1, by rw [ht]; exact g1⟩
  have hf : ∀ q ∈ locs1, am_A ad q.base := g1.2.2.1.2.2
  have hr : meth.sig.returnType = am_rty (P y).2.2.1 := B.returns
  rcases hRD with ⟨x, hr0, hd, hrt⟩ | ⟨x, hr0, hd, hrt⟩ | ⟨hr0, hd, hrt⟩
  · subst hr0
    obtain ⟨ty, h1, h2⟩ := am_rt_nar hrt
    exact W.zret B.exec B.bytes (hr.trans h1) h2 hq hf hd B.notSynchronized
  · subst hr0
    exact W.lret B.exec B.bytes (hr.trans (by rw [hrt]; rfl)) hq hf hd B.notSynchronized
  · subst hr0
    exact W.vret B.exec B.bytes (hr.trans (by rw [hrt]; rfl)) hq hf hd B.notSynchronized
end AMM
end
section
section AMN
variable {P : Nat → am_M} {yN : Nat → MethodName} {cN : Nat → ByteArray} {NM : Nat} {Ts : List Cond} {l : Launch} {D : va_G} {ad dA : Nat → Nat} {Ls : Nat} {xs : Nat → Int32} {n : Nat}
theorem am_call (hG : ∀ w ∈ Ts, goodWord w = true) (hP : ∀ M, M < NM → am_gm P yN cN NM Ts M) (hIH : am_IH P yN cN NM Ts l D ad dA Ls xs n)
    {p : Program} {e : Env} {R : Room} {s : State} {m : MethodId} {args : Array Value} {below : List Frame} {meth : Method} {c : Code} {H : Heap} {locs : List Loc} {cells slots : Nat} {Q : State → Prop} {h h1 : am_H} {M pc nx a b d L ret y : Nat} {ls : List (Option Value)} {lsr : Array Slot} {st vs : List Value} {S' : am_S} {r : Option Value} {i : Instr}
    (X : am_X P yN cN Ts p s m args meth c M) (hK : am_K D ad dA Ls xs s) (hd : ∃ len, decode (cN M) pc = .ok (i, len) ∧ ((∃ d lo hi os, i = .tableswitch d lo hi os) ∨ (len = am_len i ∧ nx = pc + len))) (hE : am_Ei P yN NM Ts (am_cn (P M).1) (yN M).name (P M).2.1 i pc a b)
    (g : am_G D ad dA Ls xs s.heap H h locs) (hl : am_LN ad ls lsr (P M).2.1) (hz : H.size = s.heap.size + cells) (hs : am_do P (d + 1) L ret i pc nx a b ls st h = some (.inr (.inr (y, vs, S'))))
    (hRf : d + 1 ≤ R.frames) (hRl : L ≤ R.locals) (hLc : am_lc P y ≤ L) (hlen : (am_ent0 vs).length ≤ (P y).2.1) (hrun : am_run P n d (L - am_lc P y) y (0, am_ent vs (P y).2.1, [], h) = some (r, h1)) (hRc : cells + (h1.1 - h.1) ≤ R.cells) (hRs : slots + (h1.2.1 - h.2.1) ≤ R.slots)
    (kk : ∀ (H1 : Heap) (locs1 : List Loc), am_G D ad dA Ls xs s.heap H1 h1 locs1 → H1.size = s.heap.size + (cells + (h1.1 - h.1)) → W p l e R s m args below meth c H1 locs1 (cells + (h1.1 - h.1)) (slots + (h1.2.1 - h.2.1)) Q (F0 m S'.1 lsr ((r.toList ++ S'.2.2.1).map (am_v ad)))) :
    W p l e R s m args below meth c H locs cells slots Q (F0 m pc lsr (st.map (am_v ad))) := by
  obtain ⟨hx, hb, hml2, hown, hts, hr, hlocks, hnm⟩ := X
  obtain ⟨len, hd, hlen2⟩ := hd
  have hgrow := am_run_grow _ _ _ _ _ _ hrun
  have hle : h.1 ≤ h1.1 := hgrow.1
  have hA := hK.2.2.2.2
  have hsize : lsr.size = (P M).2.1 := hl.1.1
  have fix : CallFix p m c (cN M) (P M).2.1 s args Ts (am_cn (P M).1) := ⟨hx, hb, hml2, hown, hts⟩
  have hmap : (r.map (am_v ad)).toList = r.toList.map (am_v ad) := by cases r <;> rfl
  have hroom : ∀ maxL, maxL = (P y).2.1 → d + 1 ≤ R.frames ∧ 8 + (maxL + 11) + (L - am_lc P y) ≤ R.locals := by
    intro maxL e
    subst e
    unfold am_lc at hLc ⊢
    omega
  have hcat : ∀ (rr : List Value) (pc0 : Nat) (st0 : List Value), am_cat rr ≤ 8 → 2 * (F0 m pc0 lsr st0).monitorRoom + ((rr.map (am_v ad)).map fun v => v.category).sum ≤ 8 := by
    intro rr pc0 st0 h8
    rw [am_v_sum]
    show 2 * 0 + am_cat rr ≤ 8
    omega
  have kk2 : S'.1 = pc + 3 → ∀ rr, S'.2.2.1 = rr → ∀ (H1 : Heap) (locs1 : List Loc), am_G D ad dA Ls xs s.heap H1 h1 locs1 → H1.size = s.heap.size + (cells + (h1.1 - h.1)) → W p l e R s m args below meth c H1 locs1 (cells + (h1.1 - h.1)) (slots + (h1.2.1 - h.2.1)) Q (F0 m (pc + 3) lsr ((r.map (am_v ad)).toList ++ rr.map (am_v ad))) := by
    intro e1 rr e2 H1 locs1 g1 hz1
    have := kk H1 locs1 g1 hz1
    rw [e1, e2, List.map_append, ← hmap] at this
    exact this
  cases i <;> first
    | (exfalso; simp only [am_do, am_ii, am_i1, am_ll, am_l1, am_r1, am_ri, am_cA, am_cL, am_cQ, am_cO, am_ix, Bool.cond_eq_ite] at hs; (repeat' split at hs) <;> cases hs; done)
    | skip
  case invokespecial idx =>
    have hl1 := (hlen2.resolve_left (by rintro ⟨_, _, _, _, hq⟩; cases hq))
    have hl2 := hl1.1; have hl3 := hl1.2; clear hl1 hlen2; subst hl2; subst hl3
    rcases hE with ⟨ha, -⟩ | ⟨ha, haN, hlink, hinst, hnm0, hrt0, hdesc⟩
    · exfalso
      subst ha
      obtain ⟨q, r, hst, hs⟩ := am_r1_inv (show am_r1 st (fun _ r => bif Nat.ble 1 (d + 1) && Nat.ble (am_cat r + 12) L then some (.inl (pc + am_len (.invokespecial idx), ls, r, h)) else none) = some (.inr (.inr (y, vs, S'))) from hs)
      have hs1 := (am_bif_inv hs).2; cases hs1
    have hb0 : Nat.beq a 999 = false := by
      cases e : Nat.beq a 999
      · rfl
      · exact absurd (Nat.eq_of_beq_eq_true e) ha
    dsimp only [am_do] at hs
    rw [hb0] at hs
    dsimp only [cond] at hs
    split at hs
    · rename_i q vs' rr htake
      have hs0 := am_bif_inv hs; clear hs; obtain ⟨h8, hs⟩ := hs0
      have h8 := Nat.le_of_ble_eq_true h8
      cases hs
      obtain ⟨ht1, ht2⟩ := am_take0 htake
      have hMet := am_met hIH (hP _ haN) hlen hrun
      have hrt : am_rty (P a).2.2.1 = none := by rw [hrt0]; rfl
      rw [hrt] at hMet
      have hst : st.map (am_v ad) = (vs'.map (am_v ad)).reverse ++ .ref (ad q) :: rr.map (am_v ad) := by
        rw [ht2]
        simp [am_v]
      obtain ⟨y1, y2, y3, y4, y5, y6, y7⟩ := hP _ haN
      rw [hrt] at y2
      have hpre : PreS s H (va_Pc ((Value.ref q :: vs').map (am_v ad)) (am_B D ad dA Ls xs h)) (.ref (ad q) :: vs'.map (am_v ad)) := ⟨am_blind, fun U hU hW => ⟨rfl, am_pre g hK hU hW⟩⟩
      have hn : (vs'.map (am_v ad)).length = b := by
        have : (Value.ref q :: vs').length = b + 1 := ht1
        simpa using this
      rcases hlink with hlink | ⟨host, hlink⟩
      · exact am_goC (va_runI fix hMet (cwI b hts (am_goodT hG (am_consT y2)) rfl rfl rfl (hts _ y3) (hts _ hlink) (hts _ hinst) hnm0 ⟨y4, y5, hdesc⟩ (hroom _ rfl)) hpre rfl hn hsize hst (hcat _ _ _ h8) hd ⟨hRc, hRs⟩) hA g hz hle (kk2 rfl _ rfl)
      · exact am_goC (va_runIN fix hMet ⟨va_cnB b hts (am_goodT hG (am_consT y2)) rfl rfl rfl (hK.2.1.2.2.2 _ hlink) (hts _ y3) ⟨y4, y5, hdesc⟩ (hroom _ rfl), hnm0, hts _ hinst⟩ hpre rfl hn hsize hst (hcat _ _ _ h8) hd ⟨hRc, hRs⟩) hA g hz hle (kk2 rfl _ rfl)
    · cases hs
  case invokestatic idx =>
    have hl1 := (hlen2.resolve_left (by rintro ⟨_, _, _, _, hq⟩; cases hq))
    have hl2 := hl1.1; have hl3 := hl1.2; clear hl1 hlen2; subst hl2; subst hl3
    rcases hE with ⟨ha, -⟩ | ⟨ha, -⟩ | ⟨ha, -⟩ | ⟨ha, -⟩ | ⟨ha, ha2, ha3, ha4, haN, hlink, hstat, hdesc⟩
    · exfalso; subst ha
      change (match st with
        | .int n :: .int dp :: .ref q :: .int sp :: .ref p :: r => am_cA (h.2.2 p) 0 fun n0 f => am_cA (h.2.2 q) 0 fun n1 g =>
          if n < 0 ∨ dp < 0 ∨ sp < 0 ∨ n0 < sp.toNatClampNeg + n.toNatClampNeg ∨ n1 < dp.toNatClampNeg + n.toNatClampNeg ∨ p < 8 ∨ q < 8 ∨ d + 1 < 1 ∨ L < am_cat r + 40 then none
          else some (.inl (pc + am_len (.invokestatic idx), ls, r, am_up h q (.inr (0, n1, .inl (va_cpy f g sp.toNatClampNeg dp.toNatClampNeg n.toNatClampNeg)))))
        | _ => (none : am_O)) = some (.inr (.inr (y, vs, S'))) at hs
      split at hs
      · obtain ⟨n0, f, hc0, hs1⟩ := am_cA_inv hs
        obtain ⟨n1, f1, hc1, hs2⟩ := am_cA_inv hs1
        split at hs2 <;> cases hs2
      · cases hs
    · exfalso; subst ha
      obtain ⟨x, y0, r0, hst, hs1⟩ := am_ii_inv (show am_ii st (fun x y r => bif Nat.ble 1 (d + 1) && Nat.ble (am_cat r + 13) L then some (.inl (pc + am_len (.invokestatic idx), ls, .int (if y < x then y else x) :: r, h)) else none) = some (.inr (.inr (y, vs, S'))) from hs)
      have hs2 := (am_bif_inv hs1).2; cases hs2
    · exfalso; subst ha
      obtain ⟨x, y0, r0, hst, hs1⟩ := am_ii_inv (show am_ii st (fun x y r => bif Nat.ble 1 (d + 1) && Nat.ble (am_cat r + 13) L then some (.inl (pc + am_len (.invokestatic idx), ls, .int (if x < y then y else x) :: r, h)) else none) = some (.inr (.inr (y, vs, S'))) from hs)
      have hs2 := (am_bif_inv hs1).2; cases hs2
    · exfalso; subst ha
      obtain ⟨x, y0, r0, hst, hs1⟩ := am_ii_inv (show am_ii st (fun x y r => if x < 0 ∨ ¬ x < y then none else bif Nat.ble 2 (d + 1) && Nat.ble (am_cat r) 8 && Nat.ble 60 L then some (.inl (pc + am_len (.invokestatic idx), ls, r, h)) else none) = some (.inr (.inr (y, vs, S'))) from hs)
      split at hs1
      · cases hs1
      have hs2 := (am_bif_inv hs1).2; cases hs2
    have hbf : ∀ k, ¬ a = k → Nat.beq a k = false := by
      intro k hk
      cases e : Nat.beq a k
      · rfl
      · exact absurd (Nat.eq_of_beq_eq_true e) hk
    dsimp only [am_do] at hs
    rw [hbf 998 ha, hbf 997 ha2, hbf 996 ha3, hbf 994 ha4] at hs
    dsimp only [cond] at hs
    split at hs
    · rename_i vs' rr htake
      have hs0 := am_bif_inv hs; clear hs; obtain ⟨h8, hs⟩ := hs0
      have h8 := Nat.le_of_ble_eq_true h8
      cases hs
      obtain ⟨ht1, ht2⟩ := am_take0 htake
      have hMet := am_met hIH (hP _ haN) hlen hrun
      have hst : st.map (am_v ad) = (vs.map (am_v ad)).reverse ++ rr.map (am_v ad) := by
        rw [ht2]
        simp
      obtain ⟨y1, y2, y3, y4, y5, y6, y7⟩ := hP _ haN
      have hpre : PreS s H (va_Pc (vs.map (am_v ad)) (am_B D ad dA Ls xs h)) (vs.map (am_v ad)) := ⟨am_blind, fun U hU hW => ⟨rfl, am_pre g hK hU hW⟩⟩
      have hn : (vs.map (am_v ad)).length = b := by rw [List.length_map]; exact ht1
      rcases hlink with hlink | ⟨host, hlink⟩
      · exact am_goC (va_runS fix hMet ⟨callB_of b hts (am_goodT hG (am_consT y2)) rfl rfl rfl (hts _ y3) (hts _ hlink) ⟨y4, y5, hdesc⟩ (hroom _ rfl), hts _ hstat⟩ hpre rfl hn hsize hst (hcat _ _ _ h8) hd ⟨hRc, hRs⟩) hA g hz hle (kk2 rfl _ rfl)
      · exact am_goC (va_runSN fix hMet ⟨va_cnB b hts (am_goodT hG (am_consT y2)) rfl rfl rfl (hK.2.1.2.2.2 _ hlink) (hts _ y3) ⟨y4, y5, hdesc⟩ (hroom _ rfl), hts _ hstat, trivial⟩ hpre rfl hn hsize hst (hcat _ _ _ h8) hd ⟨hRc, hRs⟩) hA g hz hle (kk2 rfl _ rfl)
    · cases hs
  case invokevirtual idx =>
    have hl1 := (hlen2.resolve_left (by rintro ⟨_, _, _, _, hq⟩; cases hq))
    have hl2 := hl1.1; have hl3 := hl1.2; clear hl1 hlen2; subst hl2; subst hl3
    obtain ⟨haN, hlink, hinst, hsel, hdesc⟩ := hE
    dsimp only [am_do] at hs
    split at hs
    · rename_i q vs' rr htake
      have hs0 := am_cO_inv hs; clear hs; obtain ⟨ci, fs, hc, hs⟩ := hs0
      have hs0 := am_bif_inv hs; clear hs; obtain ⟨hcd, hs⟩ := hs0
      simp only [Bool.and_eq_true] at hcd
      have hci := Nat.eq_of_beq_eq_true hcd.1
      have h8 := Nat.le_of_ble_eq_true hcd.2
      cases hs
      obtain ⟨ht1, ht2⟩ := am_take0 htake
      have hMet := am_met hIH (hP _ haN) hlen hrun
      have hst : st.map (am_v ad) = (vs'.map (am_v ad)).reverse ++ .ref (ad q) :: rr.map (am_v ad) := by
        rw [ht2]
        simp [am_v]
      obtain ⟨y1, y2, y3, y4, y5, y6, y7⟩ := hP _ haN
      have hn : (vs'.map (am_v ad)).length = b := by
        have : (Value.ref q :: vs').length = b + 1 := ht1
        simpa using this
      have hrecv : ∃ cellB : Cell, H[ad q]? = some cellB ∧ cellB.vm.isStatics = false ∧ s.vm.findClass (yN a).cls = some cellB.cls := by
        rw [y6, ← hci]
        rcases am_loc g q with ⟨h8, hq⟩ | ⟨h8, hlt, hq⟩ | hq
        · rw [hc] at hq
          rcases (am_lt8 h8) with e | e | e | e | e | e | e | e <;> subst e <;> first | (cases hq; done) | skip
          · cases hq; exact vk_recv hK.2.2.1.2.2.2.2.2.2.2.2.1 (i := 0) (by decide) g.2.2.1
          · cases hq; exact vk_recv hK.2.2.1.2.2.2.2.2.2.2.2.1 (i := 1) (by decide) g.2.2.1
          · cases hq; exact vk_recv hK.2.2.1.2.2.2.2.2.2.2.2.1 (i := 2) (by decide) g.2.2.1
        · rw [hc] at hq
          obtain ⟨r0, hr0, -⟩ := g.1 (q - 8) _ hq
          have h12 : ci < 12 := (List.getElem?_eq_some_iff.mp hr0).1
          exact va_recv hK.1 g.1 (am_clAt ci h12) hq
        · rw [hc] at hq; cases hq
      have hpre : PreV s H (yN a).cls (ad q) (va_Pc ((Value.ref q :: vs').map (am_v ad)) (am_B D ad dA Ls xs h)) (vs'.map (am_v ad)) := ⟨am_blind, hrecv, fun U hU hW => ⟨rfl, am_pre g hK hU hW⟩⟩
      refine am_goC (va_runV fix hMet (cwV b hts (am_goodT hG (fun w hw => ?_)) rfl rfl rfl ⟨rfl, y4, y5, hdesc⟩ (hroom _ rfl)) hpre rfl hn hsize hst (hcat _ _ _ h8) hd ⟨hRc, hRs⟩) hA g hz hle (kk2 rfl _ rfl)
      unfold wsV at hw
      rcases List.mem_append.mp hw with hw | hw
      · simp only [List.mem_cons, List.not_mem_nil, or_false] at hw
        rcases hw with e | e | e | e
        · rw [e]; exact hlink
        · rw [e]; exact hinst
        · rw [e]; exact hsel
        · rw [e]; exact y3
      · rcases List.mem_cons.mp hw with e | e
        · rw [e]; exact y2
        · exact e
    · cases hs
end AMN
end
section
/-- WHAT am_run SAYS, THE JVM DOES: from a frame, whatever stands behind the method's return -/
theorem am_sound {P : Nat → am_M} {yN : Nat → MethodName} {cN : Nat → ByteArray} {NM : Nat} {Ts : List Cond} {l : Launch} {D : va_G} {ad dA : Nat → Nat} {Ls : Nat} {xs : Nat → Int32} (hU : ∀ k, k < 12 → ∀ w ∈ u_ws (am_cn k) (am_tb k) (am_nf k), w ∈ Ts) (hG : ∀ w ∈ Ts, goodWord w = true) (hP : ∀ M, M < NM → am_gm P yN cN NM Ts M) : ∀ n, am_IH P yN cN NM Ts l D ad dA Ls xs n := by
  intro n
  induction n with
  | zero => intro d L M pc ls st h r h' hrun; simp [am_run] at hrun
  | succ n ih =>
    intro d L M pc ls st h r h' hrun p e R s m args below meth c H locs cells slots Q lsr X hEnt hK g hl hz hRf hRl hRc hRs hret
    have hgrow := am_run_grow _ _ _ _ _ _ hrun
    rw [am_run] at hrun
    cases hstep : am_step P d L M (pc, ls, st, h) with
    | none => rw [hstep] at hrun; simp at hrun
    | some o =>
      rw [hstep] at hrun
      unfold am_step at hstep
      cases hat : am_at (P M).2.2.2 pc with
      | none => rw [hat] at hstep; cases hstep
      | some q =>
        obtain ⟨i, nx, a, b⟩ := q
        rw [hat] at hstep
        dsimp only at hstep
        obtain ⟨hd, hE⟩ := hEnt pc _ hat
        match o, hrun, hstep with
        | .inl S', hrun, hstep =>
          have hm := am_do_mono hstep
          have hg2 := am_run_grow _ _ _ _ _ _ hrun
          dsimp only at hg2
          have kk : am_KK p l e R s m args below meth c cells slots Q D ad dA Ls xs (P M).2.1 h S' := by
            intro H1 locs1 lsr1 g1 hl1 hz1
            refine ih d L M S'.1 S'.2.1 S'.2.2.1 S'.2.2.2 r h' hrun p e R s m args below meth c H1 locs1 _ _ Q lsr1 X hEnt hK g1 hl1 hz1 hRf hRl (by omega) (by omega) ?_
            intro H2 locs2 pc1 lsr2 g2 hRD
            have := hret H2 locs2 pc1 lsr2 g2 hRD
            have e1 : cells + (h'.1 - h.1) = cells + (S'.2.2.2.1 - h.1) + (h'.1 - S'.2.2.2.1) := by omega
            have e2 : slots + (h'.2.1 - h.2.1) = slots + (S'.2.2.2.2.1 - h.2.1) + (h'.2.1 - S'.2.2.2.2.1) := by omega
            rw [e1, e2] at this
            exact this
          cases hh : am_hp i with
          | false => exact am_sd1 X rfl hK hd hE g hl hz kk hstep hh
          | true => exact am_sd2 hG X rfl hK hU hd hE g hl hz kk hstep hRf hRl (by omega) (by omega) hh
        | .inr (.inl r0), hrun, hstep =>
          cases hrun
          obtain ⟨hst, hRD⟩ := am_ret_inv hd hstep
          have := hret H locs pc lsr g hRD
          rw [Nat.sub_self, Nat.sub_self, Nat.add_zero, Nat.add_zero, ← hst] at this
          exact this
        | .inr (.inr (y, vs, S')), hrun, hstep =>
          have hc : S'.2.2.2 = h ∧ S'.2.1 = ls := by
            cases i <;> simp only [am_do, am_ii, am_i1, am_ll, am_l1, am_r1, am_ri, am_cA, am_cL, am_cQ, am_cO, am_ix, Bool.cond_eq_ite] at hstep <;> (repeat' split at hstep) <;> first | (cases hstep; done) | (cases hstep; exact ⟨rfl, rfl⟩)
          cases d with
          | zero => simp at hrun
          | succ d' =>
            dsimp only at hrun
            split at hrun
            · cases hrun
            · rename_i hL
              rw [hc.1] at hrun
              cases hr : am_run P n d' (L - am_lc P y) y (0, am_ent vs (P y).2.1, [], h) with
              | none => rw [hr] at hrun; simp at hrun
              | some q =>
                obtain ⟨r1, h1⟩ := q
                rw [hr] at hrun
                dsimp only at hrun
                have g1 := am_run_grow _ _ _ _ _ _ hr
                have g2 := am_run_grow _ _ _ _ _ _ hrun
                dsimp only at g1 g2
                refine am_call hG hP ih X hK hd hE g hl hz hstep hRf hRl (by omega) (by omega) hr (by omega) (by omega) ?_
                intro H1 locs1 gg hz1
                rw [hc.2] at hrun
                refine ih (d' + 1) L M S'.1 ls (r1.toList ++ S'.2.2.1) h1 r h' hrun p e R s m args below meth c H1 locs1 _ _ Q lsr X hEnt hK gg hl hz1 hRf hRl (by omega) (by omega) ?_
                intro H2 locs2 pc1 lsr2 gg2 hRD
                have := hret H2 locs2 pc1 lsr2 gg2 hRD
                have e1 : cells + (h'.1 - h.1) = cells + (h1.1 - h.1) + (h'.1 - h1.1) := by omega
                have e2 : slots + (h'.2.1 - h.2.1) = slots + (h1.2.1 - h.2.1) + (h'.2.1 - h1.2.1) := by omega
                rw [e1, e2] at this
                exact this
end
section
/-! ===== the methods' instructions, by program out of the Statement ===== -/
set_option maxRecDepth 20000 in
/-- 0: StoneHome$Forecast.<init>(LStoneHome$Table;LStoneHome$Street;)V -/
def at_X0_init : List (Nat × am_I) := [(0, .aload_n 0, 1, 0, 0), (1, .invokespecial 3, 4, 999, 0), (4, .aload_n 0, 5, 0, 0), (5, .sipush 384, 8, 0, 0), (8, .newarray .int, 10, 0, 0), (10, .putfield 9, 13, 0, 18), (13, .aload_n 0, 14, 0, 0), (14, .sipush 384, 17, 0, 0),
  (17, .newarray .int, 19, 0, 0), (19, .putfield 15, 22, 0, 26), (22, .aload_n 0, 23, 0, 0), (23, .iconst 0, 24, 0, 0), (24, .putfield 18, 27, 0, 33), (27, .aload_n 0, 28, 0, 0), (28, .iconst 0, 29, 0, 0), (29, .putfield 22, 32, 0, 40),
  (32, .aload_n 0, 33, 0, 0), (33, .iconst 0, 34, 0, 0), (34, .putfield 26, 37, 0, 48), (37, .aload_n 0, 38, 0, 0), (38, .iconst (-1), 39, 0, 0), (39, .putfield 29, 42, 0, 56), (42, .aload_n 0, 43, 0, 0), (43, .iconst (-1), 44, 0, 0),
  (44, .putfield 32, 47, 0, 64), (47, .aload_n 0, 48, 0, 0), (48, .aload_n 1, 49, 1, 0), (49, .putfield 35, 52, 0, 6), (52, .aload_n 0, 53, 0, 0), (53, .aload_n 2, 54, 2, 0), (54, .putfield 39, 57, 0, 10), (57, .return_, 58, 0, 0)]
set_option maxRecDepth 20000 in
/-- 1: StoneHome$Forecast.follow(LStoneHome$Street;)V -/
def at_X0_follow : List (Nat × am_I) := [(0, .aload_n 0, 1, 0, 0), (1, .aload_n 1, 2, 1, 0), (2, .putfield 39, 5, 0, 10), (5, .aload_n 0, 6, 0, 0), (6, .iconst 0, 7, 0, 0), (7, .putfield 18, 10, 0, 33), (10, .return_, 11, 0, 0)]
set_option maxRecDepth 20000 in
/-- 2: StoneHome$Forecast.look(IIII)V -/
def at_X0_look : List (Nat × am_I) := [(0, .aload_n 0, 1, 0, 0), (1, .getfield 35, 4, 0, 0), (4, .iload_n 1, 5, 1, 0), (5, .invokevirtual 43, 8, 113, 1), (8, .istore 5, 10, 5, 0), (10, .aload_n 0, 11, 0, 0), (11, .getfield 18, 14, 0, 4), (14, .ifCond .eq 38, 17, 52, 0),
  (17, .aload_n 0, 18, 0, 0), (18, .getfield 22, 21, 0, 5), (21, .iload 5, 23, 5, 0), (23, .if_icmp .ne 29, 26, 52, 0), (26, .aload_n 0, 27, 0, 0), (27, .getfield 26, 30, 0, 6), (30, .iload_n 2, 31, 2, 0), (31, .if_icmp .ne 21, 34, 52, 0),
  (34, .aload_n 0, 35, 0, 0), (35, .getfield 29, 38, 0, 7), (38, .iload_n 3, 39, 3, 0), (39, .if_icmp .ne 13, 42, 52, 0), (42, .aload_n 0, 43, 0, 0), (43, .getfield 32, 46, 0, 8), (46, .iload 4, 48, 4, 0), (48, .if_icmp .ne 4, 51, 52, 0),
  (51, .return_, 52, 0, 0), (52, .aload_n 0, 53, 0, 0), (53, .iconst 1, 54, 0, 0), (54, .putfield 18, 57, 0, 33), (57, .aload_n 0, 58, 0, 0), (58, .iload 5, 60, 5, 0), (60, .putfield 22, 63, 0, 40), (63, .aload_n 0, 64, 0, 0),
  (64, .iload_n 2, 65, 2, 0), (65, .putfield 26, 68, 0, 48), (68, .aload_n 0, 69, 0, 0), (69, .iload_n 3, 70, 3, 0), (70, .putfield 29, 73, 0, 56), (73, .aload_n 0, 74, 0, 0), (74, .iload 4, 76, 4, 0), (76, .putfield 32, 79, 0, 64),
  (79, .iconst 0, 80, 0, 0), (80, .istore 6, 82, 6, 0), (82, .iload 6, 84, 6, 0), (84, .iload_n 2, 85, 2, 0), (85, .if_icmp .gt 37, 88, 122, 0), (88, .aload_n 0, 89, 0, 0), (89, .invokevirtual 49, 92, 3, 0), (92, .iload 6, 94, 6, 0),
  (94, .ifCond .le 16, 97, 110, 0), (97, .aload_n 0, 98, 0, 0), (98, .getfield 35, 101, 0, 0), (101, .iload_n 1, 102, 1, 0), (102, .iload_n 2, 103, 2, 0), (103, .iadd, 104, 0, 0), (104, .iload 6, 106, 6, 0), (106, .isub, 107, 0, 0),
  (107, .invokevirtual 52, 110, 114, 1), (110, .aload_n 0, 111, 0, 0), (111, .iload 6, 113, 6, 0), (113, .invokevirtual 56, 116, 4, 1), (116, .iinc 6 1, 119, 6, 0), (119, .goto (-37), 122, 82, 0), (122, .return_, 123, 0, 0)]
set_option maxRecDepth 20000 in
/-- 3: StoneHome$Forecast.swap()V -/
def at_X0_swap : List (Nat × am_I) := [(0, .aload_n 0, 1, 0, 0), (1, .getfield 15, 4, 0, 3), (4, .astore_n 1, 5, 1, 0), (5, .aload_n 0, 6, 0, 0), (6, .aload_n 0, 7, 0, 0), (7, .getfield 9, 10, 0, 2), (10, .putfield 15, 13, 0, 26), (13, .aload_n 0, 14, 0, 0),
  (14, .aload_n 1, 15, 1, 0), (15, .putfield 9, 18, 0, 18), (18, .return_, 19, 0, 0)]
set_option maxRecDepth 20000 in
/-- 4: StoneHome$Forecast.fillLayer(I)V -/
def at_X0_fillLayer : List (Nat × am_I) := [(0, .aload_n 0, 1, 0, 0), (1, .getfield 39, 4, 0, 1), (4, .getfield 72, 7, 7, 13), (7, .iconst 1, 8, 0, 0), (8, .iadd, 9, 0, 0), (9, .iconst 3, 10, 0, 0), (10, .invokestatic 75, 13, 997, 2), (13, .istore_n 2, 14, 2, 0),
  (14, .iconst 0, 15, 0, 0), (15, .istore_n 3, 16, 3, 0), (16, .iload_n 3, 17, 3, 0), (17, .aload_n 0, 18, 0, 0), (18, .getfield 35, 21, 0, 0), (21, .getfield 80, 24, 8, 6), (24, .if_icmp .ge 98, 27, 122, 0), (27, .iload_n 3, 28, 3, 0),
  (28, .bipush 96, 30, 0, 0), (30, .if_icmp .ge 92, 33, 122, 0), (33, .aload_n 0, 34, 0, 0), (34, .getfield 35, 37, 0, 0), (37, .getfield 83, 40, 8, 4), (40, .iload_n 3, 41, 3, 0), (41, .iaload, 42, 0, 0), (42, .istore 4, 44, 4, 0),
  (44, .iload_n 3, 45, 3, 0), (45, .aload_n 0, 46, 0, 0), (46, .getfield 35, 49, 0, 0), (49, .getfield 86, 52, 8, 5), (52, .if_icmp .ge 11, 55, 63, 0), (55, .iload_n 1, 56, 1, 0), (56, .ifCond .le 7, 59, 63, 0), (59, .iconst 1, 60, 0, 0),
  (60, .goto 4, 63, 64, 0), (63, .iconst 0, 64, 0, 0), (64, .istore 5, 66, 5, 0), (66, .iconst 0, 67, 0, 0), (67, .istore 6, 69, 6, 0), (69, .iload 6, 71, 6, 0), (71, .iload_n 2, 72, 2, 0), (72, .if_icmp .gt 44, 75, 116, 0),
  (75, .aload_n 0, 76, 0, 0), (76, .getfield 9, 79, 0, 2), (79, .iload 4, 81, 4, 0), (81, .iconst 4, 82, 0, 0), (82, .imul, 83, 0, 0), (83, .iload 6, 85, 6, 0), (85, .iadd, 86, 0, 0), (86, .iload 5, 88, 5, 0),
  (88, .ifCond .eq 14, 91, 102, 0), (91, .aload_n 0, 92, 0, 0), (92, .iload 4, 94, 4, 0), (94, .iload 6, 96, 6, 0), (96, .invokevirtual 89, 99, 5, 2), (99, .goto 10, 102, 109, 0), (102, .aload_n 0, 103, 0, 0), (103, .iload 4, 105, 4, 0),
  (105, .iload_n 1, 106, 1, 0), (106, .invokevirtual 92, 109, 9, 2), (109, .iastore, 110, 0, 0), (110, .iinc 6 1, 113, 6, 0), (113, .goto (-44), 116, 69, 0), (116, .iinc 3 1, 119, 3, 0), (119, .goto (-103), 122, 16, 0), (122, .return_, 123, 0, 0)]
set_option maxRecDepth 20000 in
/-- 5: StoneHome$Forecast.chanceThere(II)I -/
def at_X0_chanceThere : List (Nat × am_I) := [(0, .aload_n 0, 1, 0, 0), (1, .getfield 29, 4, 0, 7), (4, .iconst (-1), 5, 0, 0), (5, .if_icmp .eq 43, 8, 48, 0), (8, .aload_n 0, 9, 0, 0), (9, .getfield 39, 12, 0, 1), (12, .iload_n 1, 13, 1, 0), (13, .iconst 3, 14, 0, 0),
  (14, .idiv, 15, 0, 0), (15, .aload_n 0, 16, 0, 0), (16, .getfield 29, 19, 0, 7), (19, .invokevirtual 102, 22, 97, 2), (22, .istore_n 3, 23, 3, 0), (23, .aload_n 0, 24, 0, 0), (24, .iload_n 3, 25, 3, 0), (25, .ifCond .eq 10, 28, 35, 0),
  (28, .aload_n 0, 29, 0, 0), (29, .getfield 29, 32, 0, 7), (32, .goto 10, 35, 42, 0), (35, .aload_n 0, 36, 0, 0), (36, .getfield 39, 39, 0, 1), (39, .getfield 63, 42, 7, 4), (42, .iload_n 1, 43, 1, 0), (43, .iload_n 2, 44, 2, 0),
  (44, .invokevirtual 68, 47, 6, 3), (47, .ireturn, 48, 0, 0), (48, .iconst 0, 49, 0, 0), (49, .istore_n 3, 50, 3, 0), (50, .iconst 0, 51, 0, 0), (51, .istore 4, 53, 4, 0), (53, .iload 4, 55, 4, 0), (55, .aload_n 0, 56, 0, 0),
  (56, .getfield 39, 59, 0, 1), (59, .getfield 63, 62, 7, 4), (62, .if_icmp .gt 22, 65, 84, 0), (65, .iload_n 3, 66, 3, 0), (66, .aload_n 0, 67, 0, 0), (67, .iload 4, 69, 4, 0), (69, .iload_n 1, 70, 1, 0), (70, .iload_n 2, 71, 2, 0),
  (71, .invokevirtual 68, 74, 6, 3), (74, .invokestatic 106, 77, 996, 2), (77, .istore_n 3, 78, 3, 0), (78, .iinc 4 1, 81, 4, 0), (81, .goto (-28), 84, 53, 0), (84, .iload_n 3, 85, 3, 0), (85, .ireturn, 86, 0, 0)]
set_option maxRecDepth 20000 in
/-- 6: StoneHome$Forecast.chanceBy(III)I -/
def at_X0_chanceBy : List (Nat × am_I) := [(0, .aload_n 0, 1, 0, 0), (1, .getfield 39, 4, 0, 1), (4, .iload_n 2, 5, 2, 0), (5, .iconst 3, 6, 0, 0), (6, .idiv, 7, 0, 0), (7, .iload_n 1, 8, 1, 0), (8, .invokevirtual 109, 11, 106, 2), (11, .ifCond .ne 5, 14, 16, 0),
  (14, .iconst (-1), 15, 0, 0), (15, .ireturn, 16, 0, 0), (16, .aload_n 0, 17, 0, 0), (17, .iload_n 2, 18, 2, 0), (18, .iload_n 3, 19, 3, 0), (19, .iconst 1, 20, 0, 0), (20, .isub, 21, 0, 0), (21, .invokevirtual 112, 24, 7, 2),
  (24, .istore 4, 26, 4, 0), (26, .iconst 0, 27, 0, 0), (27, .istore 5, 29, 5, 0), (29, .aload_n 0, 30, 0, 0), (30, .getfield 39, 33, 0, 1), (33, .iload_n 1, 34, 1, 0), (34, .invokevirtual 115, 37, 102, 1), (37, .istore 6, 39, 6, 0),
  (39, .aload_n 0, 40, 0, 0), (40, .getfield 39, 43, 0, 1), (43, .iload_n 1, 44, 1, 0), (44, .invokevirtual 118, 47, 101, 1), (47, .istore 7, 49, 7, 0), (49, .iload 7, 51, 7, 0), (51, .iload 6, 53, 6, 0), (53, .if_icmp .ge 54, 56, 107, 0),
  (56, .aload_n 0, 57, 0, 0), (57, .getfield 35, 60, 0, 0), (60, .iload_n 2, 61, 2, 0), (61, .iload 7, 63, 7, 0), (63, .invokevirtual 121, 66, 115, 2), (66, .istore 8, 68, 8, 0), (68, .iload 5, 70, 5, 0), (70, .aload_n 0, 71, 0, 0),
  (71, .getfield 39, 74, 0, 1), (74, .iload 7, 76, 7, 0), (76, .invokevirtual 124, 79, 103, 1), (79, .iload 8, 81, 8, 0), (81, .iconst (-1), 82, 0, 0), (82, .if_icmp .ne 8, 85, 90, 0), (85, .iload 4, 87, 4, 0), (87, .goto 10, 90, 97, 0),
  (90, .aload_n 0, 91, 0, 0), (91, .iload 8, 93, 8, 0), (93, .iload_n 3, 94, 3, 0), (94, .invokevirtual 112, 97, 7, 2), (97, .imul, 98, 0, 0), (98, .iadd, 99, 0, 0), (99, .istore 5, 101, 5, 0), (101, .iinc 7 1, 104, 7, 0),
  (104, .goto (-55), 107, 49, 0), (107, .iload 5, 109, 5, 0), (109, .ireturn, 110, 0, 0)]
set_option maxRecDepth 20000 in
/-- 7: StoneHome$Forecast.laterChance(II)I -/
def at_X0_laterChance : List (Nat × am_I) := [(0, .iload_n 1, 1, 1, 0), (1, .iload_n 2, 2, 2, 0), (2, .invokestatic 59, 5, 8, 2), (5, .istore_n 3, 6, 3, 0), (6, .iload_n 3, 7, 3, 0), (7, .iconst (-1), 8, 0, 0), (8, .if_icmp .ne 7, 11, 15, 0), (11, .iconst 0, 12, 0, 0),
  (12, .goto 9, 15, 21, 0), (15, .aload_n 0, 16, 0, 0), (16, .getfield 15, 19, 0, 3), (19, .iload_n 3, 20, 3, 0), (20, .iaload, 21, 0, 0), (21, .ireturn, 22, 0, 0)]
set_option maxRecDepth 20000 in
/-- 8: StoneHome$Forecast.placeFor(II)I -/
def at_X0_placeFor : List (Nat × am_I) := [(0, .iload_n 0, 1, 0, 0), (1, .ifCond .lt 22, 4, 23, 0), (4, .iload_n 0, 5, 0, 0), (5, .bipush 96, 7, 0, 0), (7, .if_icmp .ge 16, 10, 23, 0), (10, .iload_n 1, 11, 1, 0), (11, .ifCond .lt 12, 14, 23, 0), (14, .iload_n 1, 15, 1, 0),
  (15, .iconst 4, 16, 0, 0), (16, .if_icmp .ge 7, 19, 23, 0), (19, .iconst 1, 20, 0, 0), (20, .goto 4, 23, 24, 0), (23, .iconst 0, 24, 0, 0), (24, .istore_n 2, 25, 2, 0), (25, .iload_n 2, 26, 2, 0), (26, .ifCond .eq 11, 29, 37, 0),
  (29, .iload_n 0, 30, 0, 0), (30, .iconst 4, 31, 0, 0), (31, .imul, 32, 0, 0), (32, .iload_n 1, 33, 1, 0), (33, .iadd, 34, 0, 0), (34, .goto 4, 37, 38, 0), (37, .iconst (-1), 38, 0, 0), (38, .ireturn, 39, 0, 0)]
set_option maxRecDepth 20000 in
/-- 9: StoneHome$Forecast.chanceAtRest(II)I -/
def at_X0_chanceAtRest : List (Nat × am_I) := [(0, .aload_n 0, 1, 0, 0), (1, .getfield 32, 4, 0, 8), (4, .iconst (-1), 5, 0, 0), (5, .if_icmp .ne 14, 8, 19, 0), (8, .aload_n 0, 9, 0, 0), (9, .getfield 39, 12, 0, 1), (12, .iload_n 1, 13, 1, 0), (13, .invokevirtual 95, 16, 90, 1),
  (16, .goto 18, 19, 34, 0), (19, .iload_n 1, 20, 1, 0), (20, .iconst 3, 21, 0, 0), (21, .idiv, 22, 0, 0), (22, .aload_n 0, 23, 0, 0), (23, .getfield 32, 26, 0, 8), (26, .if_icmp .ne 7, 29, 33, 0), (29, .iconst 1, 30, 0, 0),
  (30, .goto 4, 33, 34, 0), (33, .iconst 0, 34, 0, 0), (34, .istore_n 3, 35, 3, 0), (35, .iload_n 3, 36, 3, 0), (36, .ifCond .eq 10, 39, 46, 0), (39, .iload_n 2, 40, 2, 0), (40, .invokestatic 99, 43, 156, 1), (43, .goto 4, 46, 47, 0),
  (46, .iconst 0, 47, 0, 0), (47, .ireturn, 48, 0, 0)]
set_option maxRecDepth 20000 in
/-- 10: StoneHome$Forecast.chance(II)I -/
def at_X0_chance : List (Nat × am_I) := [(0, .iload_n 1, 1, 1, 0), (1, .iload_n 2, 2, 2, 0), (2, .invokestatic 59, 5, 8, 2), (5, .istore_n 3, 6, 3, 0), (6, .iload_n 3, 7, 3, 0), (7, .iconst (-1), 8, 0, 0), (8, .if_icmp .ne 7, 11, 15, 0), (11, .iconst 0, 12, 0, 0),
  (12, .goto 9, 15, 21, 0), (15, .aload_n 0, 16, 0, 0), (16, .getfield 9, 19, 0, 2), (19, .iload_n 3, 20, 3, 0), (20, .iaload, 21, 0, 0), (21, .ireturn, 22, 0, 0)]
set_option maxRecDepth 20000 in
/-- 11: StoneHome$Forecast.bestAction(III)I -/
def at_X0_bestAction : List (Nat × am_I) := [(0, .aload_n 0, 1, 0, 0), (1, .getfield 35, 4, 0, 0), (4, .iload_n 1, 5, 1, 0), (5, .invokevirtual 52, 8, 114, 1), (8, .iconst (-1), 9, 0, 0), (9, .istore 4, 11, 4, 0), (11, .aload_n 0, 12, 0, 0), (12, .getfield 39, 15, 0, 1),
  (15, .getfield 63, 18, 7, 4), (18, .istore 5, 20, 5, 0), (20, .iconst 0, 21, 0, 0), (21, .istore 6, 23, 6, 0), (23, .iload 6, 25, 6, 0), (25, .aload_n 0, 26, 0, 0), (26, .getfield 39, 29, 0, 1), (29, .getfield 63, 32, 7, 4),
  (32, .if_icmp .gt 34, 35, 66, 0), (35, .aload_n 0, 36, 0, 0), (36, .iload 6, 38, 6, 0), (38, .iload_n 2, 39, 2, 0), (39, .iload_n 3, 40, 3, 0), (40, .invokevirtual 68, 43, 6, 3), (43, .istore 7, 45, 7, 0), (45, .iload 7, 47, 7, 0),
  (47, .iload 4, 49, 4, 0), (49, .if_icmp .le 11, 52, 60, 0), (52, .iload 7, 54, 7, 0), (54, .istore 4, 56, 4, 0), (56, .iload 6, 58, 6, 0), (58, .istore 5, 60, 5, 0), (60, .iinc 6 1, 63, 6, 0), (63, .goto (-40), 66, 23, 0),
  (66, .iload 5, 68, 5, 0), (68, .ireturn, 69, 0, 0)]
set_option maxRecDepth 20000 in
/-- 12: StoneHome$Laws.<init>()V -/
def at_X1_init : List (Nat × am_I) := [(0, .aload_n 0, 1, 0, 0), (1, .invokespecial 3, 4, 999, 0), (4, .aload_n 0, 5, 0, 0), (5, .sipush 400, 8, 0, 0), (8, .newarray .int, 10, 0, 0), (10, .putfield 9, 13, 1, 6), (13, .aload_n 0, 14, 0, 0), (14, .iconst 0, 15, 0, 0),
  (15, .putfield 15, 18, 1, 8), (18, .aload_n 0, 19, 0, 0), (19, .iconst 3, 20, 0, 0), (20, .newarray .int, 22, 0, 0), (22, .putfield 19, 25, 1, 22), (25, .aload_n 0, 26, 0, 0), (26, .iconst 0, 27, 0, 0), (27, .putfield 22, 30, 1, 24),
  (30, .aload_n 0, 31, 0, 0), (31, .bipush 32, 33, 0, 0), (33, .newarray .int, 35, 0, 0), (35, .putfield 25, 38, 1, 38), (38, .aload_n 0, 39, 0, 0), (39, .iconst 0, 40, 0, 0), (40, .putfield 28, 43, 1, 40), (43, .aload_n 0, 44, 0, 0),
  (44, .bipush 7, 46, 0, 0), (46, .newarray .int, 48, 0, 0), (48, .putfield 31, 51, 1, 54), (51, .aload_n 0, 52, 0, 0), (52, .bipush 32, 54, 0, 0), (54, .newarray .int, 56, 0, 0), (56, .putfield 34, 59, 1, 62), (59, .return_, 60, 0, 0)]
set_option maxRecDepth 20000 in
/-- 13: StoneHome$Laws.clear()V -/
def at_X1_clear : List (Nat × am_I) := [(0, .aload_n 0, 1, 0, 0), (1, .iconst 0, 2, 0, 0), (2, .putfield 15, 5, 1, 8), (5, .aload_n 0, 6, 0, 0), (6, .iconst 0, 7, 0, 0), (7, .putfield 22, 10, 1, 24), (10, .aload_n 0, 11, 0, 0), (11, .getfield 19, 14, 1, 2),
  (14, .iconst (-1), 15, 0, 0), (15, .invokestatic 37, 18, 293, 2), (18, .return_, 19, 0, 0)]
set_option maxRecDepth 20000 in
/-- 14: StoneHome$Laws.start(I)V -/
def at_X1_start : List (Nat × am_I) := [(0, .iload_n 1, 1, 1, 0), (1, .ifCond .lt 41, 4, 42, 0), (4, .iload_n 1, 5, 1, 0), (5, .aload_n 0, 6, 0, 0), (6, .getfield 19, 9, 1, 2), (9, .arraylength, 10, 0, 0), (10, .if_icmp .ge 32, 13, 42, 0), (13, .aload_n 0, 14, 0, 0),
  (14, .getfield 19, 17, 1, 2), (17, .iload_n 1, 18, 1, 0), (18, .aload_n 0, 19, 0, 0), (19, .getfield 15, 22, 1, 1), (22, .iastore, 23, 0, 0), (23, .aload_n 0, 24, 0, 0), (24, .dup, 25, 0, 0), (25, .getfield 22, 28, 1, 3),
  (28, .iconst 1, 29, 0, 0), (29, .iload_n 1, 30, 1, 0), (30, .ishl, 31, 0, 0), (31, .iconst (-1), 32, 0, 0), (32, .ixor, 33, 0, 0), (33, .iand, 34, 0, 0), (34, .putfield 22, 37, 1, 24), (37, .aload_n 0, 38, 0, 0),
  (38, .iconst 0, 39, 0, 0), (39, .putfield 28, 42, 1, 40), (42, .return_, 43, 0, 0)]
set_option maxRecDepth 20000 in
/-- 15: StoneHome$Laws.push(I)V -/
def at_X1_push : List (Nat × am_I) := [(0, .aload_n 0, 1, 0, 0), (1, .getfield 28, 4, 1, 5), (4, .bipush 32, 6, 0, 0), (6, .if_icmp .ge 23, 9, 29, 0), (9, .aload_n 0, 10, 0, 0), (10, .getfield 25, 13, 1, 4), (13, .aload_n 0, 14, 0, 0), (14, .getfield 28, 17, 1, 5),
  (17, .iload_n 1, 18, 1, 0), (18, .iastore, 19, 0, 0), (19, .aload_n 0, 20, 0, 0), (20, .dup, 21, 0, 0), (21, .getfield 28, 24, 1, 5), (24, .iconst 1, 25, 0, 0), (25, .iadd, 26, 0, 0), (26, .putfield 28, 29, 1, 40),
  (29, .return_, 30, 0, 0)]
set_option maxRecDepth 20000 in
/-- 16: StoneHome$Laws.add(II)I -/
def at_X1_add : List (Nat × am_I) := [(0, .aload_n 0, 1, 0, 0), (1, .getfield 15, 4, 1, 1), (4, .aload_n 0, 5, 0, 0), (5, .getfield 9, 8, 1, 0), (8, .arraylength, 9, 0, 0), (9, .if_icmp .ge 27, 12, 36, 0), (12, .aload_n 0, 13, 0, 0), (13, .getfield 9, 16, 1, 0),
  (16, .aload_n 0, 17, 0, 0), (17, .getfield 15, 20, 1, 1), (20, .iload_n 2, 21, 2, 0), (21, .iconst 3, 22, 0, 0), (22, .ishl, 23, 0, 0), (23, .iload_n 1, 24, 1, 0), (24, .ior, 25, 0, 0), (25, .iastore, 26, 0, 0),
  (26, .aload_n 0, 27, 0, 0), (27, .dup, 28, 0, 0), (28, .getfield 15, 31, 1, 1), (31, .iconst 1, 32, 0, 0), (32, .iadd, 33, 0, 0), (33, .putfield 15, 36, 1, 8), (36, .aload_n 0, 37, 0, 0), (37, .getfield 15, 40, 1, 1),
  (40, .iconst 1, 41, 0, 0), (41, .isub, 42, 0, 0), (42, .ireturn, 43, 0, 0)]
set_option maxRecDepth 20000 in
/-- 17: StoneHome$Laws.markTimed(I)V -/
def at_X1_markTimed : List (Nat × am_I) := [(0, .aload_n 0, 1, 0, 0), (1, .dup, 2, 0, 0), (2, .getfield 22, 5, 1, 3), (5, .iconst 1, 6, 0, 0), (6, .iload_n 1, 7, 1, 0), (7, .ishl, 8, 0, 0), (8, .ior, 9, 0, 0), (9, .putfield 22, 12, 1, 24),
  (12, .return_, 13, 0, 0)]
set_option maxRecDepth 20000 in
/-- 18: StoneHome$Laws.close()V -/
def at_X1_close : List (Nat × am_I) := [(0, .iconst 0, 1, 0, 0), (1, .istore_n 1, 2, 1, 0), (2, .iload_n 1, 3, 1, 0), (3, .bipush 32, 5, 0, 0), (5, .if_icmp .ge 43, 8, 48, 0), (8, .aload_n 0, 9, 0, 0), (9, .invokevirtual 43, 12, 19, 0), (12, .bipush 8, 14, 0, 0),
  (14, .if_icmp .eq 34, 17, 48, 0), (17, .aload_n 0, 18, 0, 0), (18, .dup, 19, 0, 0), (19, .getfield 28, 22, 1, 5), (22, .iconst 1, 23, 0, 0), (23, .isub, 24, 0, 0), (24, .putfield 28, 27, 1, 40), (27, .aload_n 0, 28, 0, 0),
  (28, .aload_n 0, 29, 0, 0), (29, .getfield 25, 32, 1, 4), (32, .aload_n 0, 33, 0, 0), (33, .getfield 28, 36, 1, 5), (36, .iaload, 37, 0, 0), (37, .iconst 0, 38, 0, 0), (38, .invokevirtual 47, 41, 16, 2), (41, .pop, 42, 0, 0),
  (42, .iinc 1 1, 45, 1, 0), (45, .goto (-43), 48, 2, 0), (48, .aload_n 0, 49, 0, 0), (49, .iconst 0, 50, 0, 0), (50, .aload_n 0, 51, 0, 0), (51, .getfield 28, 54, 1, 5), (54, .iconst 1, 55, 0, 0), (55, .isub, 56, 0, 0),
  (56, .invokestatic 55, 59, 996, 2), (59, .putfield 28, 62, 1, 40), (62, .return_, 63, 0, 0)]
set_option maxRecDepth 20000 in
/-- 19: StoneHome$Laws.lastWaiting()I -/
def at_X1_lastWaiting : List (Nat × am_I) := [(0, .aload_n 0, 1, 0, 0), (1, .getfield 28, 4, 1, 5), (4, .ifCond .le 17, 7, 21, 0), (7, .aload_n 0, 8, 0, 0), (8, .getfield 25, 11, 1, 4), (11, .aload_n 0, 12, 0, 0), (12, .getfield 28, 15, 1, 5), (15, .iconst 1, 16, 0, 0),
  (16, .isub, 17, 0, 0), (17, .iaload, 18, 0, 0), (18, .goto 5, 21, 23, 0), (21, .bipush 8, 23, 0, 0), (23, .ireturn, 24, 0, 0)]
set_option maxRecDepth 20000 in
/-- 20: StoneHome$Laws.addOperator(I)V -/
def at_X1_addOperator : List (Nat × am_I) := [(0, .iconst 0, 1, 0, 0), (1, .istore_n 2, 2, 2, 0), (2, .iload_n 2, 3, 2, 0), (3, .bipush 32, 5, 0, 0), (5, .if_icmp .ge 56, 8, 61, 0), (8, .aload_n 0, 9, 0, 0), (9, .invokevirtual 43, 12, 19, 0), (12, .bipush 8, 14, 0, 0),
  (14, .if_icmp .eq 47, 17, 61, 0), (17, .aload_n 0, 18, 0, 0), (18, .invokevirtual 43, 21, 19, 0), (21, .iconst 4, 22, 0, 0), (22, .if_icmp .ge 8, 25, 30, 0), (25, .iload_n 1, 26, 1, 0), (26, .iconst 4, 27, 0, 0), (27, .if_icmp .ge 34, 30, 61, 0),
  (30, .aload_n 0, 31, 0, 0), (31, .dup, 32, 0, 0), (32, .getfield 28, 35, 1, 5), (35, .iconst 1, 36, 0, 0), (36, .isub, 37, 0, 0), (37, .putfield 28, 40, 1, 40), (40, .aload_n 0, 41, 0, 0), (41, .aload_n 0, 42, 0, 0),
  (42, .getfield 25, 45, 1, 4), (45, .aload_n 0, 46, 0, 0), (46, .getfield 28, 49, 1, 5), (49, .iaload, 50, 0, 0), (50, .iconst 0, 51, 0, 0), (51, .invokevirtual 47, 54, 16, 2), (54, .pop, 55, 0, 0), (55, .iinc 2 1, 58, 2, 0),
  (58, .goto (-56), 61, 2, 0), (61, .aload_n 0, 62, 0, 0), (62, .iload_n 1, 63, 1, 0), (63, .invokevirtual 51, 66, 15, 1), (66, .return_, 67, 0, 0)]
set_option maxRecDepth 20000 in
/-- 21: StoneHome$Laws.aim(I)V -/
def at_X1_aim : List (Nat × am_I) := [(0, .iload_n 1, 1, 1, 0), (1, .ifCond .lt 26, 4, 27, 0), (4, .iload_n 1, 5, 1, 0), (5, .aload_n 0, 6, 0, 0), (6, .getfield 15, 9, 1, 1), (9, .if_icmp .ge 18, 12, 27, 0), (12, .aload_n 0, 13, 0, 0), (13, .getfield 9, 16, 1, 0),
  (16, .iload_n 1, 17, 1, 0), (17, .aload_n 0, 18, 0, 0), (18, .getfield 15, 21, 1, 1), (21, .iconst 3, 22, 0, 0), (22, .ishl, 23, 0, 0), (23, .bipush 6, 25, 0, 0), (25, .ior, 26, 0, 0), (26, .iastore, 27, 0, 0),
  (27, .return_, 28, 0, 0)]
set_option maxRecDepth 20000 in
/-- 22: StoneHome$Laws.setWhere(IIII)V -/
def at_X1_setWhere : List (Nat × am_I) := [(0, .aload_n 0, 1, 0, 0), (1, .getfield 31, 4, 1, 6), (4, .iconst 0, 5, 0, 0), (5, .iload_n 1, 6, 1, 0), (6, .iastore, 7, 0, 0), (7, .aload_n 0, 8, 0, 0), (8, .getfield 31, 11, 1, 6), (11, .iconst 1, 12, 0, 0),
  (12, .iload_n 2, 13, 2, 0), (13, .iastore, 14, 0, 0), (14, .aload_n 0, 15, 0, 0), (15, .getfield 31, 18, 1, 6), (18, .iconst 2, 19, 0, 0), (19, .iload_n 3, 20, 3, 0), (20, .iastore, 21, 0, 0), (21, .aload_n 0, 22, 0, 0),
  (22, .getfield 31, 25, 1, 6), (25, .iconst 3, 26, 0, 0), (26, .iload 4, 28, 4, 0), (28, .iastore, 29, 0, 0), (29, .return_, 30, 0, 0)]
set_option maxRecDepth 20000 in
/-- 23: StoneHome$Laws.setHow(III)V -/
def at_X1_setHow : List (Nat × am_I) := [(0, .aload_n 0, 1, 0, 0), (1, .getfield 31, 4, 1, 6), (4, .iconst 4, 5, 0, 0), (5, .iload_n 1, 6, 1, 0), (6, .iastore, 7, 0, 0), (7, .aload_n 0, 8, 0, 0), (8, .getfield 31, 11, 1, 6), (11, .iconst 5, 12, 0, 0),
  (12, .iload_n 2, 13, 2, 0), (13, .iastore, 14, 0, 0), (14, .aload_n 0, 15, 0, 0), (15, .getfield 31, 18, 1, 6), (18, .bipush 6, 20, 0, 0), (20, .iload_n 3, 21, 3, 0), (21, .iastore, 22, 0, 0), (22, .return_, 23, 0, 0)]
set_option maxRecDepth 20000 in
/-- 24: StoneHome$Laws.value(I)I -/
def at_X1_value : List (Nat × am_I) := [(0, .iload_n 1, 1, 1, 0), (1, .ifCond .lt 21, 4, 22, 0), (4, .iload_n 1, 5, 1, 0), (5, .aload_n 0, 6, 0, 0), (6, .getfield 19, 9, 1, 2), (9, .arraylength, 10, 0, 0), (10, .if_icmp .ge 12, 13, 22, 0), (13, .aload_n 0, 14, 0, 0),
  (14, .getfield 19, 17, 1, 2), (17, .iload_n 1, 18, 1, 0), (18, .iaload, 19, 0, 0), (19, .goto 4, 22, 23, 0), (22, .iconst (-1), 23, 0, 0), (23, .istore_n 2, 24, 2, 0), (24, .iload_n 2, 25, 2, 0), (25, .ifCond .ge 5, 28, 30, 0),
  (28, .iconst 0, 29, 0, 0), (29, .ireturn, 30, 0, 0), (30, .iconst 0, 31, 0, 0), (31, .istore_n 3, 32, 3, 0), (32, .iload_n 2, 33, 2, 0), (33, .istore 4, 35, 4, 0), (35, .iload 4, 37, 4, 0), (37, .aload_n 0, 38, 0, 0),
  (38, .getfield 15, 41, 1, 1), (41, .if_icmp .ge 193, 44, 234, 0), (44, .aload_n 0, 45, 0, 0), (45, .getfield 9, 48, 1, 0), (48, .iload 4, 50, 4, 0), (50, .iaload, 51, 0, 0), (51, .bipush 7, 53, 0, 0), (53, .iand, 54, 0, 0),
  (54, .istore 5, 56, 5, 0), (56, .aload_n 0, 57, 0, 0), (57, .getfield 9, 60, 1, 0), (60, .iload 4, 62, 4, 0), (62, .iaload, 63, 0, 0), (63, .iconst 3, 64, 0, 0), (64, .ishr, 65, 0, 0), (65, .istore 6, 67, 6, 0),
  (67, .iload 5, 69, 5, 0), (69, .bipush 7, 71, 0, 0), (71, .if_icmp .ne 10, 74, 81, 0), (74, .aload_n 0, 75, 0, 0), (75, .getfield 34, 78, 1, 7), (78, .iconst 0, 79, 0, 0), (79, .iaload, 80, 0, 0), (80, .ireturn, 81, 0, 0),
  (81, .iload 5, 83, 5, 0), (83, .ifCond .eq 9, 86, 92, 0), (86, .iload 5, 88, 5, 0), (88, .iconst 1, 89, 0, 0), (89, .if_icmp .ne 39, 92, 128, 0), (92, .iload_n 3, 93, 3, 0), (93, .bipush 32, 95, 0, 0), (95, .if_icmp .lt 5, 98, 100, 0),
  (98, .iconst 0, 99, 0, 0), (99, .ireturn, 100, 0, 0), (100, .aload_n 0, 101, 0, 0), (101, .getfield 34, 104, 1, 7), (104, .iload_n 3, 105, 3, 0), (105, .iload 5, 107, 5, 0), (107, .ifCond .ne 8, 110, 115, 0), (110, .iload 6, 112, 6, 0),
  (112, .goto 9, 115, 121, 0), (115, .aload_n 0, 116, 0, 0), (116, .iload 6, 118, 6, 0), (118, .invokevirtual 60, 121, 25, 1), (121, .iastore, 122, 0, 0), (122, .iinc 3 1, 125, 3, 0), (125, .goto 103, 128, 228, 0), (128, .iload_n 3, 129, 3, 0),
  (129, .iconst 2, 130, 0, 0), (130, .if_icmp .lt 20, 133, 150, 0), (133, .iload 5, 135, 5, 0), (135, .iconst 5, 136, 0, 0), (136, .if_icmp .ne 16, 139, 152, 0), (139, .aload_n 0, 140, 0, 0), (140, .getfield 34, 143, 1, 7), (143, .iload_n 3, 144, 3, 0),
  (144, .iconst 1, 145, 0, 0), (145, .isub, 146, 0, 0), (146, .iaload, 147, 0, 0), (147, .ifCond .ne 5, 150, 152, 0), (150, .iconst 0, 151, 0, 0), (151, .ireturn, 152, 0, 0), (152, .iload 5, 154, 5, 0), (154, .bipush 6, 156, 0, 0),
  (156, .if_icmp .ne 42, 159, 198, 0), (159, .iinc 3 (-2), 162, 3, 0), (162, .aload_n 0, 163, 0, 0), (163, .getfield 34, 166, 1, 7), (166, .iload_n 3, 167, 3, 0), (167, .iaload, 168, 0, 0), (168, .aload_n 0, 169, 0, 0), (169, .getfield 34, 172, 1, 7),
  (172, .iload_n 3, 173, 3, 0), (173, .iconst 1, 174, 0, 0), (174, .iadd, 175, 0, 0), (175, .iaload, 176, 0, 0), (176, .if_icmp .ge 8, 179, 184, 0), (179, .iload 4, 181, 4, 0), (181, .goto 12, 184, 193, 0), (184, .iload 4, 186, 4, 0),
  (186, .iload 6, 188, 6, 0), (188, .iconst 1, 189, 0, 0), (189, .isub, 190, 0, 0), (190, .invokestatic 55, 193, 996, 2), (193, .istore 4, 195, 4, 0), (195, .goto 33, 198, 228, 0), (198, .iinc 3 (-1), 201, 3, 0), (201, .aload_n 0, 202, 0, 0),
  (202, .getfield 34, 205, 1, 7), (205, .iload_n 3, 206, 3, 0), (206, .iconst 1, 207, 0, 0), (207, .isub, 208, 0, 0), (208, .iload 5, 210, 5, 0), (210, .aload_n 0, 211, 0, 0), (211, .getfield 34, 214, 1, 7), (214, .iload_n 3, 215, 3, 0),
  (215, .iconst 1, 216, 0, 0), (216, .isub, 217, 0, 0), (217, .iaload, 218, 0, 0), (218, .aload_n 0, 219, 0, 0), (219, .getfield 34, 222, 1, 7), (222, .iload_n 3, 223, 3, 0), (223, .iaload, 224, 0, 0), (224, .invokestatic 64, 227, 26, 3),
  (227, .iastore, 228, 0, 0), (228, .iinc 4 1, 231, 4, 0), (231, .goto (-196), 234, 35, 0), (234, .iconst 0, 235, 0, 0), (235, .ireturn, 236, 0, 0)]
set_option maxRecDepth 20000 in
/-- 25: StoneHome$Laws.factAt(I)I -/
def at_X1_factAt : List (Nat × am_I) := [(0, .iload_n 1, 1, 1, 0), (1, .ifCond .lt 21, 4, 22, 0), (4, .iload_n 1, 5, 1, 0), (5, .aload_n 0, 6, 0, 0), (6, .getfield 31, 9, 1, 6), (9, .arraylength, 10, 0, 0), (10, .if_icmp .ge 12, 13, 22, 0), (13, .aload_n 0, 14, 0, 0),
  (14, .getfield 31, 17, 1, 6), (17, .iload_n 1, 18, 1, 0), (18, .iaload, 19, 0, 0), (19, .goto 4, 22, 23, 0), (22, .iconst 0, 23, 0, 0), (23, .ireturn, 24, 0, 0)]
set_option maxRecDepth 20000 in
/-- 26: StoneHome$Laws.joined(III)I -/
def at_X1_joined : List (Nat × am_I) := [(0, .iload_n 0, 1, 0, 0), (1, .tableswitch 39 2 4 #[27, 31, 35], 28, 40, 0), (28, .iload_n 1, 29, 1, 0), (29, .iload_n 2, 30, 2, 0), (30, .iadd, 31, 0, 0), (31, .ireturn, 32, 0, 0), (32, .iload_n 1, 33, 1, 0), (33, .iload_n 2, 34, 2, 0),
  (34, .isub, 35, 0, 0), (35, .ireturn, 36, 0, 0), (36, .iload_n 1, 37, 1, 0), (37, .iload_n 2, 38, 2, 0), (38, .imul, 39, 0, 0), (39, .ireturn, 40, 0, 0), (40, .iload_n 2, 41, 2, 0), (41, .ifCond .ne 7, 44, 48, 0),
  (44, .iconst 0, 45, 0, 0), (45, .goto 6, 48, 51, 0), (48, .iload_n 1, 49, 1, 0), (49, .iload_n 2, 50, 2, 0), (50, .idiv, 51, 0, 0), (51, .ireturn, 52, 0, 0)]
set_option maxRecDepth 20000 in
/-- 27: StoneHome$Laws.areTimed()Z -/
def at_X1_areTimed : List (Nat × am_I) := [(0, .aload_n 0, 1, 0, 0), (1, .getfield 22, 4, 1, 3), (4, .ifCond .eq 7, 7, 11, 0), (7, .iconst 1, 8, 0, 0), (8, .goto 4, 11, 12, 0), (11, .iconst 0, 12, 0, 0), (12, .ireturn, 13, 0, 0)]
set_option maxRecDepth 20000 in
/-- 28: StoneHome$Past.<init>()V -/
def at_X2_init : List (Nat × am_I) := [(0, .aload_n 0, 1, 0, 0), (1, .invokespecial 3, 4, 999, 0), (4, .aload_n 0, 5, 0, 0), (5, .bipush 50, 7, 0, 0), (7, .anewarray 9, 10, 4, 0), (10, .putfield 11, 13, 2, 6), (13, .aload_n 0, 14, 0, 0), (14, .iconst 0, 15, 0, 0),
  (15, .putfield 17, 18, 2, 8), (18, .aload_n 0, 19, 0, 0), (19, .iconst 0, 20, 0, 0), (20, .putfield 21, 23, 2, 16), (23, .iconst 0, 24, 0, 0), (24, .istore_n 1, 25, 1, 0), (25, .iload_n 1, 26, 1, 0), (26, .aload_n 0, 27, 0, 0),
  (27, .getfield 11, 30, 2, 0), (30, .arraylength, 31, 0, 0), (31, .if_icmp .ge 22, 34, 53, 0), (34, .aload_n 0, 35, 0, 0), (35, .getfield 11, 38, 2, 0), (38, .iload_n 1, 39, 1, 0), (39, .new 9, 42, 6, 0), (42, .dup, 43, 0, 0),
  (43, .invokespecial 24, 46, 80, 0), (46, .aastore, 47, 0, 0), (47, .iinc 1 1, 50, 1, 0), (50, .goto (-25), 53, 25, 0), (53, .return_, 54, 0, 0)]
set_option maxRecDepth 20000 in
/-- 29: StoneHome$Past.clear()V -/
def at_X2_clear : List (Nat × am_I) := [(0, .aload_n 0, 1, 0, 0), (1, .iconst 0, 2, 0, 0), (2, .putfield 17, 5, 2, 8), (5, .aload_n 0, 6, 0, 0), (6, .iconst 0, 7, 0, 0), (7, .putfield 21, 10, 2, 16), (10, .return_, 11, 0, 0)]
set_option maxRecDepth 20000 in
/-- 30: StoneHome$Past.keep(LStoneHome$Stone;)V -/
def at_X2_keep : List (Nat × am_I) := [(0, .aload_n 0, 1, 0, 0), (1, .getfield 11, 4, 2, 0), (4, .aload_n 0, 5, 0, 0), (5, .getfield 17, 8, 2, 1), (8, .aaload, 9, 4, 0), (9, .aload_n 1, 10, 1, 0), (10, .invokevirtual 25, 13, 82, 1), (13, .aload_n 0, 14, 0, 0),
  (14, .aload_n 0, 15, 0, 0), (15, .getfield 17, 18, 2, 1), (18, .iconst 1, 19, 0, 0), (19, .iadd, 20, 0, 0), (20, .bipush 50, 22, 0, 0), (22, .irem, 23, 0, 0), (23, .putfield 17, 26, 2, 8), (26, .aload_n 0, 27, 0, 0),
  (27, .aload_n 0, 28, 0, 0), (28, .getfield 21, 31, 2, 2), (31, .iconst 1, 32, 0, 0), (32, .iadd, 33, 0, 0), (33, .bipush 50, 35, 0, 0), (35, .invokestatic 29, 38, 997, 2), (38, .putfield 21, 41, 2, 16), (41, .return_, 42, 0, 0)]
set_option maxRecDepth 20000 in
/-- 31: StoneHome$Past.takeBack(LStoneHome$Stone;)Z -/
def at_X2_takeBack : List (Nat × am_I) := [(0, .aload_n 0, 1, 0, 0), (1, .getfield 21, 4, 2, 2), (4, .ifCond .ne 5, 7, 9, 0), (7, .iconst 0, 8, 0, 0), (8, .ireturn, 9, 0, 0), (9, .aload_n 0, 10, 0, 0), (10, .aload_n 0, 11, 0, 0), (11, .getfield 17, 14, 2, 1),
  (14, .bipush 50, 16, 0, 0), (16, .iadd, 17, 0, 0), (17, .iconst 1, 18, 0, 0), (18, .isub, 19, 0, 0), (19, .bipush 50, 21, 0, 0), (21, .irem, 22, 0, 0), (22, .putfield 17, 25, 2, 8), (25, .aload_n 0, 26, 0, 0),
  (26, .dup, 27, 0, 0), (27, .getfield 21, 30, 2, 2), (30, .iconst 1, 31, 0, 0), (31, .isub, 32, 0, 0), (32, .putfield 21, 35, 2, 16), (35, .aload_n 1, 36, 1, 0), (36, .aload_n 0, 37, 0, 0), (37, .getfield 11, 40, 2, 0),
  (40, .aload_n 0, 41, 0, 0), (41, .getfield 17, 44, 2, 1), (44, .aaload, 45, 4, 0), (45, .invokevirtual 25, 48, 82, 1), (48, .iconst 1, 49, 0, 0), (49, .ireturn, 50, 0, 0)]
set_option maxRecDepth 20000 in
/-- 32: StoneHome$Race.<init>(LStoneHome$Table;LStoneHome$Street;)V -/
def at_X3_init : List (Nat × am_I) := [(0, .aload_n 0, 1, 0, 0), (1, .invokespecial 3, 4, 999, 0), (4, .aload_n 0, 5, 0, 0), (5, .sipush 9312, 8, 0, 0), (8, .newarray .int, 10, 0, 0), (10, .putfield 11, 13, 3, 22), (13, .aload_n 0, 14, 0, 0), (14, .bipush 97, 16, 0, 0),
  (16, .newarray .int, 18, 0, 0), (18, .putfield 15, 21, 3, 30), (21, .aload_n 0, 22, 0, 0), (22, .bipush 96, 24, 0, 0), (24, .newarray .int, 26, 0, 0), (26, .putfield 18, 29, 3, 38), (29, .aload_n 0, 30, 0, 0), (30, .bipush 96, 32, 0, 0),
  (32, .newarray .int, 34, 0, 0), (34, .putfield 21, 37, 3, 46), (37, .aload_n 0, 38, 0, 0), (38, .aload_n 1, 39, 1, 0), (39, .putfield 24, 42, 3, 6), (42, .aload_n 0, 43, 0, 0), (43, .aload_n 2, 44, 2, 0), (44, .putfield 28, 47, 3, 10),
  (47, .return_, 48, 0, 0)]
set_option maxRecDepth 20000 in
/-- 33: StoneHome$Race.follow(LStoneHome$Street;)V -/
def at_X3_follow : List (Nat × am_I) := [(0, .aload_n 0, 1, 0, 0), (1, .aload_n 1, 2, 1, 0), (2, .putfield 28, 5, 3, 10), (5, .return_, 6, 0, 0)]
set_option maxRecDepth 20000 in
/-- 34: StoneHome$Race.chance(IIII)I -/
def at_X3_chance : List (Nat × am_I) := [(0, .aload_n 0, 1, 0, 0), (1, .getfield 28, 4, 3, 1), (4, .iload 4, 6, 4, 0), (6, .invokevirtual 32, 9, 90, 1), (9, .ifCond .ne 25, 12, 34, 0), (12, .iload_n 3, 13, 3, 0), (13, .ifCond .lt 21, 16, 34, 0), (16, .iload_n 3, 17, 3, 0),
  (17, .bipush 96, 19, 0, 0), (19, .if_icmp .ge 15, 22, 34, 0), (22, .iload 4, 24, 4, 0), (24, .ifCond .lt 10, 27, 34, 0), (27, .iload 4, 29, 4, 0), (29, .bipush 96, 31, 0, 0), (31, .if_icmp .lt 5, 34, 36, 0), (34, .iconst 0, 35, 0, 0),
  (35, .ireturn, 36, 0, 0), (36, .aload_n 0, 37, 0, 0), (37, .aload_n 0, 38, 0, 0), (38, .getfield 18, 41, 3, 4), (41, .iload_n 3, 42, 3, 0), (42, .iload_n 1, 43, 1, 0), (43, .iload_n 2, 44, 2, 0), (44, .iconst 2, 45, 0, 0),
  (45, .idiv, 46, 0, 0), (46, .invokevirtual 38, 49, 35, 4), (49, .aload_n 0, 50, 0, 0), (50, .aload_n 0, 51, 0, 0), (51, .getfield 21, 54, 3, 5), (54, .iload 4, 56, 4, 0), (56, .iload_n 1, 57, 1, 0), (57, .iconst 1, 58, 0, 0),
  (58, .iadd, 59, 0, 0), (59, .iload_n 2, 60, 2, 0), (60, .iconst 2, 61, 0, 0), (61, .idiv, 62, 0, 0), (62, .invokevirtual 38, 65, 35, 4), (65, .iconst 0, 66, 0, 0), (66, .istore 5, 68, 5, 0), (68, .iload 5, 70, 5, 0),
  (70, .iload_n 2, 71, 2, 0), (71, .if_icmp .ge 56, 74, 127, 0), (74, .iload_n 2, 75, 2, 0), (75, .iconst 1, 76, 0, 0), (76, .isub, 77, 0, 0), (77, .iload 5, 79, 5, 0), (79, .isub, 80, 0, 0), (80, .istore 6, 82, 6, 0),
  (82, .aload_n 0, 83, 0, 0), (83, .getfield 24, 86, 3, 0), (86, .iload_n 1, 87, 1, 0), (87, .iload 6, 89, 6, 0), (89, .iadd, 90, 0, 0), (90, .invokevirtual 42, 93, 114, 1), (93, .iload 6, 95, 6, 0), (95, .iconst 2, 96, 0, 0),
  (96, .irem, 97, 0, 0), (97, .ifCond .ne 16, 100, 113, 0), (100, .aload_n 0, 101, 0, 0), (101, .iload 6, 103, 6, 0), (103, .iconst 2, 104, 0, 0), (104, .idiv, 105, 0, 0), (105, .iload 5, 107, 5, 0), (107, .invokevirtual 48, 110, 37, 2),
  (110, .goto 11, 113, 121, 0), (113, .aload_n 0, 114, 0, 0), (114, .iload 6, 116, 6, 0), (116, .iconst 2, 117, 0, 0), (117, .idiv, 118, 0, 0), (118, .invokevirtual 52, 121, 40, 1), (121, .iinc 5 1, 124, 5, 0), (124, .goto (-56), 127, 68, 0),
  (127, .aload_n 0, 128, 0, 0), (128, .getfield 11, 131, 3, 2), (131, .iload_n 3, 132, 3, 0), (132, .bipush 97, 134, 0, 0), (134, .imul, 135, 0, 0), (135, .iload 4, 137, 4, 0), (137, .iadd, 138, 0, 0), (138, .iaload, 139, 0, 0),
  (139, .ireturn, 140, 0, 0)]
set_option maxRecDepth 20000 in
/-- 35: StoneHome$Race.reach([IIII)V -/
def at_X3_reach : List (Nat × am_I) := [(0, .aload_n 1, 1, 1, 0), (1, .iconst 3, 2, 0, 0), (2, .invokestatic 55, 5, 293, 2), (5, .aload_n 1, 6, 1, 0), (6, .iload_n 2, 7, 2, 0), (7, .iconst 0, 8, 0, 0), (8, .iastore, 9, 0, 0), (9, .iconst 0, 10, 0, 0),
  (10, .istore 5, 12, 5, 0), (12, .iload 5, 14, 5, 0), (14, .iload 4, 16, 4, 0), (16, .if_icmp .ge 98, 19, 114, 0), (19, .aload_n 0, 20, 0, 0), (20, .getfield 24, 23, 3, 0), (23, .iload_n 3, 24, 3, 0), (24, .iconst 2, 25, 0, 0),
  (25, .iload 5, 27, 5, 0), (27, .imul, 28, 0, 0), (28, .iadd, 29, 0, 0), (29, .invokevirtual 42, 32, 114, 1), (32, .iconst 0, 33, 0, 0), (33, .istore 6, 35, 6, 0), (35, .iload 6, 37, 6, 0), (37, .aload_n 0, 38, 0, 0),
  (38, .getfield 24, 41, 3, 0), (41, .getfield 61, 44, 8, 5), (44, .if_icmp .ge 64, 47, 108, 0), (47, .aload_n 0, 48, 0, 0), (48, .getfield 24, 51, 3, 0), (51, .getfield 65, 54, 8, 4), (54, .iload 6, 56, 6, 0), (56, .iaload, 57, 0, 0),
  (57, .istore 7, 59, 7, 0), (59, .iconst 0, 60, 0, 0), (60, .istore 8, 62, 8, 0), (62, .iload 8, 64, 8, 0), (64, .aload_n 0, 65, 0, 0), (65, .getfield 28, 68, 3, 1), (68, .getfield 68, 71, 7, 4), (71, .if_icmp .gt 31, 74, 102, 0),
  (74, .aload_n 1, 75, 1, 0), (75, .iload 7, 77, 7, 0), (77, .iaload, 78, 0, 0), (78, .iload 5, 80, 5, 0), (80, .if_icmp .gt 22, 83, 102, 0), (83, .aload_n 0, 84, 0, 0), (84, .iload 8, 86, 8, 0), (86, .iload 7, 88, 7, 0),
  (88, .aload_n 1, 89, 1, 0), (89, .iload 5, 91, 5, 0), (91, .iconst 1, 92, 0, 0), (92, .iadd, 93, 0, 0), (93, .invokevirtual 71, 96, 36, 4), (96, .iinc 8 1, 99, 8, 0), (99, .goto (-37), 102, 62, 0), (102, .iinc 6 1, 105, 6, 0),
  (105, .goto (-70), 108, 35, 0), (108, .iinc 5 1, 111, 5, 0), (111, .goto (-99), 114, 12, 0), (114, .return_, 115, 0, 0)]
set_option maxRecDepth 20000 in
/-- 36: StoneHome$Race.reachBy(II[II)V -/
def at_X3_reachBy : List (Nat × am_I) := [(0, .aload_n 0, 1, 0, 0), (1, .getfield 28, 4, 3, 1), (4, .iload_n 2, 5, 2, 0), (5, .iconst 3, 6, 0, 0), (6, .idiv, 7, 0, 0), (7, .iload_n 1, 8, 1, 0), (8, .invokevirtual 75, 11, 106, 2), (11, .ifCond .eq 14, 14, 25, 0),
  (14, .aload_n 0, 15, 0, 0), (15, .getfield 28, 18, 3, 1), (18, .iload_n 1, 19, 1, 0), (19, .invokevirtual 79, 22, 102, 1), (22, .goto 4, 25, 26, 0), (25, .iconst 0, 26, 0, 0), (26, .istore 5, 28, 5, 0), (28, .aload_n 0, 29, 0, 0),
  (29, .getfield 28, 32, 3, 1), (32, .iload_n 1, 33, 1, 0), (33, .invokevirtual 83, 36, 101, 1), (36, .istore 6, 38, 6, 0), (38, .iload 6, 40, 6, 0), (40, .iload 5, 42, 5, 0), (42, .if_icmp .ge 46, 45, 88, 0), (45, .aload_n 0, 46, 0, 0),
  (46, .getfield 24, 49, 3, 0), (49, .iload_n 2, 50, 2, 0), (50, .iload 6, 52, 6, 0), (52, .invokevirtual 86, 55, 115, 2), (55, .istore 7, 57, 7, 0), (57, .iload 7, 59, 7, 0), (59, .ifCond .lt 23, 62, 82, 0), (62, .iload 7, 64, 7, 0),
  (64, .aload_n 3, 65, 3, 0), (65, .arraylength, 66, 0, 0), (66, .if_icmp .ge 16, 69, 82, 0), (69, .aload_n 3, 70, 3, 0), (70, .iload 7, 72, 7, 0), (72, .aload_n 3, 73, 3, 0), (73, .iload 7, 75, 7, 0), (75, .iaload, 76, 0, 0),
  (76, .iload 4, 78, 4, 0), (78, .invokestatic 90, 81, 997, 2), (81, .iastore, 82, 0, 0), (82, .iinc 6 1, 85, 6, 0), (85, .goto (-47), 88, 38, 0), (88, .return_, 89, 0, 0)]
set_option maxRecDepth 20000 in
/-- 37: StoneHome$Race.takeMyTurn(II)V -/
def at_X3_takeMyTurn : List (Nat × am_I) := [(0, .iconst 0, 1, 0, 0), (1, .istore_n 3, 2, 3, 0), (2, .iload_n 3, 3, 3, 0), (3, .aload_n 0, 4, 0, 0), (4, .getfield 24, 7, 3, 0), (7, .getfield 61, 10, 8, 5), (10, .if_icmp .gt 198, 13, 208, 0), (13, .iload_n 3, 14, 3, 0),
  (14, .aload_n 0, 15, 0, 0), (15, .getfield 24, 18, 3, 0), (18, .getfield 61, 21, 8, 5), (21, .if_icmp .ge 15, 24, 36, 0), (24, .aload_n 0, 25, 0, 0), (25, .getfield 24, 28, 3, 0), (28, .getfield 65, 31, 8, 4), (31, .iload_n 3, 32, 3, 0),
  (32, .iaload, 33, 0, 0), (33, .goto 5, 36, 38, 0), (36, .bipush 96, 38, 0, 0), (38, .istore 4, 40, 4, 0), (40, .iload 4, 42, 4, 0), (42, .bipush 96, 44, 0, 0), (44, .if_icmp .eq 14, 47, 58, 0), (47, .aload_n 0, 48, 0, 0),
  (48, .getfield 21, 51, 3, 5), (51, .iload 4, 53, 4, 0), (53, .iaload, 54, 0, 0), (54, .iload_n 1, 55, 1, 0), (55, .if_icmp .gt 147, 58, 202, 0), (58, .iconst 0, 59, 0, 0), (59, .istore 5, 61, 5, 0), (61, .iload 5, 63, 5, 0),
  (63, .aload_n 0, 64, 0, 0), (64, .getfield 24, 67, 3, 0), (67, .getfield 61, 70, 8, 5), (70, .if_icmp .ge 53, 73, 123, 0), (73, .aload_n 0, 74, 0, 0), (74, .getfield 15, 77, 3, 3), (77, .aload_n 0, 78, 0, 0), (78, .getfield 24, 81, 3, 0),
  (81, .getfield 65, 84, 8, 4), (84, .iload 5, 86, 5, 0), (86, .iaload, 87, 0, 0), (87, .iload_n 2, 88, 2, 0), (88, .ifCond .ne 7, 91, 95, 0), (91, .iconst 0, 92, 0, 0), (92, .goto 24, 95, 116, 0), (95, .aload_n 0, 96, 0, 0),
  (96, .getfield 11, 99, 3, 2), (99, .aload_n 0, 100, 0, 0), (100, .getfield 24, 103, 3, 0), (103, .getfield 65, 106, 8, 4), (106, .iload 5, 108, 5, 0), (108, .iaload, 109, 0, 0), (109, .bipush 97, 111, 0, 0), (111, .imul, 112, 0, 0),
  (112, .iload 4, 114, 4, 0), (114, .iadd, 115, 0, 0), (115, .iaload, 116, 0, 0), (116, .iastore, 117, 0, 0), (117, .iinc 5 1, 120, 5, 0), (120, .goto (-59), 123, 61, 0), (123, .iconst 0, 124, 0, 0), (124, .istore 5, 126, 5, 0),
  (126, .iload 5, 128, 5, 0), (128, .aload_n 0, 129, 0, 0), (129, .getfield 24, 132, 3, 0), (132, .getfield 61, 135, 8, 5), (135, .if_icmp .ge 67, 138, 202, 0), (138, .aload_n 0, 139, 0, 0), (139, .getfield 18, 142, 3, 4), (142, .aload_n 0, 143, 0, 0),
  (143, .getfield 24, 146, 3, 0), (146, .getfield 65, 149, 8, 4), (149, .iload 5, 151, 5, 0), (151, .iaload, 152, 0, 0), (152, .iaload, 153, 0, 0), (153, .iload_n 1, 154, 1, 0), (154, .if_icmp .gt 42, 157, 196, 0), (157, .aload_n 0, 158, 0, 0),
  (158, .getfield 11, 161, 3, 2), (161, .aload_n 0, 162, 0, 0), (162, .getfield 24, 165, 3, 0), (165, .getfield 65, 168, 8, 4), (168, .iload 5, 170, 5, 0), (170, .iaload, 171, 0, 0), (171, .bipush 97, 173, 0, 0), (173, .imul, 174, 0, 0),
  (174, .iload 4, 176, 4, 0), (176, .iadd, 177, 0, 0), (177, .aload_n 0, 178, 0, 0), (178, .aload_n 0, 179, 0, 0), (179, .getfield 24, 182, 3, 0), (182, .getfield 65, 185, 8, 4), (185, .iload 5, 187, 5, 0), (187, .iaload, 188, 0, 0),
  (188, .iload_n 2, 189, 2, 0), (189, .invokestatic 95, 192, 156, 1), (192, .invokevirtual 98, 195, 38, 2), (195, .iastore, 196, 0, 0), (196, .iinc 5 1, 199, 5, 0), (199, .goto (-73), 202, 126, 0), (202, .iinc 3 1, 205, 3, 0), (205, .goto (-203), 208, 2, 0),
  (208, .return_, 209, 0, 0)]
set_option maxRecDepth 20000 in
/-- 38: StoneHome$Race.myBest(II)I -/
def at_X3_myBest : List (Nat × am_I) := [(0, .aload_n 0, 1, 0, 0), (1, .aload_n 0, 2, 0, 0), (2, .getfield 28, 5, 3, 1), (5, .getfield 68, 8, 7, 4), (8, .iload_n 1, 9, 1, 0), (9, .iload_n 2, 10, 2, 0), (10, .iconst 0, 11, 0, 0), (11, .invokevirtual 110, 14, 39, 4),
  (14, .istore_n 3, 15, 3, 0), (15, .iconst 0, 16, 0, 0), (16, .istore 4, 18, 4, 0), (18, .iload 4, 20, 4, 0), (20, .aload_n 0, 21, 0, 0), (21, .getfield 28, 24, 3, 1), (24, .getfield 68, 27, 7, 4), (27, .if_icmp .ge 38, 30, 65, 0),
  (30, .aload_n 0, 31, 0, 0), (31, .getfield 28, 34, 3, 1), (34, .iload_n 1, 35, 1, 0), (35, .iconst 3, 36, 0, 0), (36, .idiv, 37, 0, 0), (37, .iload 4, 39, 4, 0), (39, .invokevirtual 114, 42, 97, 2), (42, .ifCond .eq 17, 45, 59, 0),
  (45, .iload_n 3, 46, 3, 0), (46, .aload_n 0, 47, 0, 0), (47, .iload 4, 49, 4, 0), (49, .iload_n 1, 50, 1, 0), (50, .iload_n 2, 51, 2, 0), (51, .iconst 0, 52, 0, 0), (52, .invokevirtual 110, 55, 39, 4), (55, .invokestatic 117, 58, 996, 2),
  (58, .istore_n 3, 59, 3, 0), (59, .iinc 4 1, 62, 4, 0), (62, .goto (-44), 65, 18, 0), (65, .iload_n 3, 66, 3, 0), (66, .ireturn, 67, 0, 0)]
set_option maxRecDepth 20000 in
/-- 39: StoneHome$Race.chanceBy(IIII)I -/
def at_X3_chanceBy : List (Nat × am_I) := [(0, .iconst 0, 1, 0, 0), (1, .istore 5, 3, 5, 0), (3, .aload_n 0, 4, 0, 0), (4, .getfield 28, 7, 3, 1), (7, .iload_n 1, 8, 1, 0), (8, .invokevirtual 79, 11, 102, 1), (11, .istore 6, 13, 6, 0), (13, .aload_n 0, 14, 0, 0),
  (14, .getfield 28, 17, 3, 1), (17, .iload_n 1, 18, 1, 0), (18, .invokevirtual 83, 21, 101, 1), (21, .istore 7, 23, 7, 0), (23, .iload 7, 25, 7, 0), (25, .iload 6, 27, 6, 0), (27, .if_icmp .ge 79, 30, 106, 0), (30, .aload_n 0, 31, 0, 0),
  (31, .getfield 24, 34, 3, 0), (34, .iload_n 2, 35, 2, 0), (35, .iload 7, 37, 7, 0), (37, .invokevirtual 86, 40, 115, 2), (40, .istore 8, 42, 8, 0), (42, .iload 4, 44, 4, 0), (44, .istore 9, 46, 9, 0), (46, .iload 8, 48, 8, 0),
  (48, .ifCond .lt 35, 51, 83, 0), (51, .iload 8, 53, 8, 0), (53, .bipush 96, 55, 0, 0), (55, .if_icmp .ge 28, 58, 83, 0), (58, .aload_n 0, 59, 0, 0), (59, .getfield 28, 62, 3, 1), (62, .iload 8, 64, 8, 0), (64, .invokevirtual 32, 67, 90, 1),
  (67, .ifCond .eq 7, 70, 74, 0), (70, .iload_n 3, 71, 3, 0), (71, .goto 10, 74, 81, 0), (74, .aload_n 0, 75, 0, 0), (75, .getfield 15, 78, 3, 3), (78, .iload 8, 80, 8, 0), (80, .iaload, 81, 0, 0), (81, .istore 9, 83, 9, 0),
  (83, .iload 5, 85, 5, 0), (85, .aload_n 0, 86, 0, 0), (86, .getfield 28, 89, 3, 1), (89, .iload 7, 91, 7, 0), (91, .invokevirtual 120, 94, 103, 1), (94, .iload 9, 96, 9, 0), (96, .imul, 97, 0, 0), (97, .iadd, 98, 0, 0),
  (98, .istore 5, 100, 5, 0), (100, .iinc 7 1, 103, 7, 0), (103, .goto (-80), 106, 23, 0), (106, .iload 5, 108, 5, 0), (108, .ireturn, 109, 0, 0)]
set_option maxRecDepth 20000 in
/-- 40: StoneHome$Race.takeHisTurn(I)V -/
def at_X3_takeHisTurn : List (Nat × am_I) := [(0, .iconst 0, 1, 0, 0), (1, .istore_n 2, 2, 2, 0), (2, .iload_n 2, 3, 2, 0), (3, .aload_n 0, 4, 0, 0), (4, .getfield 24, 7, 3, 0), (7, .getfield 61, 10, 8, 5), (10, .if_icmp .ge 145, 13, 155, 0), (13, .aload_n 0, 14, 0, 0),
  (14, .getfield 24, 17, 3, 0), (17, .getfield 65, 20, 8, 4), (20, .iload_n 2, 21, 2, 0), (21, .iaload, 22, 0, 0), (22, .istore_n 3, 23, 3, 0), (23, .aload_n 0, 24, 0, 0), (24, .getfield 18, 27, 3, 4), (27, .iload_n 3, 28, 3, 0),
  (28, .iaload, 29, 0, 0), (29, .iload_n 1, 30, 1, 0), (30, .iconst 1, 31, 0, 0), (31, .iadd, 32, 0, 0), (32, .if_icmp .gt 117, 35, 149, 0), (35, .aload_n 0, 36, 0, 0), (36, .getfield 11, 39, 3, 2), (39, .iload_n 3, 40, 3, 0),
  (40, .bipush 97, 42, 0, 0), (42, .imul, 43, 0, 0), (43, .aload_n 0, 44, 0, 0), (44, .getfield 15, 47, 3, 3), (47, .iconst 0, 48, 0, 0), (48, .bipush 97, 50, 0, 0), (50, .invokestatic 101, 53, 998, 5), (53, .iconst 0, 54, 0, 0),
  (54, .istore 4, 56, 4, 0), (56, .iload 4, 58, 4, 0), (58, .aload_n 0, 59, 0, 0), (59, .getfield 24, 62, 3, 0), (62, .getfield 61, 65, 8, 5), (65, .if_icmp .ge 62, 68, 127, 0), (68, .aload_n 0, 69, 0, 0), (69, .getfield 21, 72, 3, 5),
  (72, .aload_n 0, 73, 0, 0), (73, .getfield 24, 76, 3, 0), (76, .getfield 65, 79, 8, 4), (79, .iload 4, 81, 4, 0), (81, .iaload, 82, 0, 0), (82, .iaload, 83, 0, 0), (83, .iload_n 1, 84, 1, 0), (84, .if_icmp .gt 37, 87, 121, 0),
  (87, .aload_n 0, 88, 0, 0), (88, .getfield 11, 91, 3, 2), (91, .iload_n 3, 92, 3, 0), (92, .bipush 97, 94, 0, 0), (94, .imul, 95, 0, 0), (95, .aload_n 0, 96, 0, 0), (96, .getfield 24, 99, 3, 0), (99, .getfield 65, 102, 8, 4),
  (102, .iload 4, 104, 4, 0), (104, .iaload, 105, 0, 0), (105, .iadd, 106, 0, 0), (106, .aload_n 0, 107, 0, 0), (107, .aload_n 0, 108, 0, 0), (108, .getfield 24, 111, 3, 0), (111, .getfield 65, 114, 8, 4), (114, .iload 4, 116, 4, 0),
  (116, .iaload, 117, 0, 0), (117, .invokevirtual 107, 120, 41, 1), (120, .iastore, 121, 0, 0), (121, .iinc 4 1, 124, 4, 0), (124, .goto (-68), 127, 56, 0), (127, .aload_n 0, 128, 0, 0), (128, .getfield 11, 131, 3, 2), (131, .iload_n 3, 132, 3, 0),
  (132, .bipush 97, 134, 0, 0), (134, .imul, 135, 0, 0), (135, .bipush 96, 137, 0, 0), (137, .iadd, 138, 0, 0), (138, .bipush 6, 140, 0, 0), (140, .aload_n 0, 141, 0, 0), (141, .getfield 15, 144, 3, 3), (144, .bipush 96, 146, 0, 0),
  (146, .iaload, 147, 0, 0), (147, .imul, 148, 0, 0), (148, .iastore, 149, 0, 0), (149, .iinc 2 1, 152, 2, 0), (152, .goto (-150), 155, 2, 0), (155, .return_, 156, 0, 0)]
set_option maxRecDepth 20000 in
/-- 41: StoneHome$Race.hisBest(I)I -/
def at_X3_hisBest : List (Nat × am_I) := [(0, .aload_n 0, 1, 0, 0), (1, .aload_n 0, 2, 0, 0), (2, .getfield 28, 5, 3, 1), (5, .getfield 68, 8, 7, 4), (8, .iload_n 1, 9, 1, 0), (9, .iconst 0, 10, 0, 0), (10, .aload_n 0, 11, 0, 0), (11, .getfield 15, 14, 3, 3),
  (14, .bipush 96, 16, 0, 0), (16, .iaload, 17, 0, 0), (17, .invokevirtual 110, 20, 39, 4), (20, .istore_n 2, 21, 2, 0), (21, .iconst 0, 22, 0, 0), (22, .istore_n 3, 23, 3, 0), (23, .iload_n 3, 24, 3, 0), (24, .aload_n 0, 25, 0, 0),
  (25, .getfield 28, 28, 3, 1), (28, .getfield 68, 31, 7, 4), (31, .if_icmp .ge 42, 34, 73, 0), (34, .aload_n 0, 35, 0, 0), (35, .getfield 28, 38, 3, 1), (38, .iload_n 1, 39, 1, 0), (39, .iconst 3, 40, 0, 0), (40, .idiv, 41, 0, 0),
  (41, .iload_n 3, 42, 3, 0), (42, .invokevirtual 114, 45, 97, 2), (45, .ifCond .eq 22, 48, 67, 0), (48, .iload_n 2, 49, 2, 0), (49, .aload_n 0, 50, 0, 0), (50, .iload_n 3, 51, 3, 0), (51, .iload_n 1, 52, 1, 0), (52, .iconst 0, 53, 0, 0),
  (53, .aload_n 0, 54, 0, 0), (54, .getfield 15, 57, 3, 3), (57, .bipush 96, 59, 0, 0), (59, .iaload, 60, 0, 0), (60, .invokevirtual 110, 63, 39, 4), (63, .invokestatic 90, 66, 997, 2), (66, .istore_n 2, 67, 2, 0), (67, .iinc 3 1, 70, 3, 0),
  (70, .goto (-47), 73, 23, 0), (73, .iload_n 2, 74, 2, 0), (74, .ireturn, 75, 0, 0)]
set_option maxRecDepth 20000 in
/-- 42: StoneHome$Reader.<init>([BLStoneHome$Street;)V -/
def at_X4_init : List (Nat × am_I) := [(0, .aload_n 0, 1, 0, 0), (1, .invokespecial 3, 4, 999, 0), (4, .aload_n 0, 5, 0, 0), (5, .iconst 0, 6, 0, 0), (6, .putfield 9, 9, 4, 16), (9, .aload_n 0, 10, 0, 0), (10, .iconst 0, 11, 0, 0), (11, .putfield 17, 14, 4, 24),
  (14, .aload_n 0, 15, 0, 0), (15, .iconst 0, 16, 0, 0), (16, .putfield 20, 19, 4, 32), (19, .aload_n 0, 20, 0, 0), (20, .iconst 0, 21, 0, 0), (21, .putfield 23, 24, 4, 40), (24, .aload_n 0, 25, 0, 0), (25, .iconst 0, 26, 0, 0),
  (26, .putfield 26, 29, 4, 48), (29, .aload_n 0, 30, 0, 0), (30, .iconst 4, 31, 0, 0), (31, .newarray .long, 33, 0, 0), (33, .putfield 29, 36, 4, 62), (36, .aload_n 0, 37, 0, 0), (37, .iconst 0, 38, 0, 0), (38, .putfield 33, 41, 4, 64),
  (41, .aload_n 0, 42, 0, 0), (42, .iconst (-1), 43, 0, 0), (43, .putfield 36, 46, 4, 72), (46, .aload_n 0, 47, 0, 0), (47, .iconst 0, 48, 0, 0), (48, .putfield 39, 51, 4, 80), (51, .aload_n 0, 52, 0, 0), (52, .iconst (-1), 53, 0, 0),
  (53, .putfield 42, 56, 4, 88), (56, .aload_n 0, 57, 0, 0), (57, .new 15, 60, 9, 0), (60, .dup, 61, 0, 0), (61, .aload_n 1, 62, 1, 0), (62, .invokespecial 45, 65, 116, 1), (65, .putfield 48, 68, 4, 6), (68, .aload_n 0, 69, 0, 0),
  (69, .aload_n 2, 70, 2, 0), (70, .putfield 52, 73, 4, 10), (73, .return_, 74, 0, 0)]
set_option maxRecDepth 20000 in
/-- 43: StoneHome$Reader.readText(LStoneHome$Street;I)I -/
def at_X4_readText : List (Nat × am_I) := [(0, .aload_n 0, 1, 0, 0), (1, .aload_n 1, 2, 1, 0), (2, .putfield 52, 5, 4, 10), (5, .aload_n 0, 6, 0, 0), (6, .getfield 52, 9, 4, 1), (9, .invokevirtual 56, 12, 86, 0), (12, .aload_n 0, 13, 0, 0), (13, .iconst 0, 14, 0, 0),
  (14, .putfield 33, 17, 4, 64), (17, .aload_n 0, 18, 0, 0), (18, .iconst (-1), 19, 0, 0), (19, .putfield 36, 22, 4, 72), (22, .aload_n 0, 23, 0, 0), (23, .iconst 0, 24, 0, 0), (24, .putfield 39, 27, 4, 80), (27, .aload_n 0, 28, 0, 0),
  (28, .iconst (-1), 29, 0, 0), (29, .putfield 42, 32, 4, 88), (32, .aload_n 0, 33, 0, 0), (33, .getfield 48, 36, 4, 0), (36, .iload_n 2, 37, 2, 0), (37, .invokevirtual 61, 40, 117, 1), (40, .aload_n 0, 41, 0, 0), (41, .iconst (-1), 42, 0, 0),
  (42, .putfield 9, 45, 4, 16), (45, .aload_n 0, 46, 0, 0), (46, .invokevirtual 65, 49, 44, 0), (49, .iconst 0, 50, 0, 0), (50, .istore_n 3, 51, 3, 0), (51, .iload_n 3, 52, 3, 0), (52, .sipush 400, 55, 0, 0), (55, .if_icmp .gt 27, 58, 82, 0),
  (58, .aload_n 0, 59, 0, 0), (59, .getfield 33, 62, 4, 8), (62, .ifCond .ne 20, 65, 82, 0), (65, .aload_n 0, 66, 0, 0), (66, .getfield 17, 69, 4, 3), (69, .ifCond .eq 13, 72, 82, 0), (72, .aload_n 0, 73, 0, 0), (73, .invokevirtual 68, 76, 45, 0),
  (76, .iinc 3 1, 79, 3, 0), (79, .goto (-28), 82, 51, 0), (82, .aload_n 0, 83, 0, 0), (83, .iload_n 2, 84, 2, 0), (84, .invokevirtual 71, 87, 67, 1), (87, .aload_n 0, 88, 0, 0), (88, .getfield 33, 91, 4, 8), (91, .ireturn, 92, 0, 0)]
set_option maxRecDepth 20000 in
/-- 44: StoneHome$Reader.take()V -/
def at_X4_take : List (Nat × am_I) := [(0, .aload_n 0, 1, 0, 0), (1, .getfield 33, 4, 4, 8), (4, .ifCond .ne 94, 7, 98, 0), (7, .aload_n 0, 8, 0, 0), (8, .dup, 9, 0, 0), (9, .getfield 9, 12, 4, 2), (12, .iconst 1, 13, 0, 0), (13, .iadd, 14, 0, 0),
  (14, .putfield 9, 17, 4, 16), (17, .aload_n 0, 18, 0, 0), (18, .getfield 9, 21, 4, 2), (21, .sipush 400, 24, 0, 0), (24, .if_icmp .gt 10, 27, 34, 0), (27, .aload_n 0, 28, 0, 0), (28, .getfield 9, 31, 4, 2), (31, .ifCond .ge 19, 34, 50, 0),
  (34, .aload_n 0, 35, 0, 0), (35, .iconst 2, 36, 0, 0), (36, .putfield 33, 39, 4, 64), (39, .aload_n 0, 40, 0, 0), (40, .aload_n 0, 41, 0, 0), (41, .getfield 20, 44, 4, 4), (44, .putfield 36, 47, 4, 72), (47, .goto 51, 50, 98, 0),
  (50, .aload_n 0, 51, 0, 0), (51, .aload_n 0, 52, 0, 0), (52, .getfield 48, 55, 4, 0), (55, .getfield 239, 58, 9, 0), (58, .aload_n 0, 59, 0, 0), (59, .getfield 9, 62, 4, 2), (62, .iaload, 63, 0, 0), (63, .putfield 17, 66, 4, 24),
  (66, .aload_n 0, 67, 0, 0), (67, .aload_n 0, 68, 0, 0), (68, .getfield 48, 71, 4, 0), (71, .getfield 242, 74, 9, 1), (74, .aload_n 0, 75, 0, 0), (75, .getfield 9, 78, 4, 2), (78, .iaload, 79, 0, 0), (79, .putfield 20, 82, 4, 32),
  (82, .aload_n 0, 83, 0, 0), (83, .aload_n 0, 84, 0, 0), (84, .getfield 48, 87, 4, 0), (87, .getfield 245, 90, 9, 2), (90, .aload_n 0, 91, 0, 0), (91, .getfield 9, 94, 4, 2), (94, .iaload, 95, 0, 0), (95, .putfield 23, 98, 4, 40),
  (98, .return_, 99, 0, 0)]
set_option maxRecDepth 20000 in
/-- 45: StoneHome$Reader.takeTell()V -/
def at_X4_takeTell : List (Nat × am_I) := [(0, .aload_n 0, 1, 0, 0), (1, .getfield 17, 4, 4, 3), (4, .iconst 2, 5, 0, 0), (5, .if_icmp .ne 10, 8, 15, 0), (8, .aload_n 0, 9, 0, 0), (9, .getfield 23, 12, 4, 5), (12, .goto 4, 15, 16, 0), (15, .iconst (-1), 16, 0, 0),
  (16, .tableswitch 114 0 7 #[48, 114, 55, 62, 70, 78, 86, 100], 64, 130, 0), (64, .aload_n 0, 65, 0, 0), (65, .invokevirtual 78, 68, 46, 0), (68, .goto 66, 71, 134, 0), (71, .aload_n 0, 72, 0, 0), (72, .invokevirtual 81, 75, 50, 0), (75, .goto 59, 78, 134, 0), (78, .aload_n 0, 79, 0, 0),
  (79, .iconst 0, 80, 0, 0), (80, .invokevirtual 86, 83, 58, 1), (83, .goto 51, 86, 134, 0), (86, .aload_n 0, 87, 0, 0), (87, .iconst 1, 88, 0, 0), (88, .invokevirtual 86, 91, 58, 1), (91, .goto 43, 94, 134, 0), (94, .aload_n 0, 95, 0, 0),
  (95, .iconst 2, 96, 0, 0), (96, .invokevirtual 86, 99, 58, 1), (99, .goto 35, 102, 134, 0), (102, .aload_n 0, 103, 0, 0), (103, .aload_n 0, 104, 0, 0), (104, .getfield 52, 107, 4, 1), (107, .getfield 89, 110, 7, 11), (110, .invokevirtual 93, 113, 65, 1),
  (113, .goto 21, 116, 134, 0), (116, .aload_n 0, 117, 0, 0), (117, .aload_n 0, 118, 0, 0), (118, .getfield 52, 121, 4, 1), (121, .getfield 97, 124, 7, 12), (124, .invokevirtual 93, 127, 65, 1), (127, .goto 7, 130, 134, 0), (130, .aload_n 0, 131, 0, 0),
  (131, .invokevirtual 100, 134, 66, 0), (134, .aload_n 0, 135, 0, 0), (135, .bipush 59, 137, 0, 0), (137, .invokevirtual 103, 140, 59, 1), (140, .return_, 141, 0, 0)]
set_option maxRecDepth 20000 in
/-- 46: StoneHome$Reader.takeRow()V -/
def at_X4_takeRow : List (Nat × am_I) := [(0, .aload_n 0, 1, 0, 0), (1, .getfield 52, 4, 4, 1), (4, .getfield 126, 7, 7, 1), (7, .iconst 4, 8, 0, 0), (8, .if_icmp .lt 9, 11, 17, 0), (11, .aload_n 0, 12, 0, 0), (12, .iconst 2, 13, 0, 0), (13, .invokevirtual 123, 16, 47, 1),
  (16, .return_, 17, 0, 0), (17, .aload_n 0, 18, 0, 0), (18, .invokevirtual 65, 21, 44, 0), (21, .aload_n 0, 22, 0, 0), (22, .getfield 17, 25, 4, 3), (25, .iconst 1, 26, 0, 0), (26, .if_icmp .eq 9, 29, 35, 0), (29, .aload_n 0, 30, 0, 0),
  (30, .iconst 1, 31, 0, 0), (31, .invokevirtual 123, 34, 47, 1), (34, .return_, 35, 0, 0), (35, .aload_n 0, 36, 0, 0), (36, .getfield 52, 39, 4, 1), (39, .getfield 126, 42, 7, 1), (42, .ifCond .ne 14, 45, 56, 0), (45, .aload_n 0, 46, 0, 0),
  (46, .getfield 52, 49, 4, 1), (49, .aload_n 0, 50, 0, 0), (50, .getfield 23, 53, 4, 5), (53, .putfield 129, 56, 7, 0), (56, .aload_n 0, 57, 0, 0), (57, .getfield 23, 60, 4, 5), (60, .aload_n 0, 61, 0, 0), (61, .getfield 52, 64, 4, 1),
  (64, .getfield 129, 67, 7, 0), (67, .if_icmp .ne 10, 70, 77, 0), (70, .aload_n 0, 71, 0, 0), (71, .invokevirtual 132, 74, 48, 0), (74, .ifCond .ne 13, 77, 87, 0), (77, .aload_n 0, 78, 0, 0), (78, .bipush 6, 80, 0, 0), (80, .aload_n 0, 81, 0, 0),
  (81, .getfield 20, 84, 4, 4), (84, .invokevirtual 135, 87, 49, 2), (87, .aload_n 0, 88, 0, 0), (88, .getfield 52, 91, 4, 1), (91, .dup, 92, 0, 0), (92, .getfield 126, 95, 7, 1), (95, .iconst 1, 96, 0, 0), (96, .iadd, 97, 0, 0),
  (97, .putfield 126, 100, 7, 8), (100, .aload_n 0, 101, 0, 0), (101, .invokevirtual 65, 104, 44, 0), (104, .return_, 105, 0, 0)]
set_option maxRecDepth 20000 in
/-- 47: StoneHome$Reader.fail(I)V -/
def at_X4_fail : List (Nat × am_I) := [(0, .aload_n 0, 1, 0, 0), (1, .getfield 33, 4, 4, 8), (4, .ifCond .ne 16, 7, 20, 0), (7, .aload_n 0, 8, 0, 0), (8, .iload_n 1, 9, 1, 0), (9, .putfield 33, 12, 4, 64), (12, .aload_n 0, 13, 0, 0), (13, .aload_n 0, 14, 0, 0),
  (14, .getfield 20, 17, 4, 4), (17, .putfield 36, 20, 4, 72), (20, .return_, 21, 0, 0)]
set_option maxRecDepth 20000 in
/-- 48: StoneHome$Reader.layRow()Z -/
def at_X4_layRow : List (Nat × am_I) := [(0, .iconst 1, 1, 0, 0), (1, .istore_n 1, 2, 1, 0), (2, .iconst 0, 3, 0, 0), (3, .istore_n 2, 4, 2, 0), (4, .iload_n 2, 5, 2, 0), (5, .aload_n 0, 6, 0, 0), (6, .getfield 23, 9, 4, 5), (9, .if_icmp .ge 58, 12, 67, 0),
  (12, .ldc 139, 14, 1, 4), (14, .aload_n 0, 15, 0, 0), (15, .getfield 48, 18, 4, 0), (18, .aload_n 0, 19, 0, 0), (19, .getfield 20, 22, 4, 4), (22, .iload_n 2, 23, 2, 0), (23, .iadd, 24, 0, 0), (24, .invokevirtual 141, 27, 126, 1),
  (27, .invokevirtual 145, 30, 298, 1), (30, .istore_n 3, 31, 3, 0), (31, .iload_n 1, 32, 1, 0), (32, .ifCond .eq 11, 35, 43, 0), (35, .iload_n 3, 36, 3, 0), (36, .ifCond .lt 7, 39, 43, 0), (39, .iconst 1, 40, 0, 0), (40, .goto 4, 43, 44, 0),
  (43, .iconst 0, 44, 0, 0), (44, .istore_n 1, 45, 1, 0), (45, .aload_n 0, 46, 0, 0), (46, .getfield 52, 49, 4, 1), (49, .iload_n 2, 50, 2, 0), (50, .aload_n 0, 51, 0, 0), (51, .getfield 52, 54, 4, 1), (54, .getfield 126, 57, 7, 1),
  (57, .iload_n 3, 58, 3, 0), (58, .invokevirtual 151, 61, 91, 3), (61, .iinc 2 1, 64, 2, 0), (64, .goto (-60), 67, 4, 0), (67, .iload_n 1, 68, 1, 0), (68, .ireturn, 69, 0, 0)]
set_option maxRecDepth 20000 in
/-- 49: StoneHome$Reader.failLate(II)V -/
def at_X4_failLate : List (Nat × am_I) := [(0, .aload_n 0, 1, 0, 0), (1, .getfield 39, 4, 4, 10), (4, .ifCond .eq 27, 7, 31, 0), (7, .iload_n 2, 8, 2, 0), (8, .aload_n 0, 9, 0, 0), (9, .getfield 42, 12, 4, 11), (12, .if_icmp .lt 19, 15, 31, 0), (15, .iload_n 2, 16, 2, 0),
  (16, .aload_n 0, 17, 0, 0), (17, .getfield 42, 20, 4, 11), (20, .if_icmp .ne 21, 23, 41, 0), (23, .iload_n 1, 24, 1, 0), (24, .aload_n 0, 25, 0, 0), (25, .getfield 39, 28, 4, 10), (28, .if_icmp .ge 13, 31, 41, 0), (31, .aload_n 0, 32, 0, 0),
  (32, .iload_n 1, 33, 1, 0), (33, .putfield 39, 36, 4, 80), (36, .aload_n 0, 37, 0, 0), (37, .iload_n 2, 38, 2, 0), (38, .putfield 42, 41, 4, 88), (41, .return_, 42, 0, 0)]
set_option maxRecDepth 20000 in
/-- 50: StoneHome$Reader.takeKick()V -/
def at_X4_takeKick : List (Nat × am_I) := [(0, .aload_n 0, 1, 0, 0), (1, .getfield 52, 4, 4, 1), (4, .getfield 155, 7, 7, 4), (7, .istore_n 1, 8, 1, 0), (8, .iload_n 1, 9, 1, 0), (9, .ifCond .lt 8, 12, 17, 0), (12, .iload_n 1, 13, 1, 0), (13, .iconst 4, 14, 0, 0),
  (14, .if_icmp .lt 9, 17, 23, 0), (17, .aload_n 0, 18, 0, 0), (18, .iconst 2, 19, 0, 0), (19, .invokevirtual 123, 22, 47, 1), (22, .return_, 23, 0, 0), (23, .aload_n 0, 24, 0, 0), (24, .invokevirtual 65, 27, 44, 0), (27, .aload_n 0, 28, 0, 0),
  (28, .getfield 17, 31, 4, 3), (31, .iconst 1, 32, 0, 0), (32, .if_icmp .eq 9, 35, 41, 0), (35, .aload_n 0, 36, 0, 0), (36, .iconst 1, 37, 0, 0), (37, .invokevirtual 123, 40, 47, 1), (40, .return_, 41, 0, 0), (41, .aload_n 0, 42, 0, 0),
  (42, .getfield 20, 45, 4, 4), (45, .istore_n 2, 46, 2, 0), (46, .aload_n 0, 47, 0, 0), (47, .getfield 48, 50, 4, 0), (50, .aload_n 0, 51, 0, 0), (51, .getfield 20, 54, 4, 4), (54, .aload_n 0, 55, 0, 0), (55, .getfield 23, 58, 4, 5),
  (58, .invokevirtual 158, 61, 127, 2), (61, .lstore_n 3, 62, 3, 0), (62, .aload_n 0, 63, 0, 0), (63, .lload_n 3, 64, 3, 0), (64, .invokevirtual 162, 67, 51, 1), (67, .ifCond .eq 9, 70, 76, 0), (70, .aload_n 0, 71, 0, 0), (71, .iconst 3, 72, 0, 0),
  (72, .iload_n 2, 73, 2, 0), (73, .invokevirtual 135, 76, 49, 2), (76, .aload_n 0, 77, 0, 0), (77, .getfield 29, 80, 4, 7), (80, .iload_n 1, 81, 1, 0), (81, .lload_n 3, 82, 3, 0), (82, .lastore, 83, 0, 0), (83, .aload_n 0, 84, 0, 0),
  (84, .invokevirtual 65, 87, 44, 0), (87, .aload_n 0, 88, 0, 0), (88, .iload_n 1, 89, 1, 0), (89, .invokevirtual 166, 92, 52, 1), (92, .bipush 6, 94, 0, 0), (94, .if_icmp .eq 9, 97, 103, 0), (97, .aload_n 0, 98, 0, 0), (98, .iconst 5, 99, 0, 0),
  (99, .iload_n 2, 100, 2, 0), (100, .invokevirtual 135, 103, 49, 2), (103, .aload_n 0, 104, 0, 0), (104, .getfield 52, 107, 4, 1), (107, .dup, 108, 0, 0), (108, .getfield 155, 111, 7, 4), (111, .iconst 1, 112, 0, 0), (112, .iadd, 113, 0, 0),
  (113, .putfield 155, 116, 7, 32), (116, .return_, 117, 0, 0)]
set_option maxRecDepth 20000 in
/-- 51: StoneHome$Reader.isToldKick(J)Z -/
def at_X4_isToldKick : List (Nat × am_I) := [(0, .iconst 0, 1, 0, 0), (1, .istore_n 3, 2, 3, 0), (2, .iload_n 3, 3, 3, 0), (3, .aload_n 0, 4, 0, 0), (4, .getfield 52, 7, 4, 1), (7, .getfield 155, 10, 7, 4), (10, .if_icmp .ge 31, 13, 41, 0), (13, .iload_n 3, 14, 3, 0),
  (14, .aload_n 0, 15, 0, 0), (15, .getfield 29, 18, 4, 7), (18, .arraylength, 19, 0, 0), (19, .if_icmp .ge 22, 22, 41, 0), (22, .aload_n 0, 23, 0, 0), (23, .getfield 29, 26, 4, 7), (26, .iload_n 3, 27, 3, 0), (27, .laload, 28, 0, 0),
  (28, .lload_n 1, 29, 1, 0), (29, .lcmp, 30, 0, 0), (30, .ifCond .ne 5, 33, 35, 0), (33, .iconst 1, 34, 0, 0), (34, .ireturn, 35, 0, 0), (35, .iinc 3 1, 38, 3, 0), (38, .goto (-36), 41, 2, 0), (41, .iconst 0, 42, 0, 0),
  (42, .ireturn, 43, 0, 0)]
set_option maxRecDepth 20000 in
/-- 52: StoneHome$Reader.takeOutcomes(I)I -/
def at_X4_takeOutcomes : List (Nat × am_I) := [(0, .iconst 0, 1, 0, 0), (1, .istore_n 2, 2, 2, 0), (2, .iconst 0, 3, 0, 0), (3, .istore_n 3, 4, 3, 0), (4, .iconst 0, 5, 0, 0), (5, .istore 4, 7, 4, 0), (7, .iload 4, 9, 4, 0), (9, .bipush 6, 11, 0, 0),
  (11, .if_icmp .gt 54, 14, 65, 0), (14, .aload_n 0, 15, 0, 0), (15, .getfield 33, 18, 4, 8), (18, .ifCond .ne 47, 21, 65, 0), (21, .aload_n 0, 22, 0, 0), (22, .getfield 17, 25, 4, 3), (25, .iconst 3, 26, 0, 0), (26, .if_icmp .ne 39, 29, 65, 0),
  (29, .iload_n 3, 30, 3, 0), (30, .bipush 6, 32, 0, 0), (32, .if_icmp .ne 11, 35, 43, 0), (35, .aload_n 0, 36, 0, 0), (36, .iconst 2, 37, 0, 0), (37, .invokevirtual 123, 40, 47, 1), (40, .goto 19, 43, 59, 0), (43, .iload_n 2, 44, 2, 0),
  (44, .aload_n 0, 45, 0, 0), (45, .iload_n 1, 46, 1, 0), (46, .bipush 6, 48, 0, 0), (48, .imul, 49, 0, 0), (49, .iload_n 3, 50, 3, 0), (50, .iadd, 51, 0, 0), (51, .invokevirtual 169, 54, 53, 1), (54, .iadd, 55, 0, 0),
  (55, .istore_n 2, 56, 2, 0), (56, .iinc 3 1, 59, 3, 0), (59, .iinc 4 1, 62, 4, 0), (62, .goto (-55), 65, 7, 0), (65, .aload_n 0, 66, 0, 0), (66, .getfield 52, 69, 4, 1), (69, .getfield 172, 72, 7, 5), (72, .iload_n 1, 73, 1, 0),
  (73, .iload_n 3, 74, 3, 0), (74, .iastore, 75, 0, 0), (75, .iload_n 2, 76, 2, 0), (76, .ireturn, 77, 0, 0)]
set_option maxRecDepth 20000 in
/-- 53: StoneHome$Reader.takeOutcome(I)I -/
def at_X4_takeOutcome : List (Nat × am_I) := [(0, .aload_n 0, 1, 0, 0), (1, .iconst 1, 2, 0, 0), (2, .bipush 6, 4, 0, 0), (4, .invokevirtual 107, 7, 54, 2), (7, .istore_n 2, 8, 2, 0), (8, .aload_n 0, 9, 0, 0), (9, .bipush 11, 11, 0, 0), (11, .invokevirtual 175, 14, 55, 1),
  (14, .aload_n 0, 15, 0, 0), (15, .iconst 0, 16, 0, 0), (16, .iconst 4, 17, 0, 0), (17, .invokevirtual 107, 20, 54, 2), (20, .istore_n 3, 21, 3, 0), (21, .aload_n 0, 22, 0, 0), (22, .bipush 45, 24, 0, 0), (24, .invokevirtual 178, 27, 57, 1),
  (27, .istore 4, 29, 4, 0), (29, .iload 4, 31, 4, 0), (31, .ifCond .eq 7, 34, 38, 0), (34, .aload_n 0, 35, 0, 0), (35, .invokevirtual 65, 38, 44, 0), (38, .aload_n 0, 39, 0, 0), (39, .iconst 0, 40, 0, 0), (40, .iconst 2, 41, 0, 0),
  (41, .invokevirtual 107, 44, 54, 2), (44, .istore 5, 46, 5, 0), (46, .iconst 0, 47, 0, 0), (47, .istore 6, 49, 6, 0), (49, .aload_n 0, 50, 0, 0), (50, .bipush 12, 52, 0, 0), (52, .invokevirtual 182, 55, 56, 1), (55, .ifCond .eq 15, 58, 70, 0),
  (58, .aload_n 0, 59, 0, 0), (59, .invokevirtual 65, 62, 44, 0), (62, .aload_n 0, 63, 0, 0), (63, .iconst 0, 64, 0, 0), (64, .iconst 2, 65, 0, 0), (65, .invokevirtual 107, 68, 54, 2), (68, .istore 6, 70, 6, 0), (70, .iload_n 1, 71, 1, 0),
  (71, .ifCond .lt 62, 74, 133, 0), (74, .iload_n 1, 75, 1, 0), (75, .bipush 24, 77, 0, 0), (77, .if_icmp .ge 56, 80, 133, 0), (80, .aload_n 0, 81, 0, 0), (81, .getfield 52, 84, 4, 1), (84, .getfield 186, 87, 7, 6), (87, .iload_n 1, 88, 1, 0),
  (88, .iload_n 2, 89, 2, 0), (89, .iastore, 90, 0, 0), (90, .aload_n 0, 91, 0, 0), (91, .getfield 52, 94, 4, 1), (94, .getfield 189, 97, 7, 7), (97, .iload_n 1, 98, 1, 0), (98, .iload_n 3, 99, 3, 0), (99, .iastore, 100, 0, 0),
  (100, .aload_n 0, 101, 0, 0), (101, .getfield 52, 104, 4, 1), (104, .getfield 192, 107, 7, 8), (107, .iload_n 1, 108, 1, 0), (108, .iload 4, 110, 4, 0), (110, .ifCond .eq 9, 113, 119, 0), (113, .iload 5, 115, 5, 0), (115, .ineg, 116, 0, 0),
  (116, .goto 5, 119, 121, 0), (119, .iload 5, 121, 5, 0), (121, .iastore, 122, 0, 0), (122, .aload_n 0, 123, 0, 0), (123, .getfield 52, 126, 4, 1), (126, .getfield 195, 129, 7, 9), (129, .iload_n 1, 130, 1, 0), (130, .iload 6, 132, 6, 0),
  (132, .iastore, 133, 0, 0), (133, .iload_n 2, 134, 2, 0), (134, .ireturn, 135, 0, 0)]
set_option maxRecDepth 20000 in
/-- 54: StoneHome$Reader.takeInt(II)I -/
def at_X4_takeInt : List (Nat × am_I) := [(0, .aload_n 0, 1, 0, 0), (1, .getfield 17, 4, 4, 3), (4, .iconst 3, 5, 0, 0), (5, .if_icmp .eq 10, 8, 15, 0), (8, .aload_n 0, 9, 0, 0), (9, .iconst 1, 10, 0, 0), (10, .invokevirtual 123, 13, 47, 1), (13, .iload_n 1, 14, 1, 0),
  (14, .ireturn, 15, 0, 0), (15, .aload_n 0, 16, 0, 0), (16, .getfield 23, 19, 4, 5), (19, .istore_n 3, 20, 3, 0), (20, .iload_n 3, 21, 3, 0), (21, .iload_n 1, 22, 1, 0), (22, .if_icmp .lt 8, 25, 30, 0), (25, .iload_n 3, 26, 3, 0),
  (26, .iload_n 2, 27, 2, 0), (27, .if_icmp .le 12, 30, 39, 0), (30, .aload_n 0, 31, 0, 0), (31, .iconst 5, 32, 0, 0), (32, .aload_n 0, 33, 0, 0), (33, .getfield 20, 36, 4, 4), (36, .invokevirtual 135, 39, 49, 2), (39, .aload_n 0, 40, 0, 0),
  (40, .invokevirtual 65, 43, 44, 0), (43, .iload_n 3, 44, 3, 0), (44, .ireturn, 45, 0, 0)]
set_option maxRecDepth 20000 in
/-- 55: StoneHome$Reader.takeWord(I)V -/
def at_X4_takeWord : List (Nat × am_I) := [(0, .aload_n 0, 1, 0, 0), (1, .iload_n 1, 2, 1, 0), (2, .invokevirtual 182, 5, 56, 1), (5, .ifCond .eq 10, 8, 15, 0), (8, .aload_n 0, 9, 0, 0), (9, .invokevirtual 65, 12, 44, 0), (12, .goto 8, 15, 20, 0), (15, .aload_n 0, 16, 0, 0),
  (16, .iconst 1, 17, 0, 0), (17, .invokevirtual 123, 20, 47, 1), (20, .return_, 21, 0, 0)]
set_option maxRecDepth 20000 in
/-- 56: StoneHome$Reader.isWord(I)Z -/
def at_X4_isWord : List (Nat × am_I) := [(0, .aload_n 0, 1, 0, 0), (1, .getfield 17, 4, 4, 3), (4, .iconst 2, 5, 0, 0), (5, .if_icmp .ne 15, 8, 20, 0), (8, .aload_n 0, 9, 0, 0), (9, .getfield 23, 12, 4, 5), (12, .iload_n 1, 13, 1, 0), (13, .if_icmp .ne 7, 16, 20, 0),
  (16, .iconst 1, 17, 0, 0), (17, .goto 4, 20, 21, 0), (20, .iconst 0, 21, 0, 0), (21, .ireturn, 22, 0, 0)]
set_option maxRecDepth 20000 in
/-- 57: StoneHome$Reader.isSign(C)Z -/
def at_X4_isSign : List (Nat × am_I) := [(0, .aload_n 0, 1, 0, 0), (1, .getfield 17, 4, 4, 3), (4, .iconst 4, 5, 0, 0), (5, .if_icmp .ne 15, 8, 20, 0), (8, .aload_n 0, 9, 0, 0), (9, .getfield 23, 12, 4, 5), (12, .iload_n 1, 13, 1, 0), (13, .if_icmp .ne 7, 16, 20, 0),
  (16, .iconst 1, 17, 0, 0), (17, .goto 4, 20, 21, 0), (20, .iconst 0, 21, 0, 0), (21, .ireturn, 22, 0, 0)]
set_option maxRecDepth 20000 in
/-- 58: StoneHome$Reader.takeLaw(I)V -/
def at_X4_takeLaw : List (Nat × am_I) := [(0, .aload_n 0, 1, 0, 0), (1, .iload_n 1, 2, 1, 0), (2, .putfield 26, 5, 4, 48), (5, .aload_n 0, 6, 0, 0), (6, .invokevirtual 65, 9, 44, 0), (9, .aload_n 0, 10, 0, 0), (10, .bipush 61, 12, 0, 0), (12, .invokevirtual 103, 15, 59, 1),
  (15, .aload_n 0, 16, 0, 0), (16, .getfield 52, 19, 4, 1), (19, .getfield 198, 22, 7, 10), (22, .aload_n 0, 23, 0, 0), (23, .getfield 26, 26, 4, 6), (26, .invokevirtual 202, 29, 14, 1), (29, .iconst 0, 30, 0, 0), (30, .istore_n 2, 31, 2, 0),
  (31, .iload_n 2, 32, 2, 0), (32, .iconst 4, 33, 0, 0), (33, .if_icmp .gt 42, 36, 75, 0), (36, .aload_n 0, 37, 0, 0), (37, .getfield 33, 40, 4, 8), (40, .ifCond .ne 35, 43, 75, 0), (43, .aload_n 0, 44, 0, 0), (44, .bipush 13, 46, 0, 0),
  (46, .invokevirtual 182, 49, 56, 1), (49, .ifCond .eq 26, 52, 75, 0), (52, .iload_n 2, 53, 2, 0), (53, .iconst 4, 54, 0, 0), (54, .if_icmp .ne 11, 57, 65, 0), (57, .aload_n 0, 58, 0, 0), (58, .iconst 2, 59, 0, 0), (59, .invokevirtual 123, 62, 47, 1),
  (62, .goto 7, 65, 69, 0), (65, .aload_n 0, 66, 0, 0), (66, .invokevirtual 205, 69, 60, 0), (69, .iinc 2 1, 72, 2, 0), (72, .goto (-41), 75, 31, 0), (75, .aload_n 0, 76, 0, 0), (76, .invokevirtual 208, 79, 61, 0), (79, .aload_n 0, 80, 0, 0),
  (80, .getfield 52, 83, 4, 1), (83, .getfield 198, 86, 7, 10), (86, .bipush 7, 88, 0, 0), (88, .iconst 0, 89, 0, 0), (89, .invokevirtual 211, 92, 16, 2), (92, .pop, 93, 0, 0), (93, .return_, 94, 0, 0)]
set_option maxRecDepth 20000 in
/-- 59: StoneHome$Reader.takeSign(C)V -/
def at_X4_takeSign : List (Nat × am_I) := [(0, .aload_n 0, 1, 0, 0), (1, .iload_n 1, 2, 1, 0), (2, .invokevirtual 178, 5, 57, 1), (5, .ifCond .eq 10, 8, 15, 0), (8, .aload_n 0, 9, 0, 0), (9, .invokevirtual 65, 12, 44, 0), (12, .goto 8, 15, 20, 0), (15, .aload_n 0, 16, 0, 0),
  (16, .iconst 1, 17, 0, 0), (17, .invokevirtual 123, 20, 47, 1), (20, .return_, 21, 0, 0)]
set_option maxRecDepth 20000 in
/-- 60: StoneHome$Reader.takeBranch()V -/
def at_X4_takeBranch : List (Nat × am_I) := [(0, .aload_n 0, 1, 0, 0), (1, .invokevirtual 65, 4, 44, 0), (4, .aload_n 0, 5, 0, 0), (5, .invokevirtual 208, 8, 61, 0), (8, .aload_n 0, 9, 0, 0), (9, .bipush 60, 11, 0, 0), (11, .invokevirtual 103, 14, 59, 1), (14, .aload_n 0, 15, 0, 0),
  (15, .invokevirtual 208, 18, 61, 0), (18, .aload_n 0, 19, 0, 0), (19, .getfield 52, 22, 4, 1), (22, .getfield 198, 25, 7, 10), (25, .bipush 6, 27, 0, 0), (27, .iconst 0, 28, 0, 0), (28, .invokevirtual 211, 31, 16, 2), (31, .istore_n 1, 32, 1, 0),
  (32, .aload_n 0, 33, 0, 0), (33, .bipush 14, 35, 0, 0), (35, .invokevirtual 175, 38, 55, 1), (38, .aload_n 0, 39, 0, 0), (39, .invokevirtual 208, 42, 61, 0), (42, .aload_n 0, 43, 0, 0), (43, .bipush 15, 45, 0, 0), (45, .invokevirtual 175, 48, 55, 1),
  (48, .aload_n 0, 49, 0, 0), (49, .getfield 52, 52, 4, 1), (52, .getfield 198, 55, 7, 10), (55, .bipush 7, 57, 0, 0), (57, .iconst 0, 58, 0, 0), (58, .invokevirtual 211, 61, 16, 2), (61, .pop, 62, 0, 0), (62, .aload_n 0, 63, 0, 0),
  (63, .getfield 52, 66, 4, 1), (66, .getfield 198, 69, 7, 10), (69, .iload_n 1, 70, 1, 0), (70, .invokevirtual 214, 73, 21, 1), (73, .return_, 74, 0, 0)]
set_option maxRecDepth 20000 in
/-- 61: StoneHome$Reader.takeFormula()V -/
def at_X4_takeFormula : List (Nat × am_I) := [(0, .iconst 0, 1, 0, 0), (1, .istore_n 1, 2, 1, 0), (2, .iconst 1, 3, 0, 0), (3, .istore_n 2, 4, 2, 0), (4, .aload_n 0, 5, 0, 0), (5, .getfield 52, 8, 4, 1), (8, .getfield 198, 11, 7, 10), (11, .bipush 8, 13, 0, 0),
  (13, .invokevirtual 217, 16, 15, 1), (16, .iconst 0, 17, 0, 0), (17, .istore_n 3, 18, 3, 0), (18, .iload_n 3, 19, 3, 0), (19, .sipush 400, 22, 0, 0), (22, .if_icmp .gt 116, 25, 138, 0), (25, .aload_n 0, 26, 0, 0), (26, .getfield 33, 29, 4, 8),
  (29, .ifCond .ne 109, 32, 138, 0), (32, .aload_n 0, 33, 0, 0), (33, .invokevirtual 220, 36, 62, 0), (36, .istore 4, 38, 4, 0), (38, .iload_n 2, 39, 2, 0), (39, .ifCond .eq 23, 42, 62, 0), (42, .aload_n 0, 43, 0, 0), (43, .bipush 40, 45, 0, 0),
  (45, .invokevirtual 178, 48, 57, 1), (48, .ifCond .eq 14, 51, 62, 0), (51, .iinc 1 1, 54, 1, 0), (54, .aload_n 0, 55, 0, 0), (55, .iload_n 1, 56, 1, 0), (56, .invokevirtual 224, 59, 63, 1), (59, .goto 73, 62, 132, 0), (62, .iload_n 2, 63, 2, 0),
  (63, .ifCond .eq 12, 66, 75, 0), (66, .aload_n 0, 67, 0, 0), (67, .invokevirtual 227, 70, 64, 0), (70, .iconst 0, 71, 0, 0), (71, .istore_n 2, 72, 2, 0), (72, .goto 60, 75, 132, 0), (75, .iload_n 1, 76, 1, 0), (76, .ifCond .le 32, 79, 108, 0),
  (79, .aload_n 0, 80, 0, 0), (80, .bipush 41, 82, 0, 0), (82, .invokevirtual 178, 85, 57, 1), (85, .ifCond .eq 23, 88, 108, 0), (88, .iinc 1 (-1), 91, 1, 0), (91, .aload_n 0, 92, 0, 0), (92, .getfield 52, 95, 4, 1), (95, .getfield 198, 98, 7, 10),
  (98, .invokevirtual 230, 101, 18, 0), (101, .aload_n 0, 102, 0, 0), (102, .invokevirtual 65, 105, 44, 0), (105, .goto 27, 108, 132, 0), (108, .iload 4, 110, 4, 0), (110, .iconst (-1), 111, 0, 0), (111, .if_icmp .eq 27, 114, 138, 0), (114, .aload_n 0, 115, 0, 0),
  (115, .getfield 52, 118, 4, 1), (118, .getfield 198, 121, 7, 10), (121, .iload 4, 123, 4, 0), (123, .invokevirtual 233, 126, 20, 1), (126, .aload_n 0, 127, 0, 0), (127, .invokevirtual 65, 130, 44, 0), (130, .iconst 1, 131, 0, 0), (131, .istore_n 2, 132, 2, 0),
  (132, .iinc 3 1, 135, 3, 0), (135, .goto (-117), 138, 18, 0), (138, .iload_n 1, 139, 1, 0), (139, .ifCond .le 8, 142, 147, 0), (142, .aload_n 0, 143, 0, 0), (143, .iconst 1, 144, 0, 0), (144, .invokevirtual 123, 147, 47, 1), (147, .aload_n 0, 148, 0, 0),
  (148, .getfield 52, 151, 4, 1), (151, .getfield 198, 154, 7, 10), (154, .invokevirtual 230, 157, 18, 0), (157, .return_, 158, 0, 0)]
set_option maxRecDepth 20000 in
/-- 62: StoneHome$Reader.operatorNext()I -/
def at_X4_operatorNext : List (Nat × am_I) := [(0, .aload_n 0, 1, 0, 0), (1, .getfield 17, 4, 4, 3), (4, .iconst 4, 5, 0, 0), (5, .if_icmp .ne 10, 8, 15, 0), (8, .aload_n 0, 9, 0, 0), (9, .getfield 23, 12, 4, 5), (12, .goto 4, 15, 16, 0), (15, .iconst (-1), 16, 0, 0),
  (16, .tableswitch 48 42 47 #[44, 40, 48, 42, 48, 46], 56, 64, 0), (56, .iconst 2, 57, 0, 0), (57, .ireturn, 58, 0, 0), (58, .iconst 3, 59, 0, 0), (59, .ireturn, 60, 0, 0), (60, .iconst 4, 61, 0, 0), (61, .ireturn, 62, 0, 0), (62, .iconst 5, 63, 0, 0),
  (63, .ireturn, 64, 0, 0), (64, .iconst (-1), 65, 0, 0), (65, .ireturn, 66, 0, 0)]
set_option maxRecDepth 20000 in
/-- 63: StoneHome$Reader.takeOpening(I)V -/
def at_X4_takeOpening : List (Nat × am_I) := [(0, .iload_n 1, 1, 1, 0), (1, .bipush 6, 3, 0, 0), (3, .if_icmp .le 11, 6, 14, 0), (6, .aload_n 0, 7, 0, 0), (7, .iconst 2, 8, 0, 0), (8, .invokevirtual 123, 11, 47, 1), (11, .goto 19, 14, 30, 0), (14, .aload_n 0, 15, 0, 0),
  (15, .getfield 52, 18, 4, 1), (18, .getfield 198, 21, 7, 10), (21, .bipush 8, 23, 0, 0), (23, .invokevirtual 217, 26, 15, 1), (26, .aload_n 0, 27, 0, 0), (27, .invokevirtual 65, 30, 44, 0), (30, .return_, 31, 0, 0)]
set_option maxRecDepth 20000 in
/-- 64: StoneHome$Reader.takeUnit()V -/
def at_X4_takeUnit : List (Nat × am_I) := [(0, .aload_n 0, 1, 0, 0), (1, .getfield 17, 4, 4, 3), (4, .iconst 3, 5, 0, 0), (5, .if_icmp .ne 26, 8, 31, 0), (8, .aload_n 0, 9, 0, 0), (9, .getfield 52, 12, 4, 1), (12, .getfield 198, 15, 7, 10), (15, .iconst 0, 16, 0, 0),
  (16, .aload_n 0, 17, 0, 0), (17, .getfield 23, 20, 4, 5), (20, .invokevirtual 211, 23, 16, 2), (23, .pop, 24, 0, 0), (24, .aload_n 0, 25, 0, 0), (25, .invokevirtual 65, 28, 44, 0), (28, .goto 83, 31, 111, 0), (31, .aload_n 0, 32, 0, 0),
  (32, .getfield 17, 35, 4, 3), (35, .iconst 2, 36, 0, 0), (36, .if_icmp .ne 70, 39, 106, 0), (39, .aload_n 0, 40, 0, 0), (40, .getfield 23, 43, 4, 5), (43, .bipush 16, 45, 0, 0), (45, .if_icmp .lt 61, 48, 106, 0), (48, .aload_n 0, 49, 0, 0),
  (49, .getfield 23, 52, 4, 5), (52, .bipush 22, 54, 0, 0), (54, .if_icmp .gt 52, 57, 106, 0), (57, .aload_n 0, 58, 0, 0), (58, .getfield 52, 61, 4, 1), (61, .getfield 198, 64, 7, 10), (64, .iconst 1, 65, 0, 0), (65, .aload_n 0, 66, 0, 0),
  (66, .getfield 23, 69, 4, 5), (69, .bipush 16, 71, 0, 0), (71, .isub, 72, 0, 0), (72, .invokevirtual 211, 75, 16, 2), (75, .pop, 76, 0, 0), (76, .aload_n 0, 77, 0, 0), (77, .getfield 23, 80, 4, 5), (80, .bipush 22, 82, 0, 0),
  (82, .if_icmp .ne 17, 85, 99, 0), (85, .aload_n 0, 86, 0, 0), (86, .getfield 52, 89, 4, 1), (89, .getfield 198, 92, 7, 10), (92, .aload_n 0, 93, 0, 0), (93, .getfield 26, 96, 4, 6), (96, .invokevirtual 236, 99, 17, 1), (99, .aload_n 0, 100, 0, 0),
  (100, .invokevirtual 65, 103, 44, 0), (103, .goto 8, 106, 111, 0), (106, .aload_n 0, 107, 0, 0), (107, .iconst 1, 108, 0, 0), (108, .invokevirtual 123, 111, 47, 1), (111, .return_, 112, 0, 0)]
set_option maxRecDepth 20000 in
/-- 65: StoneHome$Reader.takeSpot([I)V -/
def at_X4_takeSpot : List (Nat × am_I) := [(0, .aload_n 0, 1, 0, 0), (1, .invokevirtual 65, 4, 44, 0), (4, .iconst 0, 5, 0, 0), (5, .istore_n 2, 6, 2, 0), (6, .iload_n 2, 7, 2, 0), (7, .aload_n 1, 8, 1, 0), (8, .arraylength, 9, 0, 0), (9, .if_icmp .ge 19, 12, 28, 0),
  (12, .aload_n 1, 13, 1, 0), (13, .iload_n 2, 14, 2, 0), (14, .aload_n 0, 15, 0, 0), (15, .iconst 0, 16, 0, 0), (16, .bipush 9, 18, 0, 0), (18, .invokevirtual 107, 21, 54, 2), (21, .iastore, 22, 0, 0), (22, .iinc 2 1, 25, 2, 0),
  (25, .goto (-19), 28, 6, 0), (28, .return_, 29, 0, 0)]
set_option maxRecDepth 20000 in
/-- 66: StoneHome$Reader.takeSetting()V -/
def at_X4_takeSetting : List (Nat × am_I) := [(0, .aload_n 0, 1, 0, 0), (1, .getfield 17, 4, 4, 3), (4, .iconst 2, 5, 0, 0), (5, .if_icmp .ne 10, 8, 15, 0), (8, .aload_n 0, 9, 0, 0), (9, .getfield 23, 12, 4, 5), (12, .goto 4, 15, 16, 0), (15, .iconst (-1), 16, 0, 0),
  (16, .tableswitch 139 1 10 #[56, 139, 139, 139, 139, 139, 139, 76, 96, 117], 72, 155, 0), (72, .aload_n 0, 73, 0, 0), (73, .invokevirtual 65, 76, 44, 0), (76, .aload_n 0, 77, 0, 0), (77, .getfield 52, 80, 4, 1), (80, .aload_n 0, 81, 0, 0), (81, .iconst 1, 82, 0, 0), (82, .iconst 3, 83, 0, 0),
  (83, .invokevirtual 107, 86, 54, 2), (86, .putfield 111, 89, 7, 24), (89, .goto 71, 92, 160, 0), (92, .aload_n 0, 93, 0, 0), (93, .invokevirtual 65, 96, 44, 0), (96, .aload_n 0, 97, 0, 0), (97, .getfield 52, 100, 4, 1), (100, .aload_n 0, 101, 0, 0),
  (101, .iconst 0, 102, 0, 0), (102, .iconst 2, 103, 0, 0), (103, .invokevirtual 107, 106, 54, 2), (106, .putfield 114, 109, 7, 104), (109, .goto 51, 112, 160, 0), (112, .aload_n 0, 113, 0, 0), (113, .invokevirtual 65, 116, 44, 0), (116, .aload_n 0, 117, 0, 0),
  (117, .getfield 52, 120, 4, 1), (120, .aload_n 0, 121, 0, 0), (121, .iconst 1, 122, 0, 0), (122, .bipush 99, 124, 0, 0), (124, .invokevirtual 107, 127, 54, 2), (127, .putfield 117, 130, 7, 112), (130, .goto 30, 133, 160, 0), (133, .aload_n 0, 134, 0, 0),
  (134, .invokevirtual 65, 137, 44, 0), (137, .aload_n 0, 138, 0, 0), (138, .getfield 52, 141, 4, 1), (141, .aload_n 0, 142, 0, 0), (142, .iconst 0, 143, 0, 0), (143, .sipush 9999, 146, 0, 0), (146, .invokevirtual 107, 149, 54, 2), (149, .putfield 120, 152, 7, 120),
  (152, .goto 8, 155, 160, 0), (155, .aload_n 0, 156, 0, 0), (156, .iconst 1, 157, 0, 0), (157, .invokevirtual 123, 160, 47, 1), (160, .return_, 161, 0, 0)]
set_option maxRecDepth 20000 in
/-- 67: StoneHome$Reader.judge(I)V -/
def at_X4_judge : List (Nat × am_I) := [(0, .aload_n 0, 1, 0, 0), (1, .getfield 33, 4, 4, 8), (4, .ifCond .ne 26, 7, 30, 0), (7, .aload_n 0, 8, 0, 0), (8, .getfield 39, 11, 4, 10), (11, .ifCond .eq 19, 14, 30, 0), (14, .aload_n 0, 15, 0, 0), (15, .aload_n 0, 16, 0, 0),
  (16, .getfield 39, 19, 4, 10), (19, .putfield 33, 22, 4, 64), (22, .aload_n 0, 23, 0, 0), (23, .aload_n 0, 24, 0, 0), (24, .getfield 42, 27, 4, 11), (27, .putfield 36, 30, 4, 72), (30, .aload_n 0, 31, 0, 0), (31, .getfield 33, 34, 4, 8),
  (34, .ifCond .ne 24, 37, 58, 0), (37, .aload_n 0, 38, 0, 0), (38, .getfield 52, 41, 4, 1), (41, .invokevirtual 74, 44, 92, 0), (44, .ifCond .ne 14, 47, 58, 0), (47, .aload_n 0, 48, 0, 0), (48, .bipush 7, 50, 0, 0), (50, .putfield 33, 53, 4, 64),
  (53, .aload_n 0, 54, 0, 0), (54, .iload_n 1, 55, 1, 0), (55, .putfield 36, 58, 4, 72), (58, .return_, 59, 0, 0)]
set_option maxRecDepth 20000 in
/-- 68: StoneHome$Reader.placeOfFault()I -/
def at_X4_placeOfFault : List (Nat × am_I) := [(0, .aload_n 0, 1, 0, 0), (1, .getfield 36, 4, 4, 9), (4, .ireturn, 5, 0, 0)]
set_option maxRecDepth 20000 in
/-- 69: StoneHome$Scratches.<init>()V -/
def at_X5_init : List (Nat × am_I) := [(0, .aload_n 0, 1, 0, 0), (1, .invokespecial 3, 4, 999, 0), (4, .aload_n 0, 5, 0, 0), (5, .iconst 5, 6, 0, 0), (6, .newarray .int, 8, 0, 0), (8, .putfield 9, 11, 5, 6), (11, .aload_n 0, 12, 0, 0), (12, .iconst 0, 13, 0, 0),
  (13, .putfield 15, 16, 5, 8), (16, .aload_n 0, 17, 0, 0), (17, .sipush 180, 20, 0, 0), (20, .newarray .int, 22, 0, 0), (22, .putfield 19, 25, 5, 22), (25, .aload_n 0, 26, 0, 0), (26, .iconst 0, 27, 0, 0), (27, .putfield 22, 30, 5, 24),
  (30, .aload_n 0, 31, 0, 0), (31, .iconst 0, 32, 0, 0), (32, .putfield 25, 35, 5, 32), (35, .aload_n 0, 36, 0, 0), (36, .iconst 3, 37, 0, 0), (37, .newarray .int, 39, 0, 0), (39, .putfield 28, 42, 5, 46), (42, .aload_n 0, 43, 0, 0),
  (43, .iconst 3, 44, 0, 0), (44, .newarray .int, 46, 0, 0), (46, .putfield 31, 49, 5, 54), (49, .return_, 50, 0, 0)]
set_option maxRecDepth 20000 in
/-- 70: StoneHome$Scratches.clear()I -/
def at_X5_clear : List (Nat × am_I) := [(0, .aload_n 0, 1, 0, 0), (1, .getfield 15, 4, 5, 1), (4, .istore_n 1, 5, 1, 0), (5, .aload_n 0, 6, 0, 0), (6, .iconst 0, 7, 0, 0), (7, .putfield 15, 10, 5, 8), (10, .iload_n 1, 11, 1, 0), (11, .ireturn, 12, 0, 0)]
set_option maxRecDepth 20000 in
/-- 71: StoneHome$Scratches.add(I)I -/
def at_X5_add : List (Nat × am_I) := [(0, .aload_n 0, 1, 0, 0), (1, .getfield 15, 4, 5, 1), (4, .iconst 5, 5, 0, 0), (5, .if_icmp .lt 5, 8, 10, 0), (8, .iconst (-1), 9, 0, 0), (9, .ireturn, 10, 0, 0), (10, .aload_n 0, 11, 0, 0), (11, .getfield 9, 14, 5, 0),
  (14, .aload_n 0, 15, 0, 0), (15, .getfield 15, 18, 5, 1), (18, .iload_n 1, 19, 1, 0), (19, .iastore, 20, 0, 0), (20, .aload_n 0, 21, 0, 0), (21, .dup, 22, 0, 0), (22, .getfield 15, 25, 5, 1), (25, .iconst 1, 26, 0, 0),
  (26, .iadd, 27, 0, 0), (27, .putfield 15, 30, 5, 8), (30, .aload_n 0, 31, 0, 0), (31, .getfield 15, 34, 5, 1), (34, .iconst 1, 35, 0, 0), (35, .isub, 36, 0, 0), (36, .ireturn, 37, 0, 0)]
set_option maxRecDepth 20000 in
/-- 72: StoneHome$Scratches.knows(I)Z -/
def at_X5_knows : List (Nat × am_I) := [(0, .iload_n 1, 1, 1, 0), (1, .ifCond .lt 15, 4, 16, 0), (4, .iload_n 1, 5, 1, 0), (5, .aload_n 0, 6, 0, 0), (6, .getfield 15, 9, 5, 1), (9, .if_icmp .gt 7, 12, 16, 0), (12, .iconst 1, 13, 0, 0), (13, .goto 4, 16, 17, 0),
  (16, .iconst 0, 17, 0, 0), (17, .ireturn, 18, 0, 0)]
set_option maxRecDepth 20000 in
/-- 73: StoneHome$Scratches.weigh(LStoneHome$Street;I)V -/
def at_X5_weigh : List (Nat × am_I) := [(0, .aload_n 0, 1, 0, 0), (1, .aload_n 1, 2, 1, 0), (2, .getfield 34, 5, 7, 4), (5, .putfield 22, 8, 5, 24), (8, .aload_n 0, 9, 0, 0), (9, .aload_n 1, 10, 1, 0), (10, .invokevirtual 37, 13, 87, 0), (13, .iconst 3, 14, 0, 0),
  (14, .irem, 15, 0, 0), (15, .putfield 25, 18, 5, 32), (18, .aload_n 0, 19, 0, 0), (19, .getfield 19, 22, 5, 2), (22, .iconst 0, 23, 0, 0), (23, .invokestatic 41, 26, 293, 2), (26, .iconst 0, 27, 0, 0), (27, .istore_n 3, 28, 3, 0),
  (28, .iload_n 3, 29, 3, 0), (29, .iload_n 2, 30, 2, 0), (30, .if_icmp .ge 76, 33, 106, 0), (33, .iload_n 3, 34, 3, 0), (34, .iconst 5, 35, 0, 0), (35, .if_icmp .ge 71, 38, 106, 0), (38, .iload_n 3, 39, 3, 0), (39, .ifCond .ne 12, 42, 51, 0),
  (42, .aload_n 1, 43, 1, 0), (43, .invokevirtual 37, 46, 87, 0), (46, .iconst 3, 47, 0, 0), (47, .idiv, 48, 0, 0), (48, .goto 11, 51, 59, 0), (51, .aload_n 0, 52, 0, 0), (52, .getfield 9, 55, 5, 0), (55, .iload_n 3, 56, 3, 0),
  (56, .iconst 1, 57, 0, 0), (57, .isub, 58, 0, 0), (58, .iaload, 59, 0, 0), (59, .istore 4, 61, 4, 0), (61, .iconst 0, 62, 0, 0), (62, .istore 5, 64, 5, 0), (64, .iload 5, 66, 5, 0), (66, .aload_n 0, 67, 0, 0),
  (67, .getfield 22, 70, 5, 3), (70, .if_icmp .ge 30, 73, 100, 0), (73, .aload_n 1, 74, 1, 0), (74, .iload 4, 76, 4, 0), (76, .iload 5, 78, 5, 0), (78, .invokevirtual 47, 81, 97, 2), (81, .ifCond .eq 13, 84, 94, 0), (84, .aload_n 0, 85, 0, 0),
  (85, .aload_n 1, 86, 1, 0), (86, .iload_n 3, 87, 3, 0), (87, .iload 4, 89, 4, 0), (89, .iload 5, 91, 5, 0), (91, .invokevirtual 51, 94, 74, 4), (94, .iinc 5 1, 97, 5, 0), (97, .goto (-33), 100, 64, 0), (100, .iinc 3 1, 103, 3, 0),
  (103, .goto (-75), 106, 28, 0), (106, .return_, 107, 0, 0)]
set_option maxRecDepth 20000 in
/-- 74: StoneHome$Scratches.weighKick(LStoneHome$Street;III)V -/
def at_X5_weighKick : List (Nat × am_I) := [(0, .aload_n 1, 1, 1, 0), (1, .iload 4, 3, 4, 0), (3, .invokevirtual 55, 6, 102, 1), (6, .istore 5, 8, 5, 0), (8, .iconst 0, 9, 0, 0), (9, .istore 6, 11, 6, 0), (11, .iload 6, 13, 6, 0), (13, .aload_n 1, 14, 1, 0),
  (14, .getfield 59, 17, 7, 3), (17, .if_icmp .ge 99, 20, 116, 0), (20, .aload_n 1, 21, 1, 0), (21, .iload 4, 23, 4, 0), (23, .invokevirtual 62, 26, 101, 1), (26, .istore 7, 28, 7, 0), (28, .iload 7, 30, 7, 0), (30, .iload 5, 32, 5, 0),
  (32, .if_icmp .ge 78, 35, 110, 0), (35, .aload_n 1, 36, 1, 0), (36, .iload_n 3, 37, 3, 0), (37, .iload 6, 39, 6, 0), (39, .invokestatic 65, 42, 131, 2), (42, .iload 7, 44, 7, 0), (44, .iload_n 2, 45, 2, 0), (45, .aload_n 1, 46, 1, 0),
  (46, .getfield 69, 49, 7, 14), (49, .imul, 50, 0, 0), (50, .invokevirtual 72, 53, 104, 3), (53, .istore 8, 55, 8, 0), (55, .iload 8, 57, 8, 0), (57, .iconst (-1), 58, 0, 0), (58, .if_icmp .eq 46, 61, 104, 0), (61, .iload 8, 63, 8, 0),
  (63, .iconst 3, 64, 0, 0), (64, .idiv, 65, 0, 0), (65, .aload_n 0, 66, 0, 0), (66, .getfield 9, 69, 5, 0), (69, .iload_n 2, 70, 2, 0), (70, .iaload, 71, 0, 0), (71, .if_icmp .ne 33, 74, 104, 0), (74, .iload_n 2, 75, 2, 0),
  (75, .iload 4, 77, 4, 0), (77, .iload 6, 79, 6, 0), (79, .iload 8, 81, 8, 0), (81, .iconst 3, 82, 0, 0), (82, .irem, 83, 0, 0), (83, .invokestatic 76, 86, 75, 4), (86, .istore 9, 88, 9, 0), (88, .aload_n 0, 89, 0, 0),
  (89, .getfield 19, 92, 5, 2), (92, .iload 9, 94, 9, 0), (94, .dup2, 95, 0, 0), (95, .iaload, 96, 0, 0), (96, .aload_n 1, 97, 1, 0), (97, .iload 7, 99, 7, 0), (99, .invokevirtual 80, 102, 103, 1), (102, .iadd, 103, 0, 0),
  (103, .iastore, 104, 0, 0), (104, .iinc 7 1, 107, 7, 0), (107, .goto (-79), 110, 28, 0), (110, .iinc 6 1, 113, 6, 0), (113, .goto (-102), 116, 11, 0), (116, .return_, 117, 0, 0)]
set_option maxRecDepth 20000 in
/-- 75: StoneHome$Scratches.placeFor(IIII)I -/
def at_X5_placeFor : List (Nat × am_I) := [(0, .iload_n 0, 1, 0, 0), (1, .iconst 4, 2, 0, 0), (2, .imul, 3, 0, 0), (3, .iload_n 1, 4, 1, 0), (4, .iadd, 5, 0, 0), (5, .bipush 9, 7, 0, 0), (7, .imul, 8, 0, 0), (8, .iload_n 2, 9, 2, 0),
  (9, .iconst 3, 10, 0, 0), (10, .imul, 11, 0, 0), (11, .iadd, 12, 0, 0), (12, .iload_n 3, 13, 3, 0), (13, .iadd, 14, 0, 0), (14, .ireturn, 15, 0, 0)]
set_option maxRecDepth 20000 in
/-- 76: StoneHome$Scratches.howMany(I)I -/
def at_X5_howMany : List (Nat × am_I) := [(0, .iconst 0, 1, 0, 0), (1, .istore_n 2, 2, 2, 0), (2, .iconst 0, 3, 0, 0), (3, .istore_n 3, 4, 3, 0), (4, .iload_n 3, 5, 3, 0), (5, .iconst 1, 6, 0, 0), (6, .iconst 2, 7, 0, 0), (7, .iload_n 1, 8, 1, 0),
  (8, .imul, 9, 0, 0), (9, .ishl, 10, 0, 0), (10, .if_icmp .ge 21, 13, 31, 0), (13, .aload_n 0, 14, 0, 0), (14, .iload_n 1, 15, 1, 0), (15, .iload_n 3, 16, 3, 0), (16, .invokevirtual 83, 19, 77, 2), (19, .ifCond .le 6, 22, 25, 0),
  (22, .iinc 2 1, 25, 2, 0), (25, .iinc 3 1, 28, 3, 0), (28, .goto (-24), 31, 4, 0), (31, .iload_n 2, 32, 2, 0), (32, .ireturn, 33, 0, 0)]
set_option maxRecDepth 20000 in
/-- 77: StoneHome$Scratches.weight(II)I -/
def at_X5_weight : List (Nat × am_I) := [(0, .aload_n 0, 1, 0, 0), (1, .getfield 28, 4, 5, 5), (4, .iconst 0, 5, 0, 0), (5, .invokestatic 41, 8, 293, 2), (8, .aload_n 0, 9, 0, 0), (9, .getfield 28, 12, 5, 5), (12, .aload_n 0, 13, 0, 0), (13, .getfield 25, 16, 5, 4),
  (16, .iconst 1, 17, 0, 0), (17, .iastore, 18, 0, 0), (18, .iconst 1, 19, 0, 0), (19, .istore_n 3, 20, 3, 0), (20, .iconst 0, 21, 0, 0), (21, .istore 4, 23, 4, 0), (23, .iload 4, 25, 4, 0), (25, .iload_n 1, 26, 1, 0),
  (26, .if_icmp .ge 55, 29, 81, 0), (29, .iload 4, 31, 4, 0), (31, .iconst 5, 32, 0, 0), (32, .if_icmp .ge 49, 35, 81, 0), (35, .iload_n 3, 36, 3, 0), (36, .ifCond .le 45, 39, 81, 0), (39, .iload_n 2, 40, 2, 0), (40, .iconst 2, 41, 0, 0),
  (41, .iload_n 1, 42, 1, 0), (42, .iconst 1, 43, 0, 0), (43, .isub, 44, 0, 0), (44, .iload 4, 46, 4, 0), (46, .isub, 47, 0, 0), (47, .imul, 48, 0, 0), (48, .ishr, 49, 0, 0), (49, .iconst 3, 50, 0, 0),
  (50, .iand, 51, 0, 0), (51, .istore 5, 53, 5, 0), (53, .iload 5, 55, 5, 0), (55, .aload_n 0, 56, 0, 0), (56, .getfield 22, 59, 5, 3), (59, .if_icmp .ge 14, 62, 73, 0), (62, .aload_n 0, 63, 0, 0), (63, .iload 4, 65, 4, 0),
  (65, .iload 5, 67, 5, 0), (67, .invokevirtual 86, 70, 78, 2), (70, .goto 4, 73, 74, 0), (73, .iconst 0, 74, 0, 0), (74, .istore_n 3, 75, 3, 0), (75, .iinc 4 1, 78, 4, 0), (78, .goto (-55), 81, 23, 0), (81, .iload_n 3, 82, 3, 0),
  (82, .ireturn, 83, 0, 0)]
set_option maxRecDepth 20000 in
/-- 78: StoneHome$Scratches.pass(II)I -/
def at_X5_pass : List (Nat × am_I) := [(0, .iconst 0, 1, 0, 0), (1, .istore_n 3, 2, 3, 0), (2, .aload_n 0, 3, 0, 0), (3, .getfield 31, 6, 5, 6), (6, .iconst 0, 7, 0, 0), (7, .invokestatic 41, 10, 293, 2), (10, .iconst 0, 11, 0, 0), (11, .istore 4, 13, 4, 0),
  (13, .iload 4, 15, 4, 0), (15, .iconst 3, 16, 0, 0), (16, .if_icmp .ge 65, 19, 81, 0), (19, .iconst 0, 20, 0, 0), (20, .istore 5, 22, 5, 0), (22, .iload 5, 24, 5, 0), (24, .iconst 3, 25, 0, 0), (25, .if_icmp .ge 50, 28, 75, 0),
  (28, .aload_n 0, 29, 0, 0), (29, .getfield 28, 32, 5, 5), (32, .iload 4, 34, 4, 0), (34, .iaload, 35, 0, 0), (35, .aload_n 0, 36, 0, 0), (36, .getfield 19, 39, 5, 2), (39, .iload_n 1, 40, 1, 0), (40, .iload_n 2, 41, 2, 0),
  (41, .iload 4, 43, 4, 0), (43, .iload 5, 45, 5, 0), (45, .invokestatic 76, 48, 75, 4), (48, .iaload, 49, 0, 0), (49, .imul, 50, 0, 0), (50, .istore 6, 52, 6, 0), (52, .aload_n 0, 53, 0, 0), (53, .getfield 31, 56, 5, 6),
  (56, .iload 5, 58, 5, 0), (58, .dup2, 59, 0, 0), (59, .iaload, 60, 0, 0), (60, .iload 6, 62, 6, 0), (62, .iadd, 63, 0, 0), (63, .iastore, 64, 0, 0), (64, .iload_n 3, 65, 3, 0), (65, .iload 6, 67, 6, 0),
  (67, .iadd, 68, 0, 0), (68, .istore_n 3, 69, 3, 0), (69, .iinc 5 1, 72, 5, 0), (72, .goto (-50), 75, 22, 0), (75, .iinc 4 1, 78, 4, 0), (78, .goto (-65), 81, 13, 0), (81, .aload_n 0, 82, 0, 0), (82, .getfield 31, 85, 5, 6),
  (85, .iconst 0, 86, 0, 0), (86, .aload_n 0, 87, 0, 0), (87, .getfield 28, 90, 5, 5), (90, .iconst 0, 91, 0, 0), (91, .iconst 3, 92, 0, 0), (92, .invokestatic 89, 95, 998, 5), (95, .iload_n 3, 96, 3, 0), (96, .ireturn, 97, 0, 0)]
set_option maxRecDepth 20000 in
/-- 79: StoneHome$Scratches.codeOf(II)I -/
def at_X5_codeOf : List (Nat × am_I) := [(0, .iconst 0, 1, 0, 0), (1, .istore_n 3, 2, 3, 0), (2, .iconst 0, 3, 0, 0), (3, .istore 4, 5, 4, 0), (5, .iload 4, 7, 4, 0), (7, .iconst 1, 8, 0, 0), (8, .iconst 2, 9, 0, 0), (9, .iload_n 1, 10, 1, 0),
  (10, .imul, 11, 0, 0), (11, .ishl, 12, 0, 0), (12, .if_icmp .ge 30, 15, 42, 0), (15, .aload_n 0, 16, 0, 0), (16, .iload_n 1, 17, 1, 0), (17, .iload 4, 19, 4, 0), (19, .invokevirtual 83, 22, 77, 2), (22, .ifCond .le 14, 25, 36, 0),
  (25, .iload_n 3, 26, 3, 0), (26, .iload_n 2, 27, 2, 0), (27, .if_icmp .ne 6, 30, 33, 0), (30, .iload 4, 32, 4, 0), (32, .ireturn, 33, 0, 0), (33, .iinc 3 1, 36, 3, 0), (36, .iinc 4 1, 39, 4, 0), (39, .goto (-34), 42, 5, 0),
  (42, .iconst (-1), 43, 0, 0), (43, .ireturn, 44, 0, 0)]
set_option maxRecDepth 20000 in
/-- 80: StoneHome$Stone.<init>()V -/
def at_X6_init : List (Nat × am_I) := [(0, .aload_n 0, 1, 0, 0), (1, .invokespecial 3, 4, 999, 0), (4, .aload_n 0, 5, 0, 0), (5, .iconst 0, 6, 0, 0), (6, .putfield 9, 9, 6, 0), (9, .aload_n 0, 10, 0, 0), (10, .iconst 0, 11, 0, 0), (11, .putfield 15, 14, 6, 8),
  (14, .aload_n 0, 15, 0, 0), (15, .iconst 0, 16, 0, 0), (16, .putfield 18, 19, 6, 16), (19, .aload_n 0, 20, 0, 0), (20, .iconst 0, 21, 0, 0), (21, .putfield 21, 24, 6, 24), (24, .aload_n 0, 25, 0, 0), (25, .iconst 0, 26, 0, 0),
  (26, .putfield 24, 29, 6, 32), (29, .aload_n 0, 30, 0, 0), (30, .iconst 0, 31, 0, 0), (31, .putfield 27, 34, 6, 40), (34, .aload_n 0, 35, 0, 0), (35, .iconst 0, 36, 0, 0), (36, .putfield 30, 39, 6, 48), (39, .aload_n 0, 40, 0, 0),
  (40, .iconst 0, 41, 0, 0), (41, .putfield 33, 44, 6, 57), (44, .return_, 45, 0, 0)]
set_option maxRecDepth 20000 in
/-- 81: StoneHome$Stone.beginOn(LStoneHome$Street;)V -/
def at_X6_beginOn : List (Nat × am_I) := [(0, .aload_n 1, 1, 1, 0), (1, .invokevirtual 41, 4, 87, 0), (4, .istore_n 2, 5, 2, 0), (5, .aload_n 0, 6, 0, 0), (6, .iload_n 2, 7, 2, 0), (7, .iconst 3, 8, 0, 0), (8, .idiv, 9, 0, 0), (9, .putfield 9, 12, 6, 0),
  (12, .aload_n 0, 13, 0, 0), (13, .iload_n 2, 14, 2, 0), (14, .iconst 3, 15, 0, 0), (15, .irem, 16, 0, 0), (16, .putfield 15, 19, 6, 8), (19, .aload_n 0, 20, 0, 0), (20, .aload_n 1, 21, 1, 0), (21, .getfield 47, 24, 7, 13),
  (24, .putfield 18, 27, 6, 16), (27, .aload_n 0, 28, 0, 0), (28, .iconst 0, 29, 0, 0), (29, .putfield 21, 32, 6, 24), (32, .aload_n 0, 33, 0, 0), (33, .iconst 0, 34, 0, 0), (34, .putfield 24, 37, 6, 32), (37, .aload_n 0, 38, 0, 0),
  (38, .iconst 0, 39, 0, 0), (39, .putfield 27, 42, 6, 40), (42, .aload_n 0, 43, 0, 0), (43, .aload_n 1, 44, 1, 0), (44, .aload_n 0, 45, 0, 0), (45, .getfield 9, 48, 6, 0), (48, .invokevirtual 48, 51, 88, 1), (51, .bipush 6, 53, 0, 0),
  (53, .if_icmp .ne 7, 56, 60, 0), (56, .iconst 1, 57, 0, 0), (57, .goto 4, 60, 61, 0), (60, .iconst 0, 61, 0, 0), (61, .putfield 30, 64, 6, 48), (64, .return_, 65, 0, 0)]
set_option maxRecDepth 20000 in
/-- 82: StoneHome$Stone.copyFrom(LStoneHome$Stone;)V -/
def at_X6_copyFrom : List (Nat × am_I) := [(0, .aload_n 0, 1, 0, 0), (1, .aload_n 1, 2, 1, 0), (2, .getfield 9, 5, 6, 0), (5, .putfield 9, 8, 6, 0), (8, .aload_n 0, 9, 0, 0), (9, .aload_n 1, 10, 1, 0), (10, .getfield 15, 13, 6, 1), (13, .putfield 15, 16, 6, 8),
  (16, .aload_n 0, 17, 0, 0), (17, .aload_n 1, 18, 1, 0), (18, .getfield 18, 21, 6, 2), (21, .putfield 18, 24, 6, 16), (24, .aload_n 0, 25, 0, 0), (25, .aload_n 1, 26, 1, 0), (26, .getfield 21, 29, 6, 3), (29, .putfield 21, 32, 6, 24),
  (32, .aload_n 0, 33, 0, 0), (33, .aload_n 1, 34, 1, 0), (34, .getfield 24, 37, 6, 4), (37, .putfield 24, 40, 6, 32), (40, .aload_n 0, 41, 0, 0), (41, .aload_n 1, 42, 1, 0), (42, .getfield 27, 45, 6, 5), (45, .putfield 27, 48, 6, 40),
  (48, .aload_n 0, 49, 0, 0), (49, .aload_n 1, 50, 1, 0), (50, .getfield 30, 53, 6, 6), (53, .putfield 30, 56, 6, 48), (56, .return_, 57, 0, 0)]
set_option maxRecDepth 20000 in
/-- 83: StoneHome$Stone.lie()I -/
def at_X6_lie : List (Nat × am_I) := [(0, .aload_n 0, 1, 0, 0), (1, .getfield 9, 4, 6, 0), (4, .aload_n 0, 5, 0, 0), (5, .getfield 15, 8, 6, 1), (8, .invokestatic 37, 11, 131, 2), (11, .ireturn, 12, 0, 0)]
set_option maxRecDepth 20000 in
/-- 84: StoneHome$Street.<init>()V -/
def at_X7_init : List (Nat × am_I) := [(0, .aload_n 0, 1, 0, 0), (1, .invokespecial 3, 4, 999, 0), (4, .aload_n 0, 5, 0, 0), (5, .iconst 0, 6, 0, 0), (6, .putfield 9, 9, 7, 0), (9, .aload_n 0, 10, 0, 0), (10, .iconst 0, 11, 0, 0), (11, .putfield 15, 14, 7, 8),
  (14, .aload_n 0, 15, 0, 0), (15, .bipush 32, 17, 0, 0), (17, .newarray .int, 19, 0, 0), (19, .putfield 18, 22, 7, 22), (22, .aload_n 0, 23, 0, 0), (23, .iconst 1, 24, 0, 0), (24, .putfield 22, 27, 7, 24), (27, .aload_n 0, 28, 0, 0),
  (28, .iconst 0, 29, 0, 0), (29, .putfield 25, 32, 7, 32), (32, .aload_n 0, 33, 0, 0), (33, .iconst 4, 34, 0, 0), (34, .newarray .int, 36, 0, 0), (36, .putfield 28, 39, 7, 46), (39, .aload_n 0, 40, 0, 0), (40, .bipush 25, 42, 0, 0),
  (42, .newarray .int, 44, 0, 0), (44, .putfield 31, 47, 7, 54), (47, .aload_n 0, 48, 0, 0), (48, .bipush 25, 50, 0, 0), (50, .newarray .int, 52, 0, 0), (52, .putfield 34, 55, 7, 62), (55, .aload_n 0, 56, 0, 0), (56, .bipush 25, 58, 0, 0),
  (58, .newarray .int, 60, 0, 0), (60, .putfield 37, 63, 7, 70), (63, .aload_n 0, 64, 0, 0), (64, .bipush 25, 66, 0, 0), (66, .newarray .int, 68, 0, 0), (68, .putfield 40, 71, 7, 78), (71, .aload_n 0, 72, 0, 0), (72, .new 43, 75, 1, 0),
  (75, .dup, 76, 0, 0), (76, .invokespecial 45, 79, 12, 0), (79, .putfield 46, 82, 7, 86), (82, .aload_n 0, 83, 0, 0), (83, .iconst 3, 84, 0, 0), (84, .newarray .int, 86, 0, 0), (86, .putfield 50, 89, 7, 94), (89, .aload_n 0, 90, 0, 0),
  (90, .iconst 3, 91, 0, 0), (91, .newarray .int, 93, 0, 0), (93, .putfield 53, 96, 7, 102), (96, .aload_n 0, 97, 0, 0), (97, .iconst 0, 98, 0, 0), (98, .putfield 56, 101, 7, 104), (101, .aload_n 0, 102, 0, 0), (102, .iconst 5, 103, 0, 0),
  (103, .putfield 59, 106, 7, 112), (106, .aload_n 0, 107, 0, 0), (107, .iconst 0, 108, 0, 0), (108, .putfield 62, 111, 7, 120), (111, .return_, 112, 0, 0)]
set_option maxRecDepth 20000 in
/-- 85: StoneHome$Street.layAhead()V -/
def at_X7_layAhead : List (Nat × am_I) := [(0, .aload_n 0, 1, 0, 0), (1, .invokevirtual 74, 4, 86, 0), (4, .aload_n 0, 5, 0, 0), (5, .iconst 2, 6, 0, 0), (6, .putfield 9, 9, 7, 0), (9, .aload_n 0, 10, 0, 0), (10, .iconst 1, 11, 0, 0), (11, .putfield 15, 14, 7, 8),
  (14, .aload_n 0, 15, 0, 0), (15, .getfield 18, 18, 7, 2), (18, .iconst 0, 19, 0, 0), (19, .iconst 0, 20, 0, 0), (20, .iastore, 21, 0, 0), (21, .aload_n 0, 22, 0, 0), (22, .getfield 18, 25, 7, 2), (25, .iconst 1, 26, 0, 0),
  (26, .bipush 6, 28, 0, 0), (28, .iastore, 29, 0, 0), (29, .aload_n 0, 30, 0, 0), (30, .iconst 1, 31, 0, 0), (31, .putfield 25, 34, 7, 32), (34, .aload_n 0, 35, 0, 0), (35, .getfield 28, 38, 7, 5), (38, .iconst 0, 39, 0, 0),
  (39, .iconst 1, 40, 0, 0), (40, .iastore, 41, 0, 0), (41, .aload_n 0, 42, 0, 0), (42, .getfield 31, 45, 7, 6), (45, .iconst 0, 46, 0, 0), (46, .bipush 6, 48, 0, 0), (48, .iastore, 49, 0, 0), (49, .aload_n 0, 50, 0, 0),
  (50, .getfield 34, 53, 7, 7), (53, .iconst 0, 54, 0, 0), (54, .iconst 1, 55, 0, 0), (55, .iastore, 56, 0, 0), (56, .return_, 57, 0, 0)]
set_option maxRecDepth 20000 in
/-- 86: StoneHome$Street.clear()V -/
def at_X7_clear : List (Nat × am_I) := [(0, .aload_n 0, 1, 0, 0), (1, .iconst 0, 2, 0, 0), (2, .putfield 9, 5, 7, 0), (5, .aload_n 0, 6, 0, 0), (6, .iconst 0, 7, 0, 0), (7, .putfield 15, 10, 7, 8), (10, .aload_n 0, 11, 0, 0), (11, .getfield 18, 14, 7, 2),
  (14, .iconst (-1), 15, 0, 0), (15, .invokestatic 65, 18, 293, 2), (18, .aload_n 0, 19, 0, 0), (19, .iconst 1, 20, 0, 0), (20, .putfield 22, 23, 7, 24), (23, .aload_n 0, 24, 0, 0), (24, .iconst 0, 25, 0, 0), (25, .putfield 25, 28, 7, 32),
  (28, .aload_n 0, 29, 0, 0), (29, .getfield 31, 32, 7, 6), (32, .bipush 24, 34, 0, 0), (34, .bipush 6, 36, 0, 0), (36, .iastore, 37, 0, 0), (37, .aload_n 0, 38, 0, 0), (38, .getfield 46, 41, 7, 10), (41, .invokevirtual 71, 44, 13, 0),
  (44, .aload_n 0, 45, 0, 0), (45, .getfield 50, 48, 7, 11), (48, .iconst 0, 49, 0, 0), (49, .invokestatic 65, 52, 293, 2), (52, .aload_n 0, 53, 0, 0), (53, .getfield 53, 56, 7, 12), (56, .iconst 0, 57, 0, 0), (57, .invokestatic 65, 60, 293, 2),
  (60, .aload_n 0, 61, 0, 0), (61, .iconst 0, 62, 0, 0), (62, .putfield 56, 65, 7, 104), (65, .aload_n 0, 66, 0, 0), (66, .iconst 5, 67, 0, 0), (67, .putfield 59, 70, 7, 112), (70, .aload_n 0, 71, 0, 0), (71, .iconst 0, 72, 0, 0),
  (72, .putfield 62, 75, 7, 120), (75, .return_, 76, 0, 0)]
set_option maxRecDepth 20000 in
/-- 87: StoneHome$Street.stoneLie()I -/
def at_X7_stoneLie : List (Nat × am_I) := [(0, .aload_n 0, 1, 0, 0), (1, .getfield 50, 4, 7, 11), (4, .iconst 0, 5, 0, 0), (5, .iaload, 6, 0, 0), (6, .aload_n 0, 7, 0, 0), (7, .getfield 50, 10, 7, 11), (10, .iconst 1, 11, 0, 0), (11, .iaload, 12, 0, 0),
  (12, .invokestatic 83, 15, 130, 2), (15, .aload_n 0, 16, 0, 0), (16, .getfield 50, 19, 7, 11), (19, .iconst 2, 20, 0, 0), (20, .iaload, 21, 0, 0), (21, .invokestatic 87, 24, 131, 2), (24, .ireturn, 25, 0, 0)]
set_option maxRecDepth 20000 in
/-- 88: StoneHome$Street.sortOf(I)I -/
def at_X7_sortOf : List (Nat × am_I) := [(0, .iload_n 1, 1, 1, 0), (1, .ifCond .lt 18, 4, 19, 0), (4, .iload_n 1, 5, 1, 0), (5, .bipush 32, 7, 0, 0), (7, .if_icmp .ge 12, 10, 19, 0), (10, .aload_n 0, 11, 0, 0), (11, .getfield 18, 14, 7, 2), (14, .iload_n 1, 15, 1, 0),
  (15, .iaload, 16, 0, 0), (16, .goto 4, 19, 20, 0), (19, .iconst (-1), 20, 0, 0), (20, .ireturn, 21, 0, 0)]
set_option maxRecDepth 20000 in
/-- 89: StoneHome$Street.canLie(I)Z -/
def at_X7_canLie : List (Nat × am_I) := [(0, .aload_n 0, 1, 0, 0), (1, .iload_n 1, 2, 1, 0), (2, .invokevirtual 75, 5, 88, 1), (5, .istore_n 2, 6, 2, 0), (6, .iload_n 2, 7, 2, 0), (7, .iconst (-1), 8, 0, 0), (8, .if_icmp .eq 17, 11, 25, 0), (11, .iload_n 2, 12, 2, 0),
  (12, .iconst 4, 13, 0, 0), (13, .if_icmp .eq 12, 16, 25, 0), (16, .iload_n 2, 17, 2, 0), (17, .iconst 5, 18, 0, 0), (18, .if_icmp .eq 7, 21, 25, 0), (21, .iconst 1, 22, 0, 0), (22, .goto 4, 25, 26, 0), (25, .iconst 0, 26, 0, 0),
  (26, .ireturn, 27, 0, 0)]
set_option maxRecDepth 20000 in
/-- 90: StoneHome$Street.isHomeLie(I)Z -/
def at_X7_isHomeLie : List (Nat × am_I) := [(0, .aload_n 0, 1, 0, 0), (1, .iload_n 1, 2, 1, 0), (2, .iconst 3, 3, 0, 0), (3, .idiv, 4, 0, 0), (4, .invokevirtual 75, 7, 88, 1), (7, .bipush 6, 9, 0, 0), (9, .if_icmp .ne 7, 12, 16, 0), (12, .iconst 1, 13, 0, 0),
  (13, .goto 4, 16, 17, 0), (16, .iconst 0, 17, 0, 0), (17, .ireturn, 18, 0, 0)]
set_option maxRecDepth 20000 in
/-- 91: StoneHome$Street.setSort(III)V -/
def at_X7_setSort : List (Nat × am_I) := [(0, .iload_n 1, 1, 1, 0), (1, .ifCond .lt 30, 4, 31, 0), (4, .iload_n 1, 5, 1, 0), (5, .bipush 8, 7, 0, 0), (7, .if_icmp .ge 24, 10, 31, 0), (10, .iload_n 2, 11, 2, 0), (11, .ifCond .lt 20, 14, 31, 0), (14, .iload_n 2, 15, 2, 0),
  (15, .iconst 4, 16, 0, 0), (16, .if_icmp .ge 15, 19, 31, 0), (19, .aload_n 0, 20, 0, 0), (20, .getfield 18, 23, 7, 2), (23, .iload_n 2, 24, 2, 0), (24, .bipush 8, 26, 0, 0), (26, .imul, 27, 0, 0), (27, .iload_n 1, 28, 1, 0),
  (28, .iadd, 29, 0, 0), (29, .iload_n 3, 30, 3, 0), (30, .iastore, 31, 0, 0), (31, .return_, 32, 0, 0)]
set_option maxRecDepth 20000 in
/-- 92: StoneHome$Street.isWhole()Z -/
def at_X7_isWhole : List (Nat × am_I) := [(0, .aload_n 0, 1, 0, 0), (1, .getfield 15, 4, 7, 1), (4, .ifCond .le 36, 7, 40, 0), (7, .aload_n 0, 8, 0, 0), (8, .getfield 25, 11, 7, 4), (11, .ifCond .le 29, 14, 40, 0), (14, .aload_n 0, 15, 0, 0), (15, .aload_n 0, 16, 0, 0),
  (16, .getfield 50, 19, 7, 11), (19, .invokevirtual 97, 22, 93, 1), (22, .ifCond .eq 18, 25, 40, 0), (25, .aload_n 0, 26, 0, 0), (26, .aload_n 0, 27, 0, 0), (27, .getfield 53, 30, 7, 12), (30, .invokevirtual 97, 33, 93, 1), (33, .ifCond .eq 7, 36, 40, 0),
  (36, .iconst 1, 37, 0, 0), (37, .goto 4, 40, 41, 0), (40, .iconst 0, 41, 0, 0), (41, .ireturn, 42, 0, 0)]
set_option maxRecDepth 20000 in
/-- 93: StoneHome$Street.isSpot([I)Z -/
def at_X7_isSpot : List (Nat × am_I) := [(0, .aload_n 1, 1, 1, 0), (1, .arraylength, 2, 0, 0), (2, .iconst 3, 3, 0, 0), (3, .if_icmp .lt 13, 6, 16, 0), (6, .aload_n 1, 7, 1, 0), (7, .iconst 2, 8, 0, 0), (8, .iaload, 9, 0, 0), (9, .aload_n 0, 10, 0, 0),
  (10, .getfield 22, 13, 7, 3), (13, .if_icmp .lt 5, 16, 18, 0), (16, .iconst 0, 17, 0, 0), (17, .ireturn, 18, 0, 0), (18, .aload_n 0, 19, 0, 0), (19, .aload_n 1, 20, 1, 0), (20, .iconst 0, 21, 0, 0), (21, .iaload, 22, 0, 0),
  (22, .aload_n 1, 23, 1, 0), (23, .iconst 1, 24, 0, 0), (24, .iaload, 25, 0, 0), (25, .invokevirtual 90, 28, 94, 2), (28, .iconst (-1), 29, 0, 0), (29, .if_icmp .eq 23, 32, 52, 0), (32, .aload_n 0, 33, 0, 0), (33, .aload_n 1, 34, 1, 0),
  (34, .iconst 0, 35, 0, 0), (35, .iaload, 36, 0, 0), (36, .aload_n 1, 37, 1, 0), (37, .iconst 1, 38, 0, 0), (38, .iaload, 39, 0, 0), (39, .invokestatic 83, 42, 130, 2), (42, .invokevirtual 93, 45, 89, 1), (45, .ifCond .eq 7, 48, 52, 0),
  (48, .iconst 1, 49, 0, 0), (49, .goto 4, 52, 53, 0), (52, .iconst 0, 53, 0, 0), (53, .ireturn, 54, 0, 0)]
set_option maxRecDepth 20000 in
/-- 94: StoneHome$Street.sortAt(II)I -/
def at_X7_sortAt : List (Nat × am_I) := [(0, .iload_n 1, 1, 1, 0), (1, .ifCond .lt 22, 4, 23, 0), (4, .iload_n 1, 5, 1, 0), (5, .bipush 8, 7, 0, 0), (7, .if_icmp .ge 16, 10, 23, 0), (10, .iload_n 2, 11, 2, 0), (11, .ifCond .lt 12, 14, 23, 0), (14, .iload_n 2, 15, 2, 0),
  (15, .iconst 4, 16, 0, 0), (16, .if_icmp .ge 7, 19, 23, 0), (19, .iconst 1, 20, 0, 0), (20, .goto 4, 23, 24, 0), (23, .iconst 0, 24, 0, 0), (24, .istore_n 3, 25, 3, 0), (25, .iload_n 3, 26, 3, 0), (26, .ifCond .eq 17, 29, 43, 0),
  (29, .aload_n 0, 30, 0, 0), (30, .getfield 18, 33, 7, 2), (33, .iload_n 2, 34, 2, 0), (34, .bipush 8, 36, 0, 0), (36, .imul, 37, 0, 0), (37, .iload_n 1, 38, 1, 0), (38, .iadd, 39, 0, 0), (39, .iaload, 40, 0, 0),
  (40, .goto 4, 43, 44, 0), (43, .iconst (-1), 44, 0, 0), (44, .ireturn, 45, 0, 0)]
set_option maxRecDepth 20000 in
/-- 95: StoneHome$Street.carsCome(II)Z -/
def at_X7_carsCome : List (Nat × am_I) := [(0, .aload_n 0, 1, 0, 0), (1, .getfield 46, 4, 7, 10), (4, .iload_n 1, 5, 1, 0), (5, .invokestatic 101, 8, 138, 1), (8, .iload_n 1, 9, 1, 0), (9, .invokestatic 104, 12, 139, 1), (12, .iconst 0, 13, 0, 0), (13, .aload_n 0, 14, 0, 0),
  (14, .iload_n 1, 15, 1, 0), (15, .invokevirtual 75, 18, 88, 1), (18, .invokevirtual 107, 21, 22, 4), (21, .aload_n 0, 22, 0, 0), (22, .getfield 46, 25, 7, 10), (25, .iconst (-1), 26, 0, 0), (26, .iconst 0, 27, 0, 0), (27, .iload_n 2, 28, 2, 0),
  (28, .invokevirtual 111, 31, 23, 3), (31, .aload_n 0, 32, 0, 0), (32, .getfield 46, 35, 7, 10), (35, .iconst 2, 36, 0, 0), (36, .invokevirtual 115, 39, 24, 1), (39, .ifCond .le 7, 42, 46, 0), (42, .iconst 1, 43, 0, 0), (43, .goto 4, 46, 47, 0),
  (46, .iconst 0, 47, 0, 0), (47, .ireturn, 48, 0, 0)]
set_option maxRecDepth 20000 in
/-- 96: StoneHome$Street.hasKick(I)Z -/
def at_X7_hasKick : List (Nat × am_I) := [(0, .iload_n 1, 1, 1, 0), (1, .ifCond .lt 15, 4, 16, 0), (4, .iload_n 1, 5, 1, 0), (5, .aload_n 0, 6, 0, 0), (6, .getfield 25, 9, 7, 4), (9, .if_icmp .ge 7, 12, 16, 0), (12, .iconst 1, 13, 0, 0), (13, .goto 4, 16, 17, 0),
  (16, .iconst 0, 17, 0, 0), (17, .ireturn, 18, 0, 0)]
set_option maxRecDepth 20000 in
/-- 97: StoneHome$Street.canKickFrom(II)Z -/
def at_X7_canKickFrom : List (Nat × am_I) := [(0, .iload_n 2, 1, 2, 0), (1, .ifCond .lt 31, 4, 32, 0), (4, .iload_n 2, 5, 2, 0), (5, .aload_n 0, 6, 0, 0), (6, .getfield 25, 9, 7, 4), (9, .if_icmp .ge 23, 12, 32, 0), (12, .iload_n 1, 13, 1, 0), (13, .ifCond .lt 19, 16, 32, 0),
  (16, .iload_n 1, 17, 1, 0), (17, .bipush 32, 19, 0, 0), (19, .if_icmp .ge 13, 22, 32, 0), (22, .aload_n 0, 23, 0, 0), (23, .getfield 18, 26, 7, 2), (26, .iload_n 1, 27, 1, 0), (27, .iaload, 28, 0, 0), (28, .iconst (-1), 29, 0, 0),
  (29, .if_icmp .ne 5, 32, 34, 0), (32, .iconst 0, 33, 0, 0), (33, .ireturn, 34, 0, 0), (34, .aload_n 0, 35, 0, 0), (35, .getfield 18, 38, 7, 2), (38, .iload_n 1, 39, 1, 0), (39, .iaload, 40, 0, 0), (40, .iconst 3, 41, 0, 0),
  (41, .if_icmp .lt 23, 44, 64, 0), (44, .aload_n 0, 45, 0, 0), (45, .getfield 18, 48, 7, 2), (48, .iload_n 1, 49, 1, 0), (49, .iaload, 50, 0, 0), (50, .iconst 3, 51, 0, 0), (51, .if_icmp .ne 17, 54, 68, 0), (54, .aload_n 0, 55, 0, 0),
  (55, .getfield 28, 58, 7, 5), (58, .iload_n 2, 59, 2, 0), (59, .iaload, 60, 0, 0), (60, .iconst 1, 61, 0, 0), (61, .if_icmp .ne 7, 64, 68, 0), (64, .iconst 1, 65, 0, 0), (65, .goto 4, 68, 69, 0), (68, .iconst 0, 69, 0, 0),
  (69, .ireturn, 70, 0, 0)]
set_option maxRecDepth 20000 in
/-- 98: StoneHome$Street.drawnWay(II)I -/
def at_X7_drawnWay : List (Nat × am_I) := [(0, .aload_n 0, 1, 0, 0), (1, .iload_n 2, 2, 2, 0), (2, .invokevirtual 132, 5, 99, 1), (5, .istore_n 3, 6, 3, 0), (6, .iconst 0, 7, 0, 0), (7, .istore 4, 9, 4, 0), (9, .aload_n 0, 10, 0, 0), (10, .iload_n 1, 11, 1, 0),
  (11, .invokevirtual 135, 14, 101, 1), (14, .istore 5, 16, 5, 0), (16, .aload_n 0, 17, 0, 0), (17, .iload_n 1, 18, 1, 0), (18, .invokevirtual 138, 21, 102, 1), (21, .istore 6, 23, 6, 0), (23, .iload 5, 25, 5, 0), (25, .istore 7, 27, 7, 0),
  (27, .iload 7, 29, 7, 0), (29, .iload 6, 31, 6, 0), (31, .if_icmp .ge 29, 34, 60, 0), (34, .iload 4, 36, 4, 0), (36, .aload_n 0, 37, 0, 0), (37, .iload 7, 39, 7, 0), (39, .invokevirtual 141, 42, 103, 1), (42, .iadd, 43, 0, 0),
  (43, .istore 4, 45, 4, 0), (45, .iload 4, 47, 4, 0), (47, .iload_n 3, 48, 3, 0), (48, .if_icmp .le 6, 51, 54, 0), (51, .iload 7, 53, 7, 0), (53, .ireturn, 54, 0, 0), (54, .iinc 7 1, 57, 7, 0), (57, .goto (-30), 60, 27, 0),
  (60, .iload 5, 62, 5, 0), (62, .ireturn, 63, 0, 0)]
set_option maxRecDepth 20000 in
/-- 99: StoneHome$Street.lotOfSix(I)I -/
def at_X7_lotOfSix : List (Nat × am_I) := [(0, .aload_n 0, 1, 0, 0), (1, .getfield 62, 4, 7, 15), (4, .bipush 55, 6, 0, 0), (6, .invokestatic 144, 9, 100, 2), (9, .iload_n 1, 10, 1, 0), (10, .invokestatic 144, 13, 100, 2), (13, .istore_n 2, 14, 2, 0), (14, .iload_n 2, 15, 2, 0),
  (15, .iconst 1, 16, 0, 0), (16, .iushr, 17, 0, 0), (17, .bipush 6, 19, 0, 0), (19, .irem, 20, 0, 0), (20, .ireturn, 21, 0, 0)]
set_option maxRecDepth 20000 in
/-- 100: StoneHome$Street.mix(II)I -/
def at_X7_mix : List (Nat × am_I) := [(0, .iload_n 0, 1, 0, 0), (1, .iload_n 1, 2, 1, 0), (2, .ixor, 3, 0, 0), (3, .ldc 147, 5, 0, 1103515245), (5, .imul, 6, 0, 0), (6, .sipush 12345, 9, 0, 0), (9, .iadd, 10, 0, 0), (10, .istore_n 2, 11, 2, 0),
  (11, .iload_n 2, 12, 2, 0), (12, .iload_n 2, 13, 2, 0), (13, .bipush 15, 15, 0, 0), (15, .iushr, 16, 0, 0), (16, .ixor, 17, 0, 0), (17, .ireturn, 18, 0, 0)]
set_option maxRecDepth 20000 in
/-- 101: StoneHome$Street.firstWay(I)I -/
def at_X7_firstWay : List (Nat × am_I) := [(0, .iload_n 1, 1, 1, 0), (1, .aload_n 0, 2, 0, 0), (2, .getfield 25, 5, 7, 4), (5, .if_icmp .ne 8, 8, 13, 0), (8, .bipush 24, 10, 0, 0), (10, .goto 7, 13, 17, 0), (13, .iload_n 1, 14, 1, 0), (14, .bipush 6, 16, 0, 0),
  (16, .imul, 17, 0, 0), (17, .ireturn, 18, 0, 0)]
set_option maxRecDepth 20000 in
/-- 102: StoneHome$Street.endOfWays(I)I -/
def at_X7_endOfWays : List (Nat × am_I) := [(0, .iload_n 1, 1, 1, 0), (1, .ifCond .lt 11, 4, 12, 0), (4, .iload_n 1, 5, 1, 0), (5, .aload_n 0, 6, 0, 0), (6, .getfield 25, 9, 7, 4), (9, .if_icmp .lt 6, 12, 15, 0), (12, .bipush 25, 14, 0, 0), (14, .ireturn, 15, 0, 0),
  (15, .iload_n 1, 16, 1, 0), (16, .bipush 6, 18, 0, 0), (18, .imul, 19, 0, 0), (19, .aload_n 0, 20, 0, 0), (20, .getfield 28, 23, 7, 5), (23, .iload_n 1, 24, 1, 0), (24, .iaload, 25, 0, 0), (25, .iadd, 26, 0, 0),
  (26, .ireturn, 27, 0, 0)]
set_option maxRecDepth 20000 in
/-- 103: StoneHome$Street.sixthsOf(I)I -/
def at_X7_sixthsOf : List (Nat × am_I) := [(0, .iload_n 1, 1, 1, 0), (1, .ifCond .lt 18, 4, 19, 0), (4, .iload_n 1, 5, 1, 0), (5, .bipush 25, 7, 0, 0), (7, .if_icmp .ge 12, 10, 19, 0), (10, .aload_n 0, 11, 0, 0), (11, .getfield 31, 14, 7, 6), (14, .iload_n 1, 15, 1, 0),
  (15, .iaload, 16, 0, 0), (16, .goto 4, 19, 20, 0), (19, .iconst 0, 20, 0, 0), (20, .ireturn, 21, 0, 0)]
set_option maxRecDepth 20000 in
/-- 104: StoneHome$Street.landing(III)I -/
def at_X7_landing : List (Nat × am_I) := [(0, .iload_n 1, 1, 1, 0), (1, .iconst 3, 2, 0, 0), (2, .idiv, 3, 0, 0), (3, .istore 4, 5, 4, 0), (5, .iload_n 2, 6, 2, 0), (6, .bipush 24, 8, 0, 0), (8, .if_icmp .ne 24, 11, 32, 0), (11, .aload_n 0, 12, 0, 0),
  (12, .iload 4, 14, 4, 0), (14, .iload_n 3, 15, 3, 0), (15, .aload_n 0, 16, 0, 0), (16, .getfield 59, 19, 7, 14), (19, .iadd, 20, 0, 0), (20, .invokevirtual 118, 23, 95, 2), (23, .ifCond .eq 7, 26, 30, 0), (26, .iconst (-1), 27, 0, 0),
  (27, .goto 4, 30, 31, 0), (30, .iload_n 1, 31, 1, 0), (31, .ireturn, 32, 0, 0), (32, .iload_n 2, 33, 2, 0), (33, .ifCond .lt 17, 36, 50, 0), (36, .iload_n 2, 37, 2, 0), (37, .bipush 24, 39, 0, 0), (39, .if_icmp .ge 11, 42, 50, 0),
  (42, .aload_n 0, 43, 0, 0), (43, .getfield 22, 46, 7, 3), (46, .iconst 1, 47, 0, 0), (47, .if_icmp .ge 5, 50, 52, 0), (50, .iconst (-1), 51, 0, 0), (51, .ireturn, 52, 0, 0), (52, .iload_n 1, 53, 1, 0), (53, .iconst 3, 54, 0, 0),
  (54, .irem, 55, 0, 0), (55, .istore 5, 57, 5, 0), (57, .aload_n 0, 58, 0, 0), (58, .getfield 46, 61, 7, 10), (61, .iload 4, 63, 4, 0), (63, .invokestatic 101, 66, 138, 1), (66, .iload 4, 68, 4, 0), (68, .invokestatic 104, 71, 139, 1),
  (71, .iload 5, 73, 5, 0), (73, .aload_n 0, 74, 0, 0), (74, .iload 4, 76, 4, 0), (76, .invokevirtual 75, 79, 88, 1), (79, .invokevirtual 107, 82, 22, 4), (82, .aload_n 0, 83, 0, 0), (83, .getfield 46, 86, 7, 10), (86, .iload_n 2, 87, 2, 0),
  (87, .bipush 6, 89, 0, 0), (89, .idiv, 90, 0, 0), (90, .aload_n 0, 91, 0, 0), (91, .getfield 34, 94, 7, 7), (94, .iload_n 2, 95, 2, 0), (95, .iaload, 96, 0, 0), (96, .iload_n 3, 97, 3, 0), (97, .invokevirtual 111, 100, 23, 3),
  (100, .iload 4, 102, 4, 0), (102, .invokestatic 101, 105, 138, 1), (105, .aload_n 0, 106, 0, 0), (106, .getfield 34, 109, 7, 7), (109, .iload_n 2, 110, 2, 0), (110, .iaload, 111, 0, 0), (111, .iadd, 112, 0, 0), (112, .aload_n 0, 113, 0, 0),
  (113, .getfield 46, 116, 7, 10), (116, .iconst 1, 117, 0, 0), (117, .invokevirtual 115, 120, 24, 1), (120, .iconst 4, 121, 0, 0), (121, .invokestatic 121, 124, 145, 2), (124, .iadd, 125, 0, 0), (125, .istore 6, 127, 6, 0), (127, .iload 4, 129, 4, 0),
  (129, .invokestatic 104, 132, 139, 1), (132, .aload_n 0, 133, 0, 0), (133, .getfield 37, 136, 7, 8), (136, .iload_n 2, 137, 2, 0), (137, .iaload, 138, 0, 0), (138, .iadd, 139, 0, 0), (139, .aload_n 0, 140, 0, 0), (140, .getfield 46, 143, 7, 10),
  (143, .iconst 0, 144, 0, 0), (144, .invokevirtual 115, 147, 24, 1), (147, .iconst 2, 148, 0, 0), (148, .invokestatic 121, 151, 145, 2), (151, .iadd, 152, 0, 0), (152, .istore 7, 154, 7, 0), (154, .iload 5, 156, 5, 0), (156, .aload_n 0, 157, 0, 0),
  (157, .getfield 40, 160, 7, 9), (160, .iload_n 2, 161, 2, 0), (161, .iaload, 162, 0, 0), (162, .iadd, 163, 0, 0), (163, .aload_n 0, 164, 0, 0), (164, .getfield 22, 167, 7, 3), (167, .irem, 168, 0, 0), (168, .istore 8, 170, 8, 0),
  (170, .iconst 0, 171, 0, 0), (171, .aload_n 0, 172, 0, 0), (172, .getfield 9, 175, 7, 0), (175, .iconst 1, 176, 0, 0), (176, .isub, 177, 0, 0), (177, .iload 6, 179, 6, 0), (179, .invokestatic 124, 182, 997, 2), (182, .invokestatic 129, 185, 996, 2),
  (185, .istore 6, 187, 6, 0), (187, .aload_n 0, 188, 0, 0), (188, .iload 6, 190, 6, 0), (190, .iload 7, 192, 7, 0), (192, .invokevirtual 90, 195, 94, 2), (195, .istore 9, 197, 9, 0), (197, .iload 9, 199, 9, 0), (199, .iconst 5, 200, 0, 0),
  (200, .if_icmp .ne 11, 203, 211, 0), (203, .iload 4, 205, 4, 0), (205, .iload 8, 207, 8, 0), (207, .invokestatic 87, 210, 131, 2), (210, .ireturn, 211, 0, 0), (211, .iload 9, 213, 9, 0), (213, .iconst (-1), 214, 0, 0), (214, .if_icmp .eq 9, 217, 223, 0),
  (217, .iload 9, 219, 9, 0), (219, .iconst 4, 220, 0, 0), (220, .if_icmp .ne 5, 223, 225, 0), (223, .iconst (-1), 224, 0, 0), (224, .ireturn, 225, 0, 0), (225, .iload 6, 227, 6, 0), (227, .iload 7, 229, 7, 0), (229, .invokestatic 83, 232, 130, 2),
  (232, .istore 10, 234, 10, 0), (234, .iload 9, 236, 9, 0), (236, .bipush 6, 238, 0, 0), (238, .if_icmp .eq 20, 241, 258, 0), (241, .aload_n 0, 242, 0, 0), (242, .iload 10, 244, 10, 0), (244, .iload_n 3, 245, 3, 0), (245, .aload_n 0, 246, 0, 0),
  (246, .getfield 59, 249, 7, 14), (249, .iadd, 250, 0, 0), (250, .invokevirtual 118, 253, 95, 2), (253, .ifCond .eq 5, 256, 258, 0), (256, .iconst (-1), 257, 0, 0), (257, .ireturn, 258, 0, 0), (258, .iload 10, 260, 10, 0), (260, .iload 8, 262, 8, 0),
  (262, .invokestatic 87, 265, 131, 2), (265, .ireturn, 266, 0, 0)]
set_option maxRecDepth 20000 in
/-- 105: StoneHome$Street.hasOutcome(II)Z -/
def at_X7_hasOutcome : List (Nat × am_I) := [(0, .iload_n 1, 1, 1, 0), (1, .ifCond .lt 29, 4, 30, 0), (4, .iload_n 1, 5, 1, 0), (5, .aload_n 0, 6, 0, 0), (6, .getfield 25, 9, 7, 4), (9, .if_icmp .ge 21, 12, 30, 0), (12, .iload_n 2, 13, 2, 0), (13, .ifCond .lt 17, 16, 30, 0),
  (16, .iload_n 2, 17, 2, 0), (17, .aload_n 0, 18, 0, 0), (18, .getfield 28, 21, 7, 5), (21, .iload_n 1, 22, 1, 0), (22, .iaload, 23, 0, 0), (23, .if_icmp .ge 7, 26, 30, 0), (26, .iconst 1, 27, 0, 0), (27, .goto 4, 30, 31, 0),
  (30, .iconst 0, 31, 0, 0), (31, .ireturn, 32, 0, 0)]
set_option maxRecDepth 20000 in
/-- 106: StoneHome$Street.canDoFrom(II)Z -/
def at_X7_canDoFrom : List (Nat × am_I) := [(0, .iload_n 2, 1, 2, 0), (1, .aload_n 0, 2, 0, 0), (2, .getfield 25, 5, 7, 4), (5, .if_icmp .eq 12, 8, 17, 0), (8, .aload_n 0, 9, 0, 0), (9, .iload_n 1, 10, 1, 0), (10, .iload_n 2, 11, 2, 0), (11, .invokevirtual 79, 14, 97, 2),
  (14, .ifCond .eq 7, 17, 21, 0), (17, .iconst 1, 18, 0, 0), (18, .goto 4, 21, 22, 0), (21, .iconst 0, 22, 0, 0), (22, .ireturn, 23, 0, 0)]
set_option maxRecDepth 20000 in
/-- 107: StoneHome$Street.friendLie()I -/
def at_X7_friendLie : List (Nat × am_I) := [(0, .aload_n 0, 1, 0, 0), (1, .getfield 53, 4, 7, 12), (4, .iconst 0, 5, 0, 0), (5, .iaload, 6, 0, 0), (6, .aload_n 0, 7, 0, 0), (7, .getfield 53, 10, 7, 12), (10, .iconst 1, 11, 0, 0), (11, .iaload, 12, 0, 0),
  (12, .invokestatic 83, 15, 130, 2), (15, .aload_n 0, 16, 0, 0), (16, .getfield 53, 19, 7, 12), (19, .iconst 2, 20, 0, 0), (20, .iaload, 21, 0, 0), (21, .invokestatic 87, 24, 131, 2), (24, .ireturn, 25, 0, 0)]
set_option maxRecDepth 20000 in
/-- 108: StoneHome$Street.homeSquares()I -/
def at_X7_homeSquares : List (Nat × am_I) := [(0, .iconst 0, 1, 0, 0), (1, .istore_n 1, 2, 1, 0), (2, .iconst 0, 3, 0, 0), (3, .istore_n 2, 4, 2, 0), (4, .iload_n 2, 5, 2, 0), (5, .bipush 32, 7, 0, 0), (7, .if_icmp .ge 22, 10, 29, 0), (10, .aload_n 0, 11, 0, 0),
  (11, .iload_n 2, 12, 2, 0), (12, .invokevirtual 75, 15, 88, 1), (15, .bipush 6, 17, 0, 0), (17, .if_icmp .ne 6, 20, 23, 0), (20, .iinc 1 1, 23, 1, 0), (23, .iinc 2 1, 26, 2, 0), (26, .goto (-22), 29, 4, 0), (29, .iload_n 1, 30, 1, 0),
  (30, .ireturn, 31, 0, 0)]
set_option maxRecDepth 20000 in
/-- 109: StoneHome$Street.allOutcomes()I -/
def at_X7_allOutcomes : List (Nat × am_I) := [(0, .iconst 0, 1, 0, 0), (1, .istore_n 1, 2, 1, 0), (2, .iconst 0, 3, 0, 0), (3, .istore_n 2, 4, 2, 0), (4, .iload_n 2, 5, 2, 0), (5, .aload_n 0, 6, 0, 0), (6, .getfield 25, 9, 7, 4), (9, .if_icmp .ge 23, 12, 32, 0),
  (12, .iload_n 2, 13, 2, 0), (13, .iconst 4, 14, 0, 0), (14, .if_icmp .ge 18, 17, 32, 0), (17, .iload_n 1, 18, 1, 0), (18, .aload_n 0, 19, 0, 0), (19, .getfield 28, 22, 7, 5), (22, .iload_n 2, 23, 2, 0), (23, .iaload, 24, 0, 0),
  (24, .iadd, 25, 0, 0), (25, .istore_n 1, 26, 1, 0), (26, .iinc 2 1, 29, 2, 0), (29, .goto (-25), 32, 4, 0), (32, .iload_n 1, 33, 1, 0), (33, .ireturn, 34, 0, 0)]
set_option maxRecDepth 20000 in
/-- 110: StoneHome$Table.<init>(LStoneHome$Street;)V -/
def at_X8_init : List (Nat × am_I) := [(0, .aload_n 0, 1, 0, 0), (1, .invokespecial 3, 4, 999, 0), (4, .aload_n 0, 5, 0, 0), (5, .bipush 16, 7, 0, 0), (7, .anewarray 11, 10, 5, 0), (10, .putfield 13, 13, 8, 14), (13, .aload_n 0, 14, 0, 0), (14, .bipush 16, 16, 0, 0),
  (16, .newarray .int, 18, 0, 0), (18, .putfield 17, 21, 8, 22), (21, .aload_n 0, 22, 0, 0), (22, .sipush 2400, 25, 0, 0), (25, .newarray .int, 27, 0, 0), (27, .putfield 20, 30, 8, 26), (30, .aload_n 0, 31, 0, 0), (31, .bipush 96, 33, 0, 0),
  (33, .newarray .int, 35, 0, 0), (35, .putfield 23, 38, 8, 38), (38, .aload_n 0, 39, 0, 0), (39, .iconst 0, 40, 0, 0), (40, .putfield 26, 43, 8, 40), (43, .aload_n 0, 44, 0, 0), (44, .iconst 0, 45, 0, 0), (45, .putfield 30, 48, 8, 48),
  (48, .aload_n 0, 49, 0, 0), (49, .aload_n 1, 50, 1, 0), (50, .putfield 33, 53, 8, 2), (53, .aload_n 0, 54, 0, 0), (54, .getfield 13, 57, 8, 1), (57, .iconst 0, 58, 0, 0), (58, .aload_n 0, 59, 0, 0), (59, .getfield 20, 62, 8, 3),
  (62, .aastore, 63, 0, 0), (63, .return_, 64, 0, 0)]
set_option maxRecDepth 20000 in
/-- 111: StoneHome$Table.follow(LStoneHome$Street;)V -/
def at_X8_follow : List (Nat × am_I) := [(0, .aload_n 0, 1, 0, 0), (1, .aload_n 1, 2, 1, 0), (2, .putfield 33, 5, 8, 2), (5, .aload_n 0, 6, 0, 0), (6, .getfield 17, 9, 8, 2), (9, .iconst (-1), 10, 0, 0), (10, .invokestatic 37, 13, 293, 2), (13, .aload_n 0, 14, 0, 0),
  (14, .iconst 0, 15, 0, 0), (15, .putfield 30, 18, 8, 48), (18, .aload_n 0, 19, 0, 0), (19, .iconst 0, 20, 0, 0), (20, .invokevirtual 43, 23, 112, 1), (23, .aload_n 0, 24, 0, 0), (24, .aload_n 0, 25, 0, 0), (25, .getfield 30, 28, 8, 6),
  (28, .putfield 26, 31, 8, 40), (31, .aload_n 0, 32, 0, 0), (32, .iconst 1, 33, 0, 0), (33, .invokevirtual 43, 36, 112, 1), (36, .return_, 37, 0, 0)]
set_option maxRecDepth 20000 in
/-- 112: StoneHome$Table.listLies(Z)V -/
def at_X8_listLies : List (Nat × am_I) := [(0, .iconst 0, 1, 0, 0), (1, .istore_n 2, 2, 2, 0), (2, .iload_n 2, 3, 2, 0), (3, .bipush 96, 5, 0, 0), (5, .if_icmp .ge 67, 8, 72, 0), (8, .iload_n 2, 9, 2, 0), (9, .iconst 3, 10, 0, 0), (10, .irem, 11, 0, 0),
  (11, .aload_n 0, 12, 0, 0), (12, .getfield 33, 15, 8, 0), (15, .getfield 47, 18, 7, 3), (18, .if_icmp .ge 48, 21, 66, 0), (21, .aload_n 0, 22, 0, 0), (22, .getfield 33, 25, 8, 0), (25, .iload_n 2, 26, 2, 0), (26, .iconst 3, 27, 0, 0),
  (27, .idiv, 28, 0, 0), (28, .invokevirtual 52, 31, 89, 1), (31, .ifCond .eq 35, 34, 66, 0), (34, .aload_n 0, 35, 0, 0), (35, .getfield 33, 38, 8, 0), (38, .iload_n 2, 39, 2, 0), (39, .invokevirtual 56, 42, 90, 1), (42, .iload_n 1, 43, 1, 0),
  (43, .if_icmp .ne 23, 46, 66, 0), (46, .aload_n 0, 47, 0, 0), (47, .getfield 23, 50, 8, 4), (50, .aload_n 0, 51, 0, 0), (51, .getfield 30, 54, 8, 6), (54, .iload_n 2, 55, 2, 0), (55, .iastore, 56, 0, 0), (56, .aload_n 0, 57, 0, 0),
  (57, .dup, 58, 0, 0), (58, .getfield 30, 61, 8, 6), (61, .iconst 1, 62, 0, 0), (62, .iadd, 63, 0, 0), (63, .putfield 30, 66, 8, 48), (66, .iinc 2 1, 69, 2, 0), (69, .goto (-67), 72, 2, 0), (72, .return_, 73, 0, 0)]
set_option maxRecDepth 20000 in
/-- 113: StoneHome$Table.stepThatCounts(I)I -/
def at_X8_stepThatCounts : List (Nat × am_I) := [(0, .aload_n 0, 1, 0, 0), (1, .getfield 33, 4, 8, 0), (4, .getfield 59, 7, 7, 10), (7, .invokevirtual 63, 10, 27, 0), (10, .ifCond .eq 7, 13, 17, 0), (13, .iload_n 1, 14, 1, 0), (14, .goto 4, 17, 18, 0), (17, .iconst 0, 18, 0, 0),
  (18, .ireturn, 19, 0, 0)]
set_option maxRecDepth 20000 in
/-- 114: StoneHome$Table.turnTo(I)V -/
def at_X8_turnTo : List (Nat × am_I) := [(0, .aload_n 0, 1, 0, 0), (1, .iload_n 1, 2, 1, 0), (2, .invokevirtual 69, 5, 113, 1), (5, .istore_n 2, 6, 2, 0), (6, .iload_n 2, 7, 2, 0), (7, .bipush 16, 9, 0, 0), (9, .irem, 10, 0, 0), (10, .istore_n 3, 11, 3, 0),
  (11, .iload_n 3, 12, 3, 0), (12, .ifCond .ge 4, 15, 16, 0), (15, .return_, 16, 0, 0), (16, .aload_n 0, 17, 0, 0), (17, .getfield 13, 20, 8, 1), (20, .iload_n 3, 21, 3, 0), (21, .aaload, 22, 5, 0), (22, .ifnonnull 14, 25, 36, 0),
  (25, .aload_n 0, 26, 0, 0), (26, .getfield 13, 29, 8, 1), (29, .iload_n 3, 30, 3, 0), (30, .sipush 2400, 33, 0, 0), (33, .newarray .int, 35, 0, 0), (35, .aastore, 36, 0, 0), (36, .aload_n 0, 37, 0, 0), (37, .aload_n 0, 38, 0, 0),
  (38, .getfield 13, 41, 8, 1), (41, .iload_n 3, 42, 3, 0), (42, .aaload, 43, 5, 0), (43, .putfield 20, 46, 8, 26), (46, .aload_n 0, 47, 0, 0), (47, .getfield 17, 50, 8, 2), (50, .iload_n 3, 51, 3, 0), (51, .iaload, 52, 0, 0),
  (52, .iload_n 2, 53, 2, 0), (53, .if_icmp .ne 7, 56, 60, 0), (56, .iconst 0, 57, 0, 0), (57, .goto 7, 60, 64, 0), (60, .aload_n 0, 61, 0, 0), (61, .getfield 26, 64, 8, 5), (64, .istore 4, 66, 4, 0), (66, .aload_n 0, 67, 0, 0),
  (67, .getfield 17, 70, 8, 2), (70, .iload_n 3, 71, 3, 0), (71, .iload_n 2, 72, 2, 0), (72, .iastore, 73, 0, 0), (73, .iconst 0, 74, 0, 0), (74, .istore 5, 76, 5, 0), (76, .iload 5, 78, 5, 0), (78, .iload 4, 80, 4, 0),
  (80, .if_icmp .ge 127, 83, 207, 0), (83, .aload_n 0, 84, 0, 0), (84, .getfield 23, 87, 8, 4), (87, .iload 5, 89, 5, 0), (89, .iaload, 90, 0, 0), (90, .istore 6, 92, 6, 0), (92, .iconst 0, 93, 0, 0), (93, .istore 7, 95, 7, 0),
  (95, .iload 7, 97, 7, 0), (97, .aload_n 0, 98, 0, 0), (98, .getfield 33, 101, 8, 0), (101, .getfield 73, 104, 7, 4), (104, .if_icmp .gt 97, 107, 201, 0), (107, .aload_n 0, 108, 0, 0), (108, .getfield 33, 111, 8, 0), (111, .iload 6, 113, 6, 0),
  (113, .iconst 3, 114, 0, 0), (114, .idiv, 115, 0, 0), (115, .iload 7, 117, 7, 0), (117, .invokevirtual 76, 120, 106, 2), (120, .ifCond .eq 15, 123, 135, 0), (123, .aload_n 0, 124, 0, 0), (124, .getfield 33, 127, 8, 0), (127, .iload 7, 129, 7, 0),
  (129, .invokevirtual 80, 132, 102, 1), (132, .goto 4, 135, 136, 0), (135, .iconst 0, 136, 0, 0), (136, .istore 8, 138, 8, 0), (138, .aload_n 0, 139, 0, 0), (139, .getfield 33, 142, 8, 0), (142, .iload 7, 144, 7, 0), (144, .invokevirtual 83, 147, 101, 1),
  (147, .istore 9, 149, 9, 0), (149, .iload 9, 151, 9, 0), (151, .iload 8, 153, 8, 0), (153, .if_icmp .ge 42, 156, 195, 0), (156, .aload_n 0, 157, 0, 0), (157, .getfield 20, 160, 8, 3), (160, .iload 6, 162, 6, 0), (162, .bipush 25, 164, 0, 0),
  (164, .imul, 165, 0, 0), (165, .iload 9, 167, 9, 0), (167, .iadd, 168, 0, 0), (168, .aload_n 0, 169, 0, 0), (169, .getfield 33, 172, 8, 0), (172, .iload 6, 174, 6, 0), (174, .iload 9, 176, 9, 0), (176, .iload_n 2, 177, 2, 0),
  (177, .aload_n 0, 178, 0, 0), (178, .getfield 33, 181, 8, 0), (181, .getfield 86, 184, 7, 14), (184, .imul, 185, 0, 0), (185, .invokevirtual 89, 188, 104, 3), (188, .iastore, 189, 0, 0), (189, .iinc 9 1, 192, 9, 0), (192, .goto (-43), 195, 149, 0),
  (195, .iinc 7 1, 198, 7, 0), (198, .goto (-103), 201, 95, 0), (201, .iinc 5 1, 204, 5, 0), (204, .goto (-128), 207, 76, 0), (207, .return_, 208, 0, 0)]
set_option maxRecDepth 20000 in
/-- 115: StoneHome$Table.landing(II)I -/
def at_X8_landing : List (Nat × am_I) := [(0, .iload_n 1, 1, 1, 0), (1, .bipush 25, 3, 0, 0), (3, .imul, 4, 0, 0), (4, .iload_n 2, 5, 2, 0), (5, .iadd, 6, 0, 0), (6, .istore_n 3, 7, 3, 0), (7, .iload_n 3, 8, 3, 0), (8, .ifCond .lt 21, 11, 29, 0),
  (11, .iload_n 3, 12, 3, 0), (12, .aload_n 0, 13, 0, 0), (13, .getfield 20, 16, 8, 3), (16, .arraylength, 17, 0, 0), (17, .if_icmp .ge 12, 20, 29, 0), (20, .aload_n 0, 21, 0, 0), (21, .getfield 20, 24, 8, 3), (24, .iload_n 3, 25, 3, 0),
  (25, .iaload, 26, 0, 0), (26, .goto 4, 29, 30, 0), (29, .iconst (-1), 30, 0, 0), (30, .ireturn, 31, 0, 0)]
set_option maxRecDepth 20000 in
/-- 116: StoneHome$Tokens.<init>([B)V -/
def at_X9_init : List (Nat × am_I) := [(0, .aload_n 0, 1, 0, 0), (1, .invokespecial 3, 4, 999, 0), (4, .aload_n 0, 5, 0, 0), (5, .sipush 401, 8, 0, 0), (8, .newarray .int, 10, 0, 0), (10, .putfield 11, 13, 9, 6), (13, .aload_n 0, 14, 0, 0), (14, .sipush 401, 17, 0, 0),
  (17, .newarray .int, 19, 0, 0), (19, .putfield 15, 22, 9, 14), (22, .aload_n 0, 23, 0, 0), (23, .sipush 401, 26, 0, 0), (26, .newarray .int, 28, 0, 0), (28, .putfield 18, 31, 9, 22), (31, .aload_n 0, 32, 0, 0), (32, .iconst 0, 33, 0, 0),
  (33, .putfield 21, 36, 9, 32), (36, .aload_n 0, 37, 0, 0), (37, .iconst 0, 38, 0, 0), (38, .putfield 25, 41, 9, 40), (41, .aload_n 0, 42, 0, 0), (42, .iconst 0, 43, 0, 0), (43, .putfield 28, 46, 9, 48), (46, .aload_n 0, 47, 0, 0),
  (47, .iconst 0, 48, 0, 0), (48, .putfield 31, 51, 9, 56), (51, .aload_n 0, 52, 0, 0), (52, .aload_n 1, 53, 1, 0), (53, .putfield 34, 56, 9, 30), (56, .return_, 57, 0, 0)]
set_option maxRecDepth 20000 in
/-- 117: StoneHome$Tokens.scan(I)V -/
def at_X9_scan : List (Nat × am_I) := [(0, .aload_n 0, 1, 0, 0), (1, .iconst 0, 2, 0, 0), (2, .iload_n 1, 3, 1, 0), (3, .aload_n 0, 4, 0, 0), (4, .getfield 34, 7, 9, 3), (7, .arraylength, 8, 0, 0), (8, .invokestatic 38, 11, 997, 2), (11, .invokestatic 44, 14, 996, 2),
  (14, .putfield 21, 17, 9, 32), (17, .aload_n 0, 18, 0, 0), (18, .iconst 0, 19, 0, 0), (19, .putfield 25, 22, 9, 40), (22, .iconst 0, 23, 0, 0), (23, .istore_n 2, 24, 2, 0), (24, .iload_n 2, 25, 2, 0), (25, .sipush 401, 28, 0, 0),
  (28, .if_icmp .ge 47, 31, 75, 0), (31, .aload_n 0, 32, 0, 0), (32, .invokevirtual 47, 35, 118, 0), (35, .aload_n 0, 36, 0, 0), (36, .getfield 15, 39, 9, 1), (39, .iload_n 2, 40, 2, 0), (40, .aload_n 0, 41, 0, 0), (41, .getfield 25, 44, 9, 5),
  (44, .iastore, 45, 0, 0), (45, .aload_n 0, 46, 0, 0), (46, .invokevirtual 50, 49, 120, 0), (49, .aload_n 0, 50, 0, 0), (50, .getfield 11, 53, 9, 0), (53, .iload_n 2, 54, 2, 0), (54, .aload_n 0, 55, 0, 0), (55, .getfield 28, 58, 9, 6),
  (58, .iastore, 59, 0, 0), (59, .aload_n 0, 60, 0, 0), (60, .getfield 18, 63, 9, 2), (63, .iload_n 2, 64, 2, 0), (64, .aload_n 0, 65, 0, 0), (65, .getfield 31, 68, 9, 7), (68, .iastore, 69, 0, 0), (69, .iinc 2 1, 72, 2, 0),
  (72, .goto (-48), 75, 24, 0), (75, .return_, 76, 0, 0)]
set_option maxRecDepth 20000 in
/-- 118: StoneHome$Tokens.skipBlanks()V -/
def at_X9_skipBlanks : List (Nat × am_I) := [(0, .aload_n 0, 1, 0, 0), (1, .getfield 25, 4, 9, 5), (4, .aload_n 0, 5, 0, 0), (5, .getfield 21, 8, 9, 4), (8, .if_icmp .ge 31, 11, 39, 0), (11, .aload_n 0, 12, 0, 0), (12, .getfield 34, 15, 9, 3), (15, .aload_n 0, 16, 0, 0),
  (16, .getfield 25, 19, 9, 5), (19, .baload, 20, 1, 0), (20, .invokestatic 57, 23, 119, 1), (23, .ifCond .eq 16, 26, 39, 0), (26, .aload_n 0, 27, 0, 0), (27, .dup, 28, 0, 0), (28, .getfield 25, 31, 9, 5), (31, .iconst 1, 32, 0, 0),
  (32, .iadd, 33, 0, 0), (33, .putfield 25, 36, 9, 40), (36, .goto (-36), 39, 0, 0), (39, .return_, 40, 0, 0)]
set_option maxRecDepth 20000 in
/-- 119: StoneHome$Tokens.isBlank(I)Z -/
def at_X9_isBlank : List (Nat × am_I) := [(0, .iload_n 0, 1, 0, 0), (1, .bipush 9, 3, 0, 0), (3, .if_icmp .eq 21, 6, 24, 0), (6, .iload_n 0, 7, 0, 0), (7, .bipush 10, 9, 0, 0), (9, .if_icmp .eq 15, 12, 24, 0), (12, .iload_n 0, 13, 0, 0), (13, .bipush 13, 15, 0, 0),
  (15, .if_icmp .eq 9, 18, 24, 0), (18, .iload_n 0, 19, 0, 0), (19, .bipush 32, 21, 0, 0), (21, .if_icmp .ne 7, 24, 28, 0), (24, .iconst 1, 25, 0, 0), (25, .goto 4, 28, 29, 0), (28, .iconst 0, 29, 0, 0), (29, .ireturn, 30, 0, 0)]
set_option maxRecDepth 20000 in
/-- 120: StoneHome$Tokens.scanOne()V -/
def at_X9_scanOne : List (Nat × am_I) := [(0, .aload_n 0, 1, 0, 0), (1, .iconst 0, 2, 0, 0), (2, .putfield 31, 5, 9, 56), (5, .aload_n 0, 6, 0, 0), (6, .getfield 25, 9, 9, 5), (9, .aload_n 0, 10, 0, 0), (10, .getfield 21, 13, 9, 4), (13, .if_icmp .lt 11, 16, 24, 0),
  (16, .aload_n 0, 17, 0, 0), (17, .iconst 0, 18, 0, 0), (18, .putfield 28, 21, 9, 48), (21, .goto 99, 24, 120, 0), (24, .aload_n 0, 25, 0, 0), (25, .getfield 34, 28, 9, 3), (28, .aload_n 0, 29, 0, 0), (29, .getfield 25, 32, 9, 5),
  (32, .baload, 33, 1, 0), (33, .invokestatic 61, 36, 121, 1), (36, .ifCond .eq 10, 39, 46, 0), (39, .aload_n 0, 40, 0, 0), (40, .invokevirtual 64, 43, 122, 0), (43, .goto 77, 46, 120, 0), (46, .aload_n 0, 47, 0, 0), (47, .getfield 34, 50, 9, 3),
  (50, .aload_n 0, 51, 0, 0), (51, .getfield 25, 54, 9, 5), (54, .baload, 55, 1, 0), (55, .invokestatic 67, 58, 124, 1), (58, .ifCond .eq 10, 61, 68, 0), (61, .aload_n 0, 62, 0, 0), (62, .invokevirtual 70, 65, 125, 0), (65, .goto 55, 68, 120, 0),
  (68, .aload_n 0, 69, 0, 0), (69, .aload_n 0, 70, 0, 0), (70, .getfield 34, 73, 9, 3), (73, .aload_n 0, 74, 0, 0), (74, .getfield 25, 77, 9, 5), (77, .baload, 78, 1, 0), (78, .putfield 31, 81, 9, 56), (81, .aload_n 0, 82, 0, 0),
  (82, .aload_n 0, 83, 0, 0), (83, .getfield 31, 86, 9, 7), (86, .ifCond .le 20, 89, 106, 0), (89, .ldc 73, 91, 1, 3), (91, .aload_n 0, 92, 0, 0), (92, .getfield 31, 95, 9, 7), (95, .i2c, 96, 0, 0), (96, .invokevirtual 75, 99, 298, 1),
  (99, .ifCond .lt 7, 102, 106, 0), (102, .iconst 4, 103, 0, 0), (103, .goto 4, 106, 107, 0), (106, .iconst 5, 107, 0, 0), (107, .putfield 28, 110, 9, 48), (110, .aload_n 0, 111, 0, 0), (111, .dup, 112, 0, 0), (112, .getfield 25, 115, 9, 5),
  (115, .iconst 1, 116, 0, 0), (116, .iadd, 117, 0, 0), (117, .putfield 25, 120, 9, 40), (120, .return_, 121, 0, 0)]
set_option maxRecDepth 20000 in
/-- 121: StoneHome$Tokens.isLetter(I)Z -/
def at_X9_isLetter : List (Nat × am_I) := [(0, .iload_n 0, 1, 0, 0), (1, .bipush 97, 3, 0, 0), (3, .if_icmp .lt 13, 6, 16, 0), (6, .iload_n 0, 7, 0, 0), (7, .bipush 122, 9, 0, 0), (9, .if_icmp .gt 7, 12, 16, 0), (12, .iconst 1, 13, 0, 0), (13, .goto 4, 16, 17, 0),
  (16, .iconst 0, 17, 0, 0), (17, .ireturn, 18, 0, 0)]
set_option maxRecDepth 20000 in
/-- 122: StoneHome$Tokens.scanWord()V -/
def at_X9_scanWord : List (Nat × am_I) := [(0, .aload_n 0, 1, 0, 0), (1, .getfield 25, 4, 9, 5), (4, .istore_n 1, 5, 1, 0), (5, .aload_n 0, 6, 0, 0), (6, .getfield 25, 9, 9, 5), (9, .aload_n 0, 10, 0, 0), (10, .getfield 21, 13, 9, 4), (13, .if_icmp .ge 31, 16, 44, 0),
  (16, .aload_n 0, 17, 0, 0), (17, .getfield 34, 20, 9, 3), (20, .aload_n 0, 21, 0, 0), (21, .getfield 25, 24, 9, 5), (24, .baload, 25, 1, 0), (25, .invokestatic 61, 28, 121, 1), (28, .ifCond .eq 16, 31, 44, 0), (31, .aload_n 0, 32, 0, 0),
  (32, .dup, 33, 0, 0), (33, .getfield 25, 36, 9, 5), (36, .iconst 1, 37, 0, 0), (37, .iadd, 38, 0, 0), (38, .putfield 25, 41, 9, 40), (41, .goto (-36), 44, 5, 0), (44, .aload_n 0, 45, 0, 0), (45, .iload_n 1, 46, 1, 0),
  (46, .invokevirtual 81, 49, 123, 1), (49, .istore_n 2, 50, 2, 0), (50, .aload_n 0, 51, 0, 0), (51, .iload_n 2, 52, 2, 0), (52, .iconst (-1), 53, 0, 0), (53, .if_icmp .ne 12, 56, 65, 0), (56, .aload_n 0, 57, 0, 0), (57, .getfield 25, 60, 9, 5),
  (60, .iload_n 1, 61, 1, 0), (61, .isub, 62, 0, 0), (62, .goto 4, 65, 66, 0), (65, .iload_n 2, 66, 2, 0), (66, .putfield 31, 69, 9, 56), (69, .aload_n 0, 70, 0, 0), (70, .getfield 25, 73, 9, 5), (73, .iload_n 1, 74, 1, 0),
  (74, .isub, 75, 0, 0), (75, .bipush 8, 77, 0, 0), (77, .if_icmp .le 11, 80, 88, 0), (80, .aload_n 0, 81, 0, 0), (81, .iconst 5, 82, 0, 0), (82, .putfield 28, 85, 9, 48), (85, .goto 17, 88, 102, 0), (88, .aload_n 0, 89, 0, 0),
  (89, .iload_n 2, 90, 2, 0), (90, .iconst (-1), 91, 0, 0), (91, .if_icmp .ne 7, 94, 98, 0), (94, .iconst 1, 95, 0, 0), (95, .goto 4, 98, 99, 0), (98, .iconst 2, 99, 0, 0), (99, .putfield 28, 102, 9, 48), (102, .return_, 103, 0, 0)]
set_option maxRecDepth 20000 in
/-- 123: StoneHome$Tokens.wordNumber(I)I -/
def at_X9_wordNumber : List (Nat × am_I) := [(0, .iconst 0, 1, 0, 0), (1, .istore_n 2, 2, 2, 0), (2, .iload_n 1, 3, 1, 0), (3, .istore_n 3, 4, 3, 0), (4, .iconst 1, 5, 0, 0), (5, .istore 4, 7, 4, 0), (7, .iconst 0, 8, 0, 0), (8, .istore 5, 10, 5, 0),
  (10, .iload 5, 12, 5, 0), (12, .ldc 84, 14, 1, 2), (14, .invokevirtual 86, 17, 294, 0), (17, .if_icmp .ge 93, 20, 110, 0), (20, .ldc 84, 22, 1, 2), (22, .iload 5, 24, 5, 0), (24, .invokevirtual 90, 27, 296, 1), (27, .istore 6, 29, 6, 0),
  (29, .iload 6, 31, 6, 0), (31, .bipush 32, 33, 0, 0), (33, .if_icmp .eq 48, 36, 81, 0), (36, .iload 4, 38, 4, 0), (38, .ifCond .eq 34, 41, 72, 0), (41, .iload_n 3, 42, 3, 0), (42, .aload_n 0, 43, 0, 0), (43, .getfield 25, 46, 9, 5),
  (46, .if_icmp .ge 26, 49, 72, 0), (49, .iload_n 3, 50, 3, 0), (50, .aload_n 0, 51, 0, 0), (51, .getfield 21, 54, 9, 4), (54, .if_icmp .ge 18, 57, 72, 0), (57, .aload_n 0, 58, 0, 0), (58, .getfield 34, 61, 9, 3), (61, .iload_n 3, 62, 3, 0),
  (62, .baload, 63, 1, 0), (63, .iload 6, 65, 6, 0), (65, .if_icmp .ne 7, 68, 72, 0), (68, .iconst 1, 69, 0, 0), (69, .goto 4, 72, 73, 0), (72, .iconst 0, 73, 0, 0), (73, .istore 4, 75, 4, 0), (75, .iinc 3 1, 78, 3, 0),
  (78, .goto 26, 81, 104, 0), (81, .iload 4, 83, 4, 0), (83, .ifCond .eq 13, 86, 96, 0), (86, .iload_n 3, 87, 3, 0), (87, .aload_n 0, 88, 0, 0), (88, .getfield 25, 91, 9, 5), (91, .if_icmp .ne 5, 94, 96, 0), (94, .iload_n 2, 95, 2, 0),
  (95, .ireturn, 96, 0, 0), (96, .iinc 2 1, 99, 2, 0), (99, .iload_n 1, 100, 1, 0), (100, .istore_n 3, 101, 3, 0), (101, .iconst 1, 102, 0, 0), (102, .istore 4, 104, 4, 0), (104, .iinc 5 1, 107, 5, 0), (107, .goto (-97), 110, 10, 0),
  (110, .iconst (-1), 111, 0, 0), (111, .ireturn, 112, 0, 0)]
set_option maxRecDepth 20000 in
/-- 124: StoneHome$Tokens.isDigit(I)Z -/
def at_X9_isDigit : List (Nat × am_I) := [(0, .iload_n 0, 1, 0, 0), (1, .bipush 48, 3, 0, 0), (3, .if_icmp .lt 13, 6, 16, 0), (6, .iload_n 0, 7, 0, 0), (7, .bipush 57, 9, 0, 0), (9, .if_icmp .gt 7, 12, 16, 0), (12, .iconst 1, 13, 0, 0), (13, .goto 4, 16, 17, 0),
  (16, .iconst 0, 17, 0, 0), (17, .ireturn, 18, 0, 0)]
set_option maxRecDepth 20000 in
/-- 125: StoneHome$Tokens.scanInt()V -/
def at_X9_scanInt : List (Nat × am_I) := [(0, .aload_n 0, 1, 0, 0), (1, .getfield 25, 4, 9, 5), (4, .istore_n 1, 5, 1, 0), (5, .aload_n 0, 6, 0, 0), (6, .getfield 25, 9, 9, 5), (9, .aload_n 0, 10, 0, 0), (10, .getfield 21, 13, 9, 4), (13, .if_icmp .ge 55, 16, 68, 0),
  (16, .aload_n 0, 17, 0, 0), (17, .getfield 34, 20, 9, 3), (20, .aload_n 0, 21, 0, 0), (21, .getfield 25, 24, 9, 5), (24, .baload, 25, 1, 0), (25, .invokestatic 67, 28, 124, 1), (28, .ifCond .eq 40, 31, 68, 0), (31, .aload_n 0, 32, 0, 0),
  (32, .aload_n 0, 33, 0, 0), (33, .getfield 31, 36, 9, 7), (36, .bipush 10, 38, 0, 0), (38, .imul, 39, 0, 0), (39, .aload_n 0, 40, 0, 0), (40, .getfield 34, 43, 9, 3), (43, .aload_n 0, 44, 0, 0), (44, .getfield 25, 47, 9, 5),
  (47, .baload, 48, 1, 0), (48, .iadd, 49, 0, 0), (49, .bipush 48, 51, 0, 0), (51, .isub, 52, 0, 0), (52, .putfield 31, 55, 9, 56), (55, .aload_n 0, 56, 0, 0), (56, .dup, 57, 0, 0), (57, .getfield 25, 60, 9, 5),
  (60, .iconst 1, 61, 0, 0), (61, .iadd, 62, 0, 0), (62, .putfield 25, 65, 9, 40), (65, .goto (-60), 68, 5, 0), (68, .aload_n 0, 69, 0, 0), (69, .aload_n 0, 70, 0, 0), (70, .getfield 25, 73, 9, 5), (73, .iload_n 1, 74, 1, 0),
  (74, .isub, 75, 0, 0), (75, .iconst 4, 76, 0, 0), (76, .if_icmp .le 7, 79, 83, 0), (79, .iconst 5, 80, 0, 0), (80, .goto 4, 83, 84, 0), (83, .iconst 3, 84, 0, 0), (84, .putfield 28, 87, 9, 48), (87, .return_, 88, 0, 0)]
set_option maxRecDepth 20000 in
/-- 126: StoneHome$Tokens.letterAt(I)C -/
def at_X9_letterAt : List (Nat × am_I) := [(0, .iload_n 1, 1, 1, 0), (1, .ifCond .lt 21, 4, 22, 0), (4, .iload_n 1, 5, 1, 0), (5, .aload_n 0, 6, 0, 0), (6, .getfield 21, 9, 9, 4), (9, .if_icmp .ge 13, 12, 22, 0), (12, .aload_n 0, 13, 0, 0), (13, .getfield 34, 16, 9, 3),
  (16, .iload_n 1, 17, 1, 0), (17, .baload, 18, 1, 0), (18, .i2c, 19, 0, 0), (19, .goto 5, 22, 24, 0), (22, .bipush 32, 24, 0, 0), (24, .ireturn, 25, 0, 0)]
set_option maxRecDepth 20000 in
/-- 127: StoneHome$Tokens.nameAt(II)J -/
def at_X9_nameAt : List (Nat × am_I) := [(0, .lconst 0, 1, 0, 0), (1, .lstore_n 3, 2, 3, 0), (2, .iconst 0, 3, 0, 0), (3, .istore 5, 5, 5, 0), (5, .iload 5, 7, 5, 0), (7, .bipush 8, 9, 0, 0), (9, .if_icmp .ge 34, 12, 43, 0), (12, .iload 5, 14, 5, 0),
  (14, .iload_n 2, 15, 2, 0), (15, .if_icmp .ge 28, 18, 43, 0), (18, .lload_n 3, 19, 3, 0), (19, .iconst 5, 20, 0, 0), (20, .lshl, 21, 0, 0), (21, .aload_n 0, 22, 0, 0), (22, .iload_n 1, 23, 1, 0), (23, .iload 5, 25, 5, 0),
  (25, .iadd, 26, 0, 0), (26, .invokevirtual 53, 29, 126, 1), (29, .bipush 97, 31, 0, 0), (31, .isub, 32, 0, 0), (32, .iconst 1, 33, 0, 0), (33, .iadd, 34, 0, 0), (34, .i2l, 35, 0, 0), (35, .lor, 36, 0, 0),
  (36, .lstore_n 3, 37, 3, 0), (37, .iinc 5 1, 40, 5, 0), (40, .goto (-35), 43, 5, 0), (43, .lload_n 3, 44, 3, 0), (44, .lreturn, 45, 0, 0)]
set_option maxRecDepth 20000 in
/-- 128: StoneHome.<init>()V -/
def at_X10_init : List (Nat × am_I) := [(0, .aload_n 0, 1, 0, 0), (1, .invokespecial 1, 4, 999, 0), (4, .aload_n 0, 5, 0, 0), (5, .sipush 2000, 8, 0, 0), (8, .newarray .byte, 10, 0, 0), (10, .putfield 9, 13, 10, 6), (13, .aload_n 0, 14, 0, 0), (14, .iconst 0, 15, 0, 0),
  (15, .putfield 13, 18, 10, 8), (18, .aload_n 0, 19, 0, 0), (19, .iconst (-1), 20, 0, 0), (20, .putfield 17, 23, 10, 16), (23, .aload_n 0, 24, 0, 0), (24, .new 20, 27, 7, 0), (27, .dup, 28, 0, 0), (28, .invokespecial 22, 31, 84, 0),
  (31, .putfield 23, 34, 10, 26), (34, .aload_n 0, 35, 0, 0), (35, .new 20, 38, 7, 0), (38, .dup, 39, 0, 0), (39, .invokespecial 22, 42, 84, 0), (42, .putfield 27, 45, 10, 34), (45, .aload_n 0, 46, 0, 0), (46, .new 30, 49, 4, 0),
  (49, .dup, 50, 0, 0), (50, .aload_n 0, 51, 0, 0), (51, .getfield 9, 54, 10, 0), (54, .aload_n 0, 55, 0, 0), (55, .getfield 27, 58, 10, 4), (58, .invokespecial 32, 61, 42, 2), (61, .putfield 35, 64, 10, 46), (64, .aload_n 0, 65, 0, 0),
  (65, .new 39, 68, 6, 0), (68, .dup, 69, 0, 0), (69, .invokespecial 41, 72, 80, 0), (72, .putfield 42, 75, 10, 54), (75, .aload_n 0, 76, 0, 0), (76, .new 46, 79, 2, 0), (79, .dup, 80, 0, 0), (80, .invokespecial 48, 83, 28, 0),
  (83, .putfield 49, 86, 10, 62), (86, .aload_n 0, 87, 0, 0), (87, .iconst 3, 88, 0, 0), (88, .anewarray 39, 91, 4, 0), (91, .putfield 53, 94, 10, 70), (94, .aload_n 0, 95, 0, 0), (95, .new 57, 98, 8, 0), (98, .dup, 99, 0, 0),
  (99, .aload_n 0, 100, 0, 0), (100, .getfield 23, 103, 10, 3), (103, .invokespecial 59, 106, 110, 1), (106, .putfield 62, 109, 10, 78), (109, .aload_n 0, 110, 0, 0), (110, .new 66, 113, 0, 0), (113, .dup, 114, 0, 0), (114, .aload_n 0, 115, 0, 0),
  (115, .getfield 62, 118, 10, 9), (118, .aload_n 0, 119, 0, 0), (119, .getfield 23, 122, 10, 3), (122, .invokespecial 68, 125, 0, 2), (125, .putfield 71, 128, 10, 86), (128, .aload_n 0, 129, 0, 0), (129, .new 75, 132, 3, 0), (132, .dup, 133, 0, 0),
  (133, .aload_n 0, 134, 0, 0), (134, .getfield 62, 137, 10, 9), (137, .aload_n 0, 138, 0, 0), (138, .getfield 23, 141, 10, 3), (141, .invokespecial 77, 144, 32, 2), (144, .putfield 78, 147, 10, 94), (147, .aload_n 0, 148, 0, 0), (148, .new 82, 151, 5, 0),
  (151, .dup, 152, 0, 0), (152, .invokespecial 84, 155, 69, 0), (155, .putfield 85, 158, 10, 102), (158, .iconst 0, 159, 0, 0), (159, .istore_n 1, 160, 1, 0), (160, .iload_n 1, 161, 1, 0), (161, .aload_n 0, 162, 0, 0), (162, .getfield 53, 165, 10, 8),
  (165, .arraylength, 166, 0, 0), (166, .if_icmp .ge 22, 169, 188, 0), (169, .aload_n 0, 170, 0, 0), (170, .getfield 53, 173, 10, 8), (173, .iload_n 1, 174, 1, 0), (174, .new 39, 177, 6, 0), (177, .dup, 178, 0, 0), (178, .invokespecial 41, 181, 80, 0),
  (181, .aastore, 182, 0, 0), (182, .iinc 1 1, 185, 1, 0), (185, .goto (-25), 188, 160, 0), (188, .aload_n 0, 189, 0, 0), (189, .getfield 23, 192, 10, 3), (192, .invokevirtual 89, 195, 85, 0), (195, .aload_n 0, 196, 0, 0), (196, .invokevirtual 92, 199, 129, 0),
  (199, .return_, 200, 0, 0)]
set_option maxRecDepth 20000 in
/-- 129: StoneHome.begin()V -/
def at_X10_begin : List (Nat × am_I) := [(0, .aload_n 0, 1, 0, 0), (1, .getfield 42, 4, 10, 6), (4, .aload_n 0, 5, 0, 0), (5, .getfield 23, 8, 10, 3), (8, .invokevirtual 293, 11, 81, 1), (11, .aload_n 0, 12, 0, 0), (12, .getfield 49, 15, 10, 7), (15, .invokevirtual 273, 18, 29, 0),
  (18, .aload_n 0, 19, 0, 0), (19, .getfield 85, 22, 10, 12), (22, .invokevirtual 247, 25, 70, 0), (25, .pop, 26, 0, 0), (26, .iconst 0, 27, 0, 0), (27, .istore_n 1, 28, 1, 0), (28, .iload_n 1, 29, 1, 0), (29, .aload_n 0, 30, 0, 0),
  (30, .getfield 53, 33, 10, 8), (33, .arraylength, 34, 0, 0), (34, .if_icmp .ge 19, 37, 53, 0), (37, .aload_n 0, 38, 0, 0), (38, .getfield 53, 41, 10, 8), (41, .iload_n 1, 42, 1, 0), (42, .aaload, 43, 4, 0), (43, .iconst 0, 44, 0, 0),
  (44, .putfield 269, 47, 6, 57), (47, .iinc 1 1, 50, 1, 0), (50, .goto (-22), 53, 28, 0), (53, .aload_n 0, 54, 0, 0), (54, .getfield 62, 57, 10, 9), (57, .aload_n 0, 58, 0, 0), (58, .getfield 23, 61, 10, 3), (61, .invokevirtual 296, 64, 111, 1),
  (64, .aload_n 0, 65, 0, 0), (65, .getfield 71, 68, 10, 10), (68, .aload_n 0, 69, 0, 0), (69, .getfield 23, 72, 10, 3), (72, .invokevirtual 299, 75, 1, 1), (75, .aload_n 0, 76, 0, 0), (76, .getfield 78, 79, 10, 11), (79, .aload_n 0, 80, 0, 0),
  (80, .getfield 23, 83, 10, 3), (83, .invokevirtual 300, 86, 33, 1), (86, .return_, 87, 0, 0)]
set_option maxRecDepth 20000 in
/-- 130: StoneHome.squareOf(II)I -/
def at_X10_squareOf : List (Nat × am_I) := [(0, .iload_n 1, 1, 1, 0), (1, .bipush 8, 3, 0, 0), (3, .imul, 4, 0, 0), (4, .iload_n 0, 5, 0, 0), (5, .iadd, 6, 0, 0), (6, .ireturn, 7, 0, 0)]
set_option maxRecDepth 20000 in
/-- 131: StoneHome.lieOf(II)I -/
def at_X10_lieOf : List (Nat × am_I) := [(0, .iload_n 0, 1, 0, 0), (1, .iconst 3, 2, 0, 0), (2, .imul, 3, 0, 0), (3, .iload_n 1, 4, 1, 0), (4, .iadd, 5, 0, 0), (5, .ireturn, 6, 0, 0)]
set_option maxRecDepth 20000 in
/-- 132: StoneHome.feed(IIIII)I -/
def at_X10_feed : List (Nat × am_I) := [(0, .aload_n 0, 1, 0, 0), (1, .getfield 13, 4, 10, 1), (4, .bipush 20, 6, 0, 0), (6, .iadd, 7, 0, 0), (7, .sipush 2000, 10, 0, 0), (10, .if_icmp .le 5, 13, 15, 0), (13, .iconst (-1), 14, 0, 0), (14, .ireturn, 15, 0, 0),
  (15, .aload_n 0, 16, 0, 0), (16, .iload_n 1, 17, 1, 0), (17, .invokevirtual 95, 20, 133, 1), (20, .aload_n 0, 21, 0, 0), (21, .iload_n 2, 22, 2, 0), (22, .invokevirtual 95, 25, 133, 1), (25, .aload_n 0, 26, 0, 0), (26, .iload_n 3, 27, 3, 0),
  (27, .invokevirtual 95, 30, 133, 1), (30, .aload_n 0, 31, 0, 0), (31, .iload 4, 33, 4, 0), (33, .invokevirtual 95, 36, 133, 1), (36, .aload_n 0, 37, 0, 0), (37, .iload 5, 39, 5, 0), (39, .invokevirtual 95, 42, 133, 1), (42, .aload_n 0, 43, 0, 0),
  (43, .getfield 13, 46, 10, 1), (46, .ireturn, 47, 0, 0)]
set_option maxRecDepth 20000 in
/-- 133: StoneHome.putBytes(I)V -/
def at_X10_putBytes : List (Nat × am_I) := [(0, .bipush 24, 2, 0, 0), (2, .istore_n 2, 3, 2, 0), (3, .iload_n 2, 4, 2, 0), (4, .ifCond .lt 44, 7, 48, 0), (7, .aload_n 0, 8, 0, 0), (8, .getfield 13, 11, 10, 1), (11, .aload_n 0, 12, 0, 0), (12, .getfield 9, 15, 10, 0),
  (15, .arraylength, 16, 0, 0), (16, .if_icmp .ge 26, 19, 42, 0), (19, .aload_n 0, 20, 0, 0), (20, .getfield 9, 23, 10, 0), (23, .aload_n 0, 24, 0, 0), (24, .getfield 13, 27, 10, 1), (27, .iload_n 1, 28, 1, 0), (28, .iload_n 2, 29, 2, 0),
  (29, .ishr, 30, 0, 0), (30, .i2b, 31, 0, 0), (31, .bastore, 32, 1, 0), (32, .aload_n 0, 33, 0, 0), (33, .dup, 34, 0, 0), (34, .getfield 13, 37, 10, 1), (37, .iconst 1, 38, 0, 0), (38, .iadd, 39, 0, 0),
  (39, .putfield 13, 42, 10, 8), (42, .iinc 2 (-8), 45, 2, 0), (45, .goto (-42), 48, 3, 0), (48, .return_, 49, 0, 0)]
set_option maxRecDepth 20000 in
/-- 134: StoneHome.back(I)I -/
def at_X10_back : List (Nat × am_I) := [(0, .iload_n 1, 1, 1, 0), (1, .ifCond .lt 11, 4, 12, 0), (4, .iload_n 1, 5, 1, 0), (5, .aload_n 0, 6, 0, 0), (6, .getfield 13, 9, 10, 1), (9, .if_icmp .le 5, 12, 14, 0), (12, .iconst (-1), 13, 0, 0), (13, .ireturn, 14, 0, 0),
  (14, .aload_n 0, 15, 0, 0), (15, .dup, 16, 0, 0), (16, .getfield 13, 19, 10, 1), (19, .iload_n 1, 20, 1, 0), (20, .isub, 21, 0, 0), (21, .putfield 13, 24, 10, 8), (24, .aload_n 0, 25, 0, 0), (25, .getfield 13, 28, 10, 1),
  (28, .ireturn, 29, 0, 0)]
set_option maxRecDepth 20000 in
/-- 135: StoneHome.read()I -/
def at_X10_read : List (Nat × am_I) := [(0, .aload_n 0, 1, 0, 0), (1, .getfield 35, 4, 10, 5), (4, .aload_n 0, 5, 0, 0), (5, .getfield 27, 8, 10, 4), (8, .aload_n 0, 9, 0, 0), (9, .getfield 13, 12, 10, 1), (12, .invokevirtual 99, 15, 43, 2), (15, .istore_n 1, 16, 1, 0),
  (16, .aload_n 0, 17, 0, 0), (17, .aload_n 0, 18, 0, 0), (18, .getfield 35, 21, 10, 5), (21, .invokevirtual 103, 24, 68, 0), (24, .putfield 17, 27, 10, 16), (27, .aload_n 0, 28, 0, 0), (28, .iconst 0, 29, 0, 0), (29, .putfield 13, 32, 10, 8),
  (32, .iload_n 1, 33, 1, 0), (33, .ifCond .ne 25, 36, 58, 0), (36, .aload_n 0, 37, 0, 0), (37, .getfield 23, 40, 10, 3), (40, .astore_n 2, 41, 2, 0), (41, .aload_n 0, 42, 0, 0), (42, .aload_n 0, 43, 0, 0), (43, .getfield 27, 46, 10, 4),
  (46, .putfield 23, 49, 10, 26), (49, .aload_n 0, 50, 0, 0), (50, .aload_n 2, 51, 2, 0), (51, .putfield 27, 54, 10, 34), (54, .aload_n 0, 55, 0, 0), (55, .invokevirtual 92, 58, 129, 0), (58, .iload_n 1, 59, 1, 0), (59, .ireturn, 60, 0, 0)]
set_option maxRecDepth 20000 in
/-- 136: StoneHome.place()I -/
def at_X10_place : List (Nat × am_I) := [(0, .aload_n 0, 1, 0, 0), (1, .getfield 17, 4, 10, 2), (4, .ireturn, 5, 0, 0)]
set_option maxRecDepth 20000 in
/-- 137: StoneHome.now(I)I -/
def at_X10_now : List (Nat × am_I) := [(0, .iload_n 1, 1, 1, 0), (1, .tableswitch 169 0 8 #[51, 78, 105, 113, 121, 129, 145, 153, 161], 52, 170, 0), (52, .aload_n 0, 53, 0, 0), (53, .getfield 42, 56, 10, 6), (56, .getfield 107, 59, 6, 6), (59, .iconst 2, 60, 0, 0), (60, .if_icmp .ne 8, 63, 68, 0), (63, .bipush (-2), 65, 0, 0),
  (65, .goto 13, 68, 78, 0), (68, .aload_n 0, 69, 0, 0), (69, .getfield 42, 72, 10, 6), (72, .getfield 110, 75, 6, 0), (75, .invokestatic 113, 78, 138, 1), (78, .ireturn, 79, 0, 0), (79, .aload_n 0, 80, 0, 0), (80, .getfield 42, 83, 10, 6),
  (83, .getfield 107, 86, 6, 6), (86, .iconst 2, 87, 0, 0), (87, .if_icmp .ne 8, 90, 95, 0), (90, .bipush (-2), 92, 0, 0), (92, .goto 13, 95, 105, 0), (95, .aload_n 0, 96, 0, 0), (96, .getfield 42, 99, 10, 6), (99, .getfield 110, 102, 6, 0),
  (102, .invokestatic 117, 105, 139, 1), (105, .ireturn, 106, 0, 0), (106, .aload_n 0, 107, 0, 0), (107, .getfield 42, 110, 10, 6), (110, .getfield 120, 113, 6, 1), (113, .ireturn, 114, 0, 0), (114, .aload_n 0, 115, 0, 0), (115, .getfield 42, 118, 10, 6),
  (118, .getfield 123, 121, 6, 2), (121, .ireturn, 122, 0, 0), (122, .aload_n 0, 123, 0, 0), (123, .getfield 42, 126, 10, 6), (126, .getfield 126, 129, 6, 4), (129, .ireturn, 130, 0, 0), (130, .aload_n 0, 131, 0, 0), (131, .getfield 42, 134, 10, 6),
  (134, .getfield 126, 137, 6, 4), (137, .aload_n 0, 138, 0, 0), (138, .getfield 23, 141, 10, 3), (141, .getfield 129, 144, 7, 14), (144, .imul, 145, 0, 0), (145, .ireturn, 146, 0, 0), (146, .aload_n 0, 147, 0, 0), (147, .getfield 42, 150, 10, 6),
  (150, .getfield 132, 153, 6, 5), (153, .ireturn, 154, 0, 0), (154, .aload_n 0, 155, 0, 0), (155, .getfield 42, 158, 10, 6), (158, .getfield 107, 161, 6, 6), (161, .ireturn, 162, 0, 0), (162, .aload_n 0, 163, 0, 0), (163, .getfield 42, 166, 10, 6),
  (166, .getfield 135, 169, 6, 3), (169, .ireturn, 170, 0, 0), (170, .iconst (-1), 171, 0, 0), (171, .ireturn, 172, 0, 0)]
set_option maxRecDepth 20000 in
/-- 138: StoneHome.alongOf(I)I -/
def at_X10_alongOf : List (Nat × am_I) := [(0, .iload_n 0, 1, 0, 0), (1, .bipush 8, 3, 0, 0), (3, .irem, 4, 0, 0), (4, .ireturn, 5, 0, 0)]
set_option maxRecDepth 20000 in
/-- 139: StoneHome.acrossOf(I)I -/
def at_X10_acrossOf : List (Nat × am_I) := [(0, .iload_n 0, 1, 0, 0), (1, .bipush 8, 3, 0, 0), (3, .idiv, 4, 0, 0), (4, .ireturn, 5, 0, 0)]
set_option maxRecDepth 20000 in
/-- 140: StoneHome.square(II)I -/
def at_X10_square : List (Nat × am_I) := [(0, .aload_n 0, 1, 0, 0), (1, .getfield 23, 4, 10, 3), (4, .iload_n 1, 5, 1, 0), (5, .iload_n 2, 6, 2, 0), (6, .invokevirtual 138, 9, 94, 2), (9, .ireturn, 10, 0, 0)]
set_option maxRecDepth 20000 in
/-- 141: StoneHome.cars(III)I -/
def at_X10_cars : List (Nat × am_I) := [(0, .aload_n 0, 1, 0, 0), (1, .getfield 23, 4, 10, 3), (4, .iload_n 1, 5, 1, 0), (5, .iload_n 2, 6, 2, 0), (6, .invokevirtual 138, 9, 94, 2), (9, .iconst (-1), 10, 0, 0), (10, .if_icmp .eq 14, 13, 24, 0), (13, .iload_n 3, 14, 3, 0),
  (14, .ifCond .lt 10, 17, 24, 0), (17, .iload_n 3, 18, 3, 0), (18, .sipush 9999, 21, 0, 0), (21, .if_icmp .le 5, 24, 26, 0), (24, .iconst (-1), 25, 0, 0), (25, .ireturn, 26, 0, 0), (26, .aload_n 0, 27, 0, 0), (27, .getfield 23, 30, 10, 3),
  (30, .iload_n 1, 31, 1, 0), (31, .iload_n 2, 32, 2, 0), (32, .invokestatic 142, 35, 130, 2), (35, .iload_n 3, 36, 3, 0), (36, .invokevirtual 145, 39, 95, 2), (39, .ifCond .eq 7, 42, 46, 0), (42, .iconst 1, 43, 0, 0), (43, .goto 4, 46, 47, 0),
  (46, .iconst 0, 47, 0, 0), (47, .ireturn, 48, 0, 0)]
set_option maxRecDepth 20000 in
/-- 142: StoneHome.kick(I)I -/
def at_X10_kick : List (Nat × am_I) := [(0, .aload_n 0, 1, 0, 0), (1, .getfield 23, 4, 10, 3), (4, .iload_n 1, 5, 1, 0), (5, .invokevirtual 149, 8, 96, 1), (8, .ifCond .ne 5, 11, 13, 0), (11, .iconst (-1), 12, 0, 0), (12, .ireturn, 13, 0, 0), (13, .aload_n 0, 14, 0, 0),
  (14, .iload_n 1, 15, 1, 0), (15, .invokevirtual 153, 18, 143, 1), (18, .ifCond .ne 6, 21, 24, 0), (21, .bipush (-2), 23, 0, 0), (23, .ireturn, 24, 0, 0), (24, .aload_n 0, 25, 0, 0), (25, .aload_n 0, 26, 0, 0), (26, .getfield 23, 29, 10, 3),
  (29, .iload_n 1, 30, 1, 0), (30, .aload_n 0, 31, 0, 0), (31, .getfield 42, 34, 10, 6), (34, .getfield 126, 37, 6, 4), (37, .invokevirtual 156, 40, 98, 2), (40, .invokevirtual 159, 43, 144, 1), (43, .ireturn, 44, 0, 0)]
set_option maxRecDepth 20000 in
/-- 143: StoneHome.canBeKicked(I)Z -/
def at_X10_canBeKicked : List (Nat × am_I) := [(0, .aload_n 0, 1, 0, 0), (1, .getfield 42, 4, 10, 6), (4, .getfield 107, 7, 6, 6), (7, .ifCond .ne 25, 10, 32, 0), (10, .aload_n 0, 11, 0, 0), (11, .getfield 23, 14, 10, 3), (14, .aload_n 0, 15, 0, 0), (15, .getfield 42, 18, 10, 6),
  (18, .getfield 110, 21, 6, 0), (21, .iload_n 1, 22, 1, 0), (22, .invokevirtual 301, 25, 97, 2), (25, .ifCond .eq 7, 28, 32, 0), (28, .iconst 1, 29, 0, 0), (29, .goto 4, 32, 33, 0), (32, .iconst 0, 33, 0, 0), (33, .ireturn, 34, 0, 0)]
set_option maxRecDepth 20000 in
/-- 144: StoneHome.comeBy(I)I -/
def at_X10_comeBy : List (Nat × am_I) := [(0, .aload_n 0, 1, 0, 0), (1, .getfield 49, 4, 10, 7), (4, .aload_n 0, 5, 0, 0), (5, .getfield 42, 8, 10, 6), (8, .invokevirtual 165, 11, 30, 1), (11, .aload_n 0, 12, 0, 0), (12, .getfield 23, 15, 10, 3), (15, .aload_n 0, 16, 0, 0),
  (16, .getfield 42, 19, 10, 6), (19, .invokevirtual 182, 22, 83, 0), (22, .iload_n 1, 23, 1, 0), (23, .aload_n 0, 24, 0, 0), (24, .getfield 42, 27, 10, 6), (27, .getfield 126, 30, 6, 4), (30, .aload_n 0, 31, 0, 0), (31, .getfield 23, 34, 10, 3),
  (34, .getfield 129, 37, 7, 14), (37, .imul, 38, 0, 0), (38, .invokevirtual 185, 41, 104, 3), (41, .istore_n 2, 42, 2, 0), (42, .aload_n 0, 43, 0, 0), (43, .getfield 42, 46, 10, 6), (46, .dup, 47, 0, 0), (47, .getfield 126, 50, 6, 4),
  (50, .iconst 1, 51, 0, 0), (51, .iadd, 52, 0, 0), (52, .putfield 126, 55, 6, 32), (55, .aload_n 0, 56, 0, 0), (56, .iload_n 2, 57, 2, 0), (57, .invokevirtual 172, 60, 146, 1), (60, .ireturn, 61, 0, 0)]
set_option maxRecDepth 20000 in
/-- 145: StoneHome.held(II)I -/
def at_X10_held : List (Nat × am_I) := [(0, .iload_n 1, 1, 1, 0), (1, .ineg, 2, 0, 0), (2, .iload_n 1, 3, 1, 0), (3, .iload_n 0, 4, 0, 0), (4, .invokestatic 325, 7, 997, 2), (7, .invokestatic 310, 10, 996, 2), (10, .ireturn, 11, 0, 0)]
set_option maxRecDepth 20000 in
/-- 146: StoneHome.settle(I)I -/
def at_X10_settle : List (Nat × am_I) := [(0, .iload_n 1, 1, 1, 0), (1, .iconst (-1), 2, 0, 0), (2, .if_icmp .ne 8, 5, 10, 0), (5, .aload_n 0, 6, 0, 0), (6, .invokevirtual 304, 9, 147, 0), (9, .ireturn, 10, 0, 0), (10, .aload_n 0, 11, 0, 0), (11, .getfield 42, 14, 10, 6),
  (14, .iload_n 1, 15, 1, 0), (15, .iconst 3, 16, 0, 0), (16, .idiv, 17, 0, 0), (17, .putfield 110, 20, 6, 0), (20, .aload_n 0, 21, 0, 0), (21, .getfield 42, 24, 10, 6), (24, .iload_n 1, 25, 1, 0), (25, .iconst 3, 26, 0, 0),
  (26, .irem, 27, 0, 0), (27, .putfield 120, 30, 6, 8), (30, .aload_n 0, 31, 0, 0), (31, .getfield 42, 34, 10, 6), (34, .aload_n 0, 35, 0, 0), (35, .getfield 23, 38, 10, 3), (38, .aload_n 0, 39, 0, 0), (39, .getfield 42, 42, 10, 6),
  (42, .getfield 110, 45, 6, 0), (45, .invokevirtual 307, 48, 88, 1), (48, .bipush 6, 50, 0, 0), (50, .if_icmp .ne 7, 53, 57, 0), (53, .iconst 1, 54, 0, 0), (54, .goto 4, 57, 58, 0), (57, .iconst 0, 58, 0, 0), (58, .putfield 107, 61, 6, 48),
  (61, .aload_n 0, 62, 0, 0), (62, .getfield 42, 65, 10, 6), (65, .getfield 107, 68, 6, 6), (68, .ireturn, 69, 0, 0)]
set_option maxRecDepth 20000 in
/-- 147: StoneHome.lose()I -/
def at_X10_lose : List (Nat × am_I) := [(0, .aload_n 0, 1, 0, 0), (1, .getfield 42, 4, 10, 6), (4, .getfield 123, 7, 6, 2), (7, .ifCond .ne 13, 10, 20, 0), (10, .aload_n 0, 11, 0, 0), (11, .getfield 42, 14, 10, 6), (14, .iconst 2, 15, 0, 0), (15, .putfield 107, 18, 6, 48),
  (18, .iconst 2, 19, 0, 0), (19, .ireturn, 20, 0, 0), (20, .aload_n 0, 21, 0, 0), (21, .getfield 42, 24, 10, 6), (24, .dup, 25, 0, 0), (25, .getfield 123, 28, 6, 2), (28, .iconst 1, 29, 0, 0), (29, .isub, 30, 0, 0),
  (30, .putfield 123, 33, 6, 16), (33, .aload_n 0, 34, 0, 0), (34, .getfield 42, 37, 10, 6), (37, .dup, 38, 0, 0), (38, .getfield 135, 41, 6, 3), (41, .iconst 1, 42, 0, 0), (42, .iadd, 43, 0, 0), (43, .putfield 135, 46, 6, 24),
  (46, .iconst 3, 47, 0, 0), (47, .ireturn, 48, 0, 0)]
set_option maxRecDepth 20000 in
/-- 148: StoneHome.waits()I -/
def at_X10_waits : List (Nat × am_I) := [(0, .aload_n 0, 1, 0, 0), (1, .getfield 42, 4, 10, 6), (4, .getfield 107, 7, 6, 6), (7, .ifCond .eq 6, 10, 13, 0), (10, .bipush (-2), 12, 0, 0), (12, .ireturn, 13, 0, 0), (13, .aload_n 0, 14, 0, 0), (14, .bipush 24, 16, 0, 0),
  (16, .invokevirtual 159, 19, 144, 1), (19, .ireturn, 20, 0, 0)]
set_option maxRecDepth 20000 in
/-- 149: StoneHome.touch(I)Z -/
def at_X10_touch : List (Nat × am_I) := [(0, .aload_n 0, 1, 0, 0), (1, .iload_n 1, 2, 1, 0), (2, .invokevirtual 162, 5, 150, 1), (5, .istore_n 2, 6, 2, 0), (6, .iload_n 2, 7, 2, 0), (7, .iconst (-1), 8, 0, 0), (8, .if_icmp .eq 13, 11, 21, 0), (11, .aload_n 0, 12, 0, 0),
  (12, .getfield 42, 15, 10, 6), (15, .getfield 107, 18, 6, 6), (18, .ifCond .eq 5, 21, 23, 0), (21, .iconst 0, 22, 0, 0), (22, .ireturn, 23, 0, 0), (23, .aload_n 0, 24, 0, 0), (24, .getfield 49, 27, 10, 7), (27, .aload_n 0, 28, 0, 0),
  (28, .getfield 42, 31, 10, 6), (31, .invokevirtual 165, 34, 30, 1), (34, .aload_n 0, 35, 0, 0), (35, .getfield 42, 38, 10, 6), (38, .dup, 39, 0, 0), (39, .getfield 132, 42, 6, 5), (42, .iconst 1, 43, 0, 0), (43, .iadd, 44, 0, 0),
  (44, .putfield 132, 47, 6, 40), (47, .aload_n 0, 48, 0, 0), (48, .iload_n 2, 49, 2, 0), (49, .aload_n 0, 50, 0, 0), (50, .getfield 42, 53, 10, 6), (53, .getfield 120, 56, 6, 1), (56, .invokestatic 169, 59, 131, 2), (59, .invokevirtual 172, 62, 146, 1),
  (62, .pop, 63, 0, 0), (63, .iconst 1, 64, 0, 0), (64, .ireturn, 65, 0, 0)]
set_option maxRecDepth 20000 in
/-- 150: StoneHome.touched(I)I -/
def at_X10_touched : List (Nat × am_I) := [(0, .aload_n 0, 1, 0, 0), (1, .getfield 42, 4, 10, 6), (4, .getfield 110, 7, 6, 0), (7, .invokestatic 113, 10, 138, 1), (10, .istore_n 2, 11, 2, 0), (11, .aload_n 0, 12, 0, 0), (12, .getfield 42, 15, 10, 6), (15, .getfield 110, 18, 6, 0),
  (18, .invokestatic 117, 21, 139, 1), (21, .istore_n 3, 22, 3, 0), (22, .iload_n 1, 23, 1, 0), (23, .tableswitch 53 0 3 #[29, 35, 41, 47], 52, 76, 0), (52, .iinc 2 1, 55, 2, 0), (55, .goto 23, 58, 78, 0), (58, .iinc 2 (-1), 61, 2, 0), (61, .goto 17, 64, 78, 0),
  (64, .iinc 3 1, 67, 3, 0), (67, .goto 11, 70, 78, 0), (70, .iinc 3 (-1), 73, 3, 0), (73, .goto 5, 76, 78, 0), (76, .iconst (-1), 77, 0, 0), (77, .ireturn, 78, 0, 0), (78, .aload_n 0, 79, 0, 0), (79, .getfield 23, 82, 10, 3),
  (82, .iload_n 2, 83, 2, 0), (83, .iload_n 3, 84, 3, 0), (84, .invokevirtual 138, 87, 94, 2), (87, .iconst (-1), 88, 0, 0), (88, .if_icmp .ne 5, 91, 93, 0), (91, .iconst (-1), 92, 0, 0), (92, .ireturn, 93, 0, 0), (93, .iload_n 2, 94, 2, 0),
  (94, .iload_n 3, 95, 3, 0), (95, .invokestatic 142, 98, 130, 2), (98, .istore 4, 100, 4, 0), (100, .aload_n 0, 101, 0, 0), (101, .getfield 23, 104, 10, 3), (104, .iload 4, 106, 4, 0), (106, .invokevirtual 226, 109, 89, 1), (109, .ifCond .eq 8, 112, 117, 0),
  (112, .iload 4, 114, 4, 0), (114, .goto 4, 117, 118, 0), (117, .iconst (-1), 118, 0, 0), (118, .ireturn, 119, 0, 0)]
set_option maxRecDepth 20000 in
/-- 151: StoneHome.undo()Z -/
def at_X10_undo : List (Nat × am_I) := [(0, .aload_n 0, 1, 0, 0), (1, .getfield 49, 4, 10, 7), (4, .aload_n 0, 5, 0, 0), (5, .getfield 42, 8, 10, 6), (8, .invokevirtual 175, 11, 31, 1), (11, .ireturn, 12, 0, 0)]
set_option maxRecDepth 20000 in
/-- 152: StoneHome.brings(III)I -/
def at_X10_brings : List (Nat × am_I) := [(0, .aload_n 0, 1, 0, 0), (1, .getfield 23, 4, 10, 3), (4, .iload_n 1, 5, 1, 0), (5, .iload_n 2, 6, 2, 0), (6, .invokevirtual 179, 9, 105, 2), (9, .ifCond .eq 20, 12, 29, 0), (12, .iload_n 3, 13, 3, 0), (13, .ifCond .lt 16, 16, 29, 0),
  (16, .iload_n 3, 17, 3, 0), (17, .iconst 3, 18, 0, 0), (18, .if_icmp .gt 11, 21, 29, 0), (21, .aload_n 0, 22, 0, 0), (22, .iload_n 1, 23, 1, 0), (23, .invokevirtual 153, 26, 143, 1), (26, .ifCond .ne 5, 29, 31, 0), (29, .iconst (-1), 30, 0, 0),
  (30, .ireturn, 31, 0, 0), (31, .iload_n 1, 32, 1, 0), (32, .bipush 6, 34, 0, 0), (34, .imul, 35, 0, 0), (35, .iload_n 2, 36, 2, 0), (36, .iadd, 37, 0, 0), (37, .istore 4, 39, 4, 0), (39, .aload_n 0, 40, 0, 0),
  (40, .getfield 23, 43, 10, 3), (43, .aload_n 0, 44, 0, 0), (44, .getfield 42, 47, 10, 6), (47, .invokevirtual 182, 50, 83, 0), (50, .iload 4, 52, 4, 0), (52, .aload_n 0, 53, 0, 0), (53, .getfield 42, 56, 10, 6), (56, .getfield 126, 59, 6, 4),
  (59, .aload_n 0, 60, 0, 0), (60, .getfield 23, 63, 10, 3), (63, .getfield 129, 66, 7, 14), (66, .imul, 67, 0, 0), (67, .invokevirtual 185, 70, 104, 3), (70, .istore 5, 72, 5, 0), (72, .iload_n 3, 73, 3, 0), (73, .iconst 3, 74, 0, 0),
  (74, .if_icmp .ne 15, 77, 89, 0), (77, .iload 5, 79, 5, 0), (79, .iconst (-1), 80, 0, 0), (80, .if_icmp .ne 7, 83, 87, 0), (83, .iconst 1, 84, 0, 0), (84, .goto 4, 87, 88, 0), (87, .iconst 0, 88, 0, 0), (88, .ireturn, 89, 0, 0),
  (89, .iload 5, 91, 5, 0), (91, .iconst (-1), 92, 0, 0), (92, .if_icmp .ne 16, 95, 108, 0), (95, .aload_n 0, 96, 0, 0), (96, .getfield 42, 99, 10, 6), (99, .getfield 123, 102, 6, 2), (102, .ifCond .ne 6, 105, 108, 0), (105, .bipush (-2), 107, 0, 0),
  (107, .ireturn, 108, 0, 0), (108, .iload 5, 110, 5, 0), (110, .iconst (-1), 111, 0, 0), (111, .if_icmp .ne 13, 114, 124, 0), (114, .aload_n 0, 115, 0, 0), (115, .getfield 42, 118, 10, 6), (118, .invokevirtual 182, 121, 83, 0), (121, .goto 5, 124, 126, 0),
  (124, .iload 5, 126, 5, 0), (126, .istore 6, 128, 6, 0), (128, .iload_n 3, 129, 3, 0), (129, .iconst 2, 130, 0, 0), (130, .if_icmp .ne 8, 133, 138, 0), (133, .iload 6, 135, 6, 0), (135, .iconst 3, 136, 0, 0), (136, .irem, 137, 0, 0),
  (137, .ireturn, 138, 0, 0), (138, .iload_n 3, 139, 3, 0), (139, .ifCond .ne 13, 142, 152, 0), (142, .iload 6, 144, 6, 0), (144, .iconst 3, 145, 0, 0), (145, .idiv, 146, 0, 0), (146, .invokestatic 113, 149, 138, 1), (149, .goto 10, 152, 159, 0),
  (152, .iload 6, 154, 6, 0), (154, .iconst 3, 155, 0, 0), (155, .idiv, 156, 0, 0), (156, .invokestatic 117, 159, 139, 1), (159, .ireturn, 160, 0, 0)]
set_option maxRecDepth 20000 in
/-- 153: StoneHome.home(IZ)I -/
def at_X10_home : List (Nat × am_I) := [(0, .iload_n 1, 1, 1, 0), (1, .invokestatic 189, 4, 154, 1), (4, .ifCond .eq 16, 7, 20, 0), (7, .aload_n 0, 8, 0, 0), (8, .iload_n 1, 9, 1, 0), (9, .invokevirtual 192, 12, 155, 1), (12, .iload_n 1, 13, 1, 0), (13, .iload_n 2, 14, 2, 0),
  (14, .invokestatic 195, 17, 157, 3), (17, .goto 4, 20, 21, 0), (20, .iconst (-1), 21, 0, 0), (21, .ireturn, 22, 0, 0)]
set_option maxRecDepth 20000 in
/-- 154: StoneHome.isSpan(I)Z -/
def at_X10_isSpan : List (Nat × am_I) := [(0, .iload_n 0, 1, 0, 0), (1, .ifCond .lt 13, 4, 14, 0), (4, .iload_n 0, 5, 0, 0), (5, .bipush 10, 7, 0, 0), (7, .if_icmp .gt 7, 10, 14, 0), (10, .iconst 1, 11, 0, 0), (11, .goto 4, 14, 15, 0), (14, .iconst 0, 15, 0, 0),
  (15, .ireturn, 16, 0, 0)]
set_option maxRecDepth 20000 in
/-- 155: StoneHome.homeChance(I)I -/
def at_X10_homeChance : List (Nat × am_I) := [(0, .aload_n 0, 1, 0, 0), (1, .getfield 42, 4, 10, 6), (4, .getfield 107, 7, 6, 6), (7, .iconst 2, 8, 0, 0), (8, .if_icmp .ne 5, 11, 13, 0), (11, .iconst 0, 12, 0, 0), (12, .ireturn, 13, 0, 0), (13, .aload_n 0, 14, 0, 0),
  (14, .getfield 71, 17, 10, 10), (17, .aload_n 0, 18, 0, 0), (18, .getfield 42, 21, 10, 6), (21, .getfield 126, 24, 6, 4), (24, .iload_n 1, 25, 1, 0), (25, .iconst (-1), 26, 0, 0), (26, .iconst (-1), 27, 0, 0), (27, .invokevirtual 216, 30, 2, 4),
  (30, .aload_n 0, 31, 0, 0), (31, .getfield 71, 34, 10, 10), (34, .aload_n 0, 35, 0, 0), (35, .getfield 42, 38, 10, 6), (38, .invokevirtual 182, 41, 83, 0), (41, .aload_n 0, 42, 0, 0), (42, .getfield 42, 45, 10, 6), (45, .getfield 123, 48, 6, 2),
  (48, .invokevirtual 210, 51, 10, 2), (51, .ireturn, 52, 0, 0)]
set_option maxRecDepth 20000 in
/-- 156: StoneHome.sixesOf(I)I -/
def at_X10_sixesOf : List (Nat × am_I) := [(0, .iload_n 0, 1, 0, 0), (1, .ifCond .lt 19, 4, 20, 0), (4, .iload_n 0, 5, 0, 0), (5, .getstatic 318, 8, 0, 0), (8, .arraylength, 9, 0, 0), (9, .if_icmp .ge 11, 12, 20, 0), (12, .getstatic 318, 15, 0, 0), (15, .iload_n 0, 16, 0, 0),
  (16, .iaload, 17, 0, 0), (17, .goto 4, 20, 21, 0), (20, .iconst 1, 21, 0, 0), (21, .ireturn, 22, 0, 0)]
set_option maxRecDepth 20000 in
/-- 157: StoneHome.fraction(IIZ)I -/
def at_X10_fraction : List (Nat × am_I) := [(0, .iload_n 1, 1, 1, 0), (1, .invokestatic 202, 4, 156, 1), (4, .istore_n 3, 5, 3, 0), (5, .iload_n 3, 6, 3, 0), (6, .iload_n 0, 7, 0, 0), (7, .invokestatic 322, 10, 158, 2), (10, .istore 4, 12, 4, 0), (12, .iload 4, 14, 4, 0),
  (14, .ifCond .ne 5, 17, 19, 0), (17, .iconst 0, 18, 0, 0), (18, .ireturn, 19, 0, 0), (19, .iload_n 2, 20, 2, 0), (20, .ifCond .eq 7, 23, 27, 0), (23, .iload_n 3, 24, 3, 0), (24, .goto 4, 27, 28, 0), (27, .iload_n 0, 28, 0, 0),
  (28, .iload 4, 30, 4, 0), (30, .idiv, 31, 0, 0), (31, .ireturn, 32, 0, 0)]
set_option maxRecDepth 20000 in
/-- 158: StoneHome.commonDivisor(II)I -/
def at_X10_commonDivisor : List (Nat × am_I) := [(0, .iload_n 0, 1, 0, 0), (1, .istore_n 2, 2, 2, 0), (2, .iload_n 1, 3, 1, 0), (3, .istore_n 3, 4, 3, 0), (4, .iconst 0, 5, 0, 0), (5, .istore 4, 7, 4, 0), (7, .iload 4, 9, 4, 0), (9, .bipush 64, 11, 0, 0),
  (11, .if_icmp .ge 23, 14, 34, 0), (14, .iload_n 3, 15, 3, 0), (15, .ifCond .eq 19, 18, 34, 0), (18, .iload_n 2, 19, 2, 0), (19, .iload_n 3, 20, 3, 0), (20, .irem, 21, 0, 0), (21, .istore 5, 23, 5, 0), (23, .iload_n 3, 24, 3, 0),
  (24, .istore_n 2, 25, 2, 0), (25, .iload 5, 27, 5, 0), (27, .istore_n 3, 28, 3, 0), (28, .iinc 4 1, 31, 4, 0), (31, .goto (-24), 34, 7, 0), (34, .iload_n 2, 35, 2, 0), (35, .ireturn, 36, 0, 0)]
set_option maxRecDepth 20000 in
/-- 159: StoneHome.best(I)I -/
def at_X10_best : List (Nat × am_I) := [(0, .iload_n 1, 1, 1, 0), (1, .invokestatic 189, 4, 154, 1), (4, .ifCond .eq 7, 7, 11, 0), (7, .iload_n 1, 8, 1, 0), (8, .ifCond .ne 5, 11, 13, 0), (11, .iconst (-1), 12, 0, 0), (12, .ireturn, 13, 0, 0), (13, .aload_n 0, 14, 0, 0),
  (14, .getfield 42, 17, 10, 6), (17, .getfield 107, 20, 6, 6), (20, .ifCond .ne 18, 23, 38, 0), (23, .aload_n 0, 24, 0, 0), (24, .aload_n 0, 25, 0, 0), (25, .getfield 42, 28, 10, 6), (28, .getfield 110, 31, 6, 0), (31, .iload_n 1, 32, 1, 0),
  (32, .invokevirtual 199, 35, 160, 2), (35, .goto 5, 38, 40, 0), (38, .bipush (-2), 40, 0, 0), (40, .ireturn, 41, 0, 0)]
set_option maxRecDepth 20000 in
/-- 160: StoneHome.bestFrom(II)I -/
def at_X10_bestFrom : List (Nat × am_I) := [(0, .aload_n 0, 1, 0, 0), (1, .getfield 71, 4, 10, 10), (4, .aload_n 0, 5, 0, 0), (5, .getfield 42, 8, 10, 6), (8, .getfield 126, 11, 6, 4), (11, .iload_n 2, 12, 2, 0), (12, .iconst (-1), 13, 0, 0), (13, .iconst (-1), 14, 0, 0),
  (14, .invokevirtual 216, 17, 2, 4), (17, .aload_n 0, 18, 0, 0), (18, .getfield 71, 21, 10, 10), (21, .aload_n 0, 22, 0, 0), (22, .getfield 42, 25, 10, 6), (25, .getfield 126, 28, 6, 4), (28, .iload_n 1, 29, 1, 0), (29, .aload_n 0, 30, 0, 0),
  (30, .getfield 42, 33, 10, 6), (33, .getfield 120, 36, 6, 1), (36, .invokestatic 169, 39, 131, 2), (39, .aload_n 0, 40, 0, 0), (40, .getfield 42, 43, 10, 6), (43, .getfield 123, 46, 6, 2), (46, .invokevirtual 315, 49, 11, 3), (49, .ireturn, 50, 0, 0)]
set_option maxRecDepth 20000 in
/-- 161: StoneHome.sure(I)I -/
def at_X10_sure : List (Nat × am_I) := [(0, .iload_n 1, 1, 1, 0), (1, .invokestatic 189, 4, 154, 1), (4, .ifCond .ne 5, 7, 9, 0), (7, .iconst (-1), 8, 0, 0), (8, .ireturn, 9, 0, 0), (9, .aload_n 0, 10, 0, 0), (10, .iload_n 1, 11, 1, 0), (11, .invokevirtual 192, 14, 155, 1),
  (14, .iload_n 1, 15, 1, 0), (15, .invokestatic 202, 18, 156, 1), (18, .if_icmp .ne 7, 21, 25, 0), (21, .iconst 1, 22, 0, 0), (22, .goto 4, 25, 26, 0), (25, .iconst 0, 26, 0, 0), (26, .ireturn, 27, 0, 0)]
set_option maxRecDepth 20000 in
/-- 162: StoneHome.least(I)I -/
def at_X10_least : List (Nat × am_I) := [(0, .iload_n 1, 1, 1, 0), (1, .ifCond .lt 9, 4, 10, 0), (4, .iload_n 1, 5, 1, 0), (5, .bipush 100, 7, 0, 0), (7, .if_icmp .le 5, 10, 12, 0), (10, .iconst (-1), 11, 0, 0), (11, .ireturn, 12, 0, 0), (12, .iconst 0, 13, 0, 0),
  (13, .istore_n 2, 14, 2, 0), (14, .iload_n 2, 15, 2, 0), (15, .bipush 10, 17, 0, 0), (17, .if_icmp .gt 33, 20, 50, 0), (20, .ldc2_w 205, 23, 0, 100), (23, .aload_n 0, 24, 0, 0), (24, .iload_n 2, 25, 2, 0), (25, .invokevirtual 192, 28, 155, 1),
  (28, .i2l, 29, 0, 0), (29, .lmul, 30, 0, 0), (30, .iload_n 1, 31, 1, 0), (31, .i2l, 32, 0, 0), (32, .iload_n 2, 33, 2, 0), (33, .invokestatic 202, 36, 156, 1), (36, .i2l, 37, 0, 0), (37, .lmul, 38, 0, 0),
  (38, .lcmp, 39, 0, 0), (39, .ifCond .lt 5, 42, 44, 0), (42, .iload_n 2, 43, 2, 0), (43, .ireturn, 44, 0, 0), (44, .iinc 2 1, 47, 2, 0), (47, .goto (-33), 50, 14, 0), (50, .bipush (-2), 52, 0, 0), (52, .ireturn, 53, 0, 0)]
set_option maxRecDepth 20000 in
/-- 163: StoneHome.rule(IIZ)I -/
def at_X10_rule : List (Nat × am_I) := [(0, .aload_n 0, 1, 0, 0), (1, .getfield 23, 4, 10, 3), (4, .iload_n 1, 5, 1, 0), (5, .invokevirtual 149, 8, 96, 1), (8, .ifCond .eq 10, 11, 18, 0), (11, .iload_n 2, 12, 2, 0), (12, .invokestatic 189, 15, 154, 1), (15, .ifCond .ne 5, 18, 20, 0),
  (18, .iconst (-1), 19, 0, 0), (19, .ireturn, 20, 0, 0), (20, .aload_n 0, 21, 0, 0), (21, .iload_n 1, 22, 1, 0), (22, .iload_n 2, 23, 2, 0), (23, .iconst (-1), 24, 0, 0), (24, .invokevirtual 207, 27, 164, 3), (27, .iload_n 2, 28, 2, 0),
  (28, .iload_n 3, 29, 3, 0), (29, .invokestatic 195, 32, 157, 3), (32, .ireturn, 33, 0, 0)]
set_option maxRecDepth 20000 in
/-- 164: StoneHome.ruledChance(III)I -/
def at_X10_ruledChance : List (Nat × am_I) := [(0, .aload_n 0, 1, 0, 0), (1, .getfield 42, 4, 10, 6), (4, .getfield 107, 7, 6, 6), (7, .iconst 2, 8, 0, 0), (8, .if_icmp .ne 5, 11, 13, 0), (11, .iconst 0, 12, 0, 0), (12, .ireturn, 13, 0, 0), (13, .aload_n 0, 14, 0, 0),
  (14, .getfield 71, 17, 10, 10), (17, .aload_n 0, 18, 0, 0), (18, .getfield 42, 21, 10, 6), (21, .getfield 126, 24, 6, 4), (24, .iload_n 2, 25, 2, 0), (25, .iload_n 1, 26, 1, 0), (26, .iload_n 3, 27, 3, 0), (27, .invokevirtual 216, 30, 2, 4),
  (30, .aload_n 0, 31, 0, 0), (31, .getfield 71, 34, 10, 10), (34, .aload_n 0, 35, 0, 0), (35, .getfield 42, 38, 10, 6), (38, .invokevirtual 182, 41, 83, 0), (41, .aload_n 0, 42, 0, 0), (42, .getfield 42, 45, 10, 6), (45, .getfield 123, 48, 6, 2),
  (48, .invokevirtual 210, 51, 10, 2), (51, .ireturn, 52, 0, 0)]
set_option maxRecDepth 20000 in
/-- 165: StoneHome.comes(IIIIZ)I -/
def at_X10_comes : List (Nat × am_I) := [(0, .aload_n 0, 1, 0, 0), (1, .getfield 23, 4, 10, 3), (4, .iload_n 1, 5, 1, 0), (5, .invokevirtual 149, 8, 96, 1), (8, .ifCond .eq 24, 11, 32, 0), (11, .iload_n 2, 12, 2, 0), (12, .invokestatic 189, 15, 154, 1), (15, .ifCond .eq 17, 18, 32, 0),
  (18, .aload_n 0, 19, 0, 0), (19, .getfield 23, 22, 10, 3), (22, .iload_n 3, 23, 3, 0), (23, .iload 4, 25, 4, 0), (25, .invokevirtual 138, 28, 94, 2), (28, .iconst (-1), 29, 0, 0), (29, .if_icmp .ne 5, 32, 34, 0), (32, .iconst (-1), 33, 0, 0),
  (33, .ireturn, 34, 0, 0), (34, .aload_n 0, 35, 0, 0), (35, .iload_n 1, 36, 1, 0), (36, .iload_n 2, 37, 2, 0), (37, .iload_n 3, 38, 3, 0), (38, .iload 4, 40, 4, 0), (40, .invokestatic 142, 43, 130, 2), (43, .invokevirtual 207, 46, 164, 3),
  (46, .iload_n 2, 47, 2, 0), (47, .iload 5, 49, 5, 0), (49, .invokestatic 195, 52, 157, 3), (52, .ireturn, 53, 0, 0)]
set_option maxRecDepth 20000 in
/-- 166: StoneHome.worth(IZZ)I -/
def at_X10_worth : List (Nat × am_I) := [(0, .iload_n 1, 1, 1, 0), (1, .invokestatic 189, 4, 154, 1), (4, .ifCond .ne 5, 7, 9, 0), (7, .iconst (-1), 8, 0, 0), (8, .ireturn, 9, 0, 0), (9, .aload_n 0, 10, 0, 0), (10, .getfield 42, 13, 10, 6), (13, .getfield 107, 16, 6, 6),
  (16, .ifCond .eq 10, 19, 26, 0), (19, .iconst 0, 20, 0, 0), (20, .iload_n 1, 21, 1, 0), (21, .iload_n 3, 22, 3, 0), (22, .invokestatic 195, 25, 157, 3), (25, .ireturn, 26, 0, 0), (26, .aload_n 0, 27, 0, 0), (27, .iload_n 1, 28, 1, 0),
  (28, .invokevirtual 192, 31, 155, 1), (31, .istore 4, 33, 4, 0), (33, .iload_n 2, 34, 2, 0), (34, .ifCond .eq 29, 37, 63, 0), (37, .aload_n 0, 38, 0, 0), (38, .getfield 71, 41, 10, 10), (41, .aload_n 0, 42, 0, 0), (42, .getfield 42, 45, 10, 6),
  (45, .invokevirtual 182, 48, 83, 0), (48, .aload_n 0, 49, 0, 0), (49, .getfield 42, 52, 10, 6), (52, .getfield 123, 55, 6, 2), (55, .iconst 1, 56, 0, 0), (56, .iadd, 57, 0, 0), (57, .invokevirtual 210, 60, 10, 2), (60, .goto 9, 63, 69, 0),
  (63, .aload_n 0, 64, 0, 0), (64, .iload 4, 66, 4, 0), (66, .invokevirtual 213, 69, 167, 1), (69, .istore 5, 71, 5, 0), (71, .iload 5, 73, 5, 0), (73, .iload 4, 75, 4, 0), (75, .isub, 76, 0, 0), (76, .iload_n 1, 77, 1, 0),
  (77, .iload_n 3, 78, 3, 0), (78, .invokestatic 195, 81, 157, 3), (81, .ireturn, 82, 0, 0)]
set_option maxRecDepth 20000 in
/-- 167: StoneHome.touchedChance(I)I -/
def at_X10_touchedChance : List (Nat × am_I) := [(0, .iload_n 1, 1, 1, 0), (1, .istore_n 2, 2, 2, 0), (2, .iconst 0, 3, 0, 0), (3, .istore_n 3, 4, 3, 0), (4, .iload_n 3, 5, 3, 0), (5, .iconst 4, 6, 0, 0), (6, .if_icmp .ge 53, 9, 59, 0), (9, .aload_n 0, 10, 0, 0),
  (10, .iload_n 3, 11, 3, 0), (11, .invokevirtual 162, 14, 150, 1), (14, .istore 4, 16, 4, 0), (16, .iload 4, 18, 4, 0), (18, .iconst (-1), 19, 0, 0), (19, .if_icmp .eq 34, 22, 53, 0), (22, .iload_n 2, 23, 2, 0), (23, .aload_n 0, 24, 0, 0),
  (24, .getfield 71, 27, 10, 10), (27, .iload 4, 29, 4, 0), (29, .aload_n 0, 30, 0, 0), (30, .getfield 42, 33, 10, 6), (33, .getfield 120, 36, 6, 1), (36, .invokestatic 169, 39, 131, 2), (39, .aload_n 0, 40, 0, 0), (40, .getfield 42, 43, 10, 6),
  (43, .getfield 123, 46, 6, 2), (46, .invokevirtual 210, 49, 10, 2), (49, .invokestatic 310, 52, 996, 2), (52, .istore_n 2, 53, 2, 0), (53, .iinc 3 1, 56, 3, 0), (56, .goto (-52), 59, 4, 0), (59, .iload_n 2, 60, 2, 0), (60, .ireturn, 61, 0, 0)]
set_option maxRecDepth 20000 in
/-- 168: StoneHome.face(I)I -/
def at_X10_face : List (Nat × am_I) := [(0, .iload_n 1, 1, 1, 0), (1, .invokestatic 189, 4, 154, 1), (4, .ifCond .ne 5, 7, 9, 0), (7, .iconst (-1), 8, 0, 0), (8, .ireturn, 9, 0, 0), (9, .aload_n 0, 10, 0, 0), (10, .getfield 42, 13, 10, 6), (13, .getfield 107, 16, 6, 6),
  (16, .ifCond .eq 6, 19, 22, 0), (19, .bipush (-2), 21, 0, 0), (21, .ireturn, 22, 0, 0), (22, .aload_n 0, 23, 0, 0), (23, .getfield 71, 26, 10, 10), (26, .aload_n 0, 27, 0, 0), (27, .getfield 42, 30, 10, 6), (30, .getfield 126, 33, 6, 4),
  (33, .iload_n 1, 34, 1, 0), (34, .iconst (-1), 35, 0, 0), (35, .iconst (-1), 36, 0, 0), (36, .invokevirtual 216, 39, 2, 4), (39, .iconst (-1), 40, 0, 0), (40, .istore_n 2, 41, 2, 0), (41, .iconst 0, 42, 0, 0), (42, .istore_n 3, 43, 3, 0),
  (43, .iconst 0, 44, 0, 0), (44, .istore 4, 46, 4, 0), (46, .iload 4, 48, 4, 0), (48, .aload_n 0, 49, 0, 0), (49, .getfield 23, 52, 10, 3), (52, .getfield 220, 55, 7, 3), (55, .if_icmp .ge 49, 58, 104, 0), (58, .aload_n 0, 59, 0, 0),
  (59, .getfield 71, 62, 10, 10), (62, .aload_n 0, 63, 0, 0), (63, .getfield 42, 66, 10, 6), (66, .getfield 110, 69, 6, 0), (69, .iload 4, 71, 4, 0), (71, .invokestatic 169, 74, 131, 2), (74, .aload_n 0, 75, 0, 0), (75, .getfield 42, 78, 10, 6),
  (78, .getfield 123, 81, 6, 2), (81, .invokevirtual 210, 84, 10, 2), (84, .istore 5, 86, 5, 0), (86, .iload 5, 88, 5, 0), (88, .iload_n 2, 89, 2, 0), (89, .if_icmp .le 9, 92, 98, 0), (92, .iload 5, 94, 5, 0), (94, .istore_n 2, 95, 2, 0),
  (95, .iload 4, 97, 4, 0), (97, .istore_n 3, 98, 3, 0), (98, .iinc 4 1, 101, 4, 0), (101, .goto (-55), 104, 46, 0), (104, .iload_n 3, 105, 3, 0), (105, .ireturn, 106, 0, 0)]
set_option maxRecDepth 20000 in
/-- 169: StoneHome.side(I)I -/
def at_X10_side : List (Nat × am_I) := [(0, .iload_n 1, 1, 1, 0), (1, .invokestatic 189, 4, 154, 1), (4, .ifCond .ne 5, 7, 9, 0), (7, .iconst (-1), 8, 0, 0), (8, .ireturn, 9, 0, 0), (9, .aload_n 0, 10, 0, 0), (10, .getfield 42, 13, 10, 6), (13, .getfield 107, 16, 6, 6),
  (16, .ifCond .eq 6, 19, 22, 0), (19, .bipush (-2), 21, 0, 0), (21, .ireturn, 22, 0, 0), (22, .aload_n 0, 23, 0, 0), (23, .getfield 71, 26, 10, 10), (26, .aload_n 0, 27, 0, 0), (27, .getfield 42, 30, 10, 6), (30, .getfield 126, 33, 6, 4),
  (33, .iload_n 1, 34, 1, 0), (34, .iconst (-1), 35, 0, 0), (35, .iconst (-1), 36, 0, 0), (36, .invokevirtual 216, 39, 2, 4), (39, .iconst (-1), 40, 0, 0), (40, .istore_n 2, 41, 2, 0), (41, .iconst 0, 42, 0, 0), (42, .istore_n 3, 43, 3, 0),
  (43, .iconst 0, 44, 0, 0), (44, .istore 4, 46, 4, 0), (46, .iload 4, 48, 4, 0), (48, .aload_n 0, 49, 0, 0), (49, .getfield 23, 52, 10, 3), (52, .getfield 223, 55, 7, 1), (55, .if_icmp .ge 82, 58, 137, 0), (58, .aload_n 0, 59, 0, 0),
  (59, .getfield 42, 62, 10, 6), (62, .getfield 110, 65, 6, 0), (65, .invokestatic 113, 68, 138, 1), (68, .iload 4, 70, 4, 0), (70, .invokestatic 142, 73, 130, 2), (73, .istore 5, 75, 5, 0), (75, .aload_n 0, 76, 0, 0), (76, .getfield 23, 79, 10, 3),
  (79, .iload 5, 81, 5, 0), (81, .invokevirtual 226, 84, 89, 1), (84, .ifCond .eq 32, 87, 116, 0), (87, .aload_n 0, 88, 0, 0), (88, .getfield 71, 91, 10, 10), (91, .iload 5, 93, 5, 0), (93, .aload_n 0, 94, 0, 0), (94, .getfield 42, 97, 10, 6),
  (97, .getfield 120, 100, 6, 1), (100, .invokestatic 169, 103, 131, 2), (103, .aload_n 0, 104, 0, 0), (104, .getfield 42, 107, 10, 6), (107, .getfield 123, 110, 6, 2), (110, .invokevirtual 210, 113, 10, 2), (113, .goto 4, 116, 117, 0), (116, .iconst (-1), 117, 0, 0),
  (117, .istore 6, 119, 6, 0), (119, .iload 6, 121, 6, 0), (121, .iload_n 2, 122, 2, 0), (122, .if_icmp .le 9, 125, 131, 0), (125, .iload 6, 127, 6, 0), (127, .istore_n 2, 128, 2, 0), (128, .iload 4, 130, 4, 0), (130, .istore_n 3, 131, 3, 0),
  (131, .iinc 4 1, 134, 4, 0), (134, .goto (-88), 137, 46, 0), (137, .iload_n 3, 138, 3, 0), (138, .ireturn, 139, 0, 0)]
set_option maxRecDepth 20000 in
/-- 170: StoneHome.goBy(I)I -/
def at_X10_goBy : List (Nat × am_I) := [(0, .iload_n 1, 1, 1, 0), (1, .invokestatic 189, 4, 154, 1), (4, .ifCond .ne 5, 7, 9, 0), (7, .iconst (-1), 8, 0, 0), (8, .ireturn, 9, 0, 0), (9, .aload_n 0, 10, 0, 0), (10, .getfield 42, 13, 10, 6), (13, .getfield 107, 16, 6, 6),
  (16, .ifCond .eq 6, 19, 22, 0), (19, .bipush (-2), 21, 0, 0), (21, .ireturn, 22, 0, 0), (22, .iconst (-1), 23, 0, 0), (23, .istore_n 2, 24, 2, 0), (24, .iconst 0, 25, 0, 0), (25, .istore_n 3, 26, 3, 0), (26, .iconst 0, 27, 0, 0),
  (27, .istore 4, 29, 4, 0), (29, .iload 4, 31, 4, 0), (31, .iconst 5, 32, 0, 0), (32, .if_icmp .gt 30, 35, 62, 0), (35, .aload_n 0, 36, 0, 0), (36, .iload 4, 38, 4, 0), (38, .iload_n 1, 39, 1, 0), (39, .invokevirtual 229, 42, 171, 2),
  (42, .istore 5, 44, 5, 0), (44, .iload 5, 46, 5, 0), (46, .iload_n 2, 47, 2, 0), (47, .if_icmp .le 9, 50, 56, 0), (50, .iload 5, 52, 5, 0), (52, .istore_n 2, 53, 2, 0), (53, .iload 4, 55, 4, 0), (55, .istore_n 3, 56, 3, 0),
  (56, .iinc 4 1, 59, 4, 0), (59, .goto (-30), 62, 29, 0), (62, .iload_n 3, 63, 3, 0), (63, .ireturn, 64, 0, 0)]
set_option maxRecDepth 20000 in
/-- 171: StoneHome.chanceBehind(II)I -/
def at_X10_chanceBehind : List (Nat × am_I) := [(0, .aload_n 0, 1, 0, 0), (1, .getfield 42, 4, 10, 6), (4, .getfield 123, 7, 6, 2), (7, .istore_n 3, 8, 3, 0), (8, .iconst 1, 9, 0, 0), (9, .istore 4, 11, 4, 0), (11, .iload 4, 13, 4, 0), (13, .iload_n 1, 14, 1, 0),
  (14, .if_icmp .gt 47, 17, 61, 0), (17, .aload_n 0, 18, 0, 0), (18, .getfield 23, 21, 10, 3), (21, .aload_n 0, 22, 0, 0), (22, .getfield 42, 25, 10, 6), (25, .getfield 110, 28, 6, 0), (28, .aload_n 0, 29, 0, 0), (29, .getfield 42, 32, 10, 6),
  (32, .getfield 126, 35, 6, 4), (35, .iload 4, 37, 4, 0), (37, .iadd, 38, 0, 0), (38, .aload_n 0, 39, 0, 0), (39, .getfield 23, 42, 10, 3), (42, .getfield 129, 45, 7, 14), (45, .imul, 46, 0, 0), (46, .invokevirtual 145, 49, 95, 2),
  (49, .ifCond .eq 6, 52, 55, 0), (52, .iinc 3 (-1), 55, 3, 0), (55, .iinc 4 1, 58, 4, 0), (58, .goto (-47), 61, 11, 0), (61, .iload_n 3, 62, 3, 0), (62, .ifCond .ge 5, 65, 67, 0), (65, .iconst 0, 66, 0, 0), (66, .ireturn, 67, 0, 0),
  (67, .aload_n 0, 68, 0, 0), (68, .getfield 71, 71, 10, 10), (71, .aload_n 0, 72, 0, 0), (72, .getfield 42, 75, 10, 6), (75, .getfield 126, 78, 6, 4), (78, .iload_n 1, 79, 1, 0), (79, .iadd, 80, 0, 0), (80, .iload_n 2, 81, 2, 0),
  (81, .iconst (-1), 82, 0, 0), (82, .iconst (-1), 83, 0, 0), (83, .invokevirtual 216, 86, 2, 4), (86, .aload_n 0, 87, 0, 0), (87, .getfield 71, 90, 10, 10), (90, .aload_n 0, 91, 0, 0), (91, .getfield 42, 94, 10, 6), (94, .invokevirtual 182, 97, 83, 0),
  (97, .iload_n 3, 98, 3, 0), (98, .invokevirtual 210, 101, 10, 2), (101, .ireturn, 102, 0, 0)]
set_option maxRecDepth 20000 in
/-- 172: StoneHome.plan(III)I -/
def at_X10_plan : List (Nat × am_I) := [(0, .aload_n 0, 1, 0, 0), (1, .getfield 23, 4, 10, 3), (4, .iload_n 2, 5, 2, 0), (5, .iload_n 3, 6, 3, 0), (6, .invokevirtual 138, 9, 94, 2), (9, .istore 4, 11, 4, 0), (11, .iload_n 1, 12, 1, 0), (12, .invokestatic 189, 15, 154, 1),
  (15, .ifCond .eq 13, 18, 28, 0), (18, .iload_n 1, 19, 1, 0), (19, .ifCond .eq 9, 22, 28, 0), (22, .iload 4, 24, 4, 0), (24, .iconst (-1), 25, 0, 0), (25, .if_icmp .ne 5, 28, 30, 0), (28, .iconst (-1), 29, 0, 0), (29, .ireturn, 30, 0, 0),
  (30, .iload 4, 32, 4, 0), (32, .iconst 3, 33, 0, 0), (33, .if_icmp .gt 16, 36, 49, 0), (36, .aload_n 0, 37, 0, 0), (37, .iload_n 2, 38, 2, 0), (38, .iload_n 3, 39, 3, 0), (39, .invokestatic 142, 42, 130, 2), (42, .iload_n 1, 43, 1, 0),
  (43, .invokevirtual 199, 46, 160, 2), (46, .goto 5, 49, 51, 0), (49, .bipush (-2), 51, 0, 0), (51, .ireturn, 52, 0, 0)]
set_option maxRecDepth 20000 in
/-- 173: StoneHome.trap(I)I -/
def at_X10_trap : List (Nat × am_I) := [(0, .iload_n 1, 1, 1, 0), (1, .invokestatic 189, 4, 154, 1), (4, .ifCond .ne 5, 7, 9, 0), (7, .iconst (-1), 8, 0, 0), (8, .ireturn, 9, 0, 0), (9, .aload_n 0, 10, 0, 0), (10, .getfield 71, 13, 10, 10), (13, .aload_n 0, 14, 0, 0),
  (14, .getfield 42, 17, 10, 6), (17, .getfield 126, 20, 6, 4), (20, .iload_n 1, 21, 1, 0), (21, .iconst (-1), 22, 0, 0), (22, .iconst (-1), 23, 0, 0), (23, .invokevirtual 216, 26, 2, 4), (26, .iconst 0, 27, 0, 0), (27, .istore_n 2, 28, 2, 0),
  (28, .iconst 0, 29, 0, 0), (29, .istore_n 3, 30, 3, 0), (30, .iload_n 3, 31, 3, 0), (31, .bipush 32, 33, 0, 0), (33, .if_icmp .ge 31, 36, 64, 0), (36, .aload_n 0, 37, 0, 0), (37, .getfield 23, 40, 10, 3), (40, .iload_n 3, 41, 3, 0),
  (41, .invokevirtual 226, 44, 89, 1), (44, .ifCond .eq 14, 47, 58, 0), (47, .aload_n 0, 48, 0, 0), (48, .iload_n 3, 49, 3, 0), (49, .invokevirtual 232, 52, 174, 1), (52, .ifCond .eq 6, 55, 58, 0), (55, .iinc 2 1, 58, 2, 0), (58, .iinc 3 1, 61, 3, 0),
  (61, .goto (-31), 64, 30, 0), (64, .iload_n 2, 65, 2, 0), (65, .ireturn, 66, 0, 0)]
set_option maxRecDepth 20000 in
/-- 174: StoneHome.isTrap(I)Z -/
def at_X10_isTrap : List (Nat × am_I) := [(0, .iconst 0, 1, 0, 0), (1, .istore_n 2, 2, 2, 0), (2, .iload_n 2, 3, 2, 0), (3, .aload_n 0, 4, 0, 0), (4, .getfield 23, 7, 10, 3), (7, .getfield 220, 10, 7, 3), (10, .if_icmp .ge 33, 13, 43, 0), (13, .aload_n 0, 14, 0, 0),
  (14, .getfield 71, 17, 10, 10), (17, .iload_n 1, 18, 1, 0), (18, .iload_n 2, 19, 2, 0), (19, .invokestatic 169, 22, 131, 2), (22, .aload_n 0, 23, 0, 0), (23, .getfield 42, 26, 10, 6), (26, .getfield 123, 29, 6, 2), (29, .invokevirtual 210, 32, 10, 2),
  (32, .ifCond .eq 5, 35, 37, 0), (35, .iconst 0, 36, 0, 0), (36, .ireturn, 37, 0, 0), (37, .iinc 2 1, 40, 2, 0), (40, .goto (-38), 43, 2, 0), (43, .iconst 1, 44, 0, 0), (44, .ireturn, 45, 0, 0)]
set_option maxRecDepth 20000 in
/-- 175: StoneHome.first(IZ)I -/
def at_X10_first : List (Nat × am_I) := [(0, .iload_n 1, 1, 1, 0), (1, .iconst 1, 2, 0, 0), (2, .if_icmp .lt 8, 5, 10, 0), (5, .iload_n 1, 6, 1, 0), (6, .iconst 3, 7, 0, 0), (7, .if_icmp .le 5, 10, 12, 0), (10, .iconst (-1), 11, 0, 0), (11, .ireturn, 12, 0, 0),
  (12, .aload_n 0, 13, 0, 0), (13, .getfield 42, 16, 10, 6), (16, .getfield 107, 19, 6, 6), (19, .ifCond .eq 6, 22, 25, 0), (22, .bipush (-2), 24, 0, 0), (24, .ireturn, 25, 0, 0), (25, .iconst 2, 26, 0, 0), (26, .iload_n 1, 27, 1, 0),
  (27, .imul, 28, 0, 0), (28, .iconst 1, 29, 0, 0), (29, .isub, 30, 0, 0), (30, .istore_n 3, 31, 3, 0), (31, .aload_n 0, 32, 0, 0), (32, .getfield 78, 35, 10, 11), (35, .aload_n 0, 36, 0, 0), (36, .getfield 42, 39, 10, 6),
  (39, .getfield 126, 42, 6, 4), (42, .iload_n 3, 43, 3, 0), (43, .aload_n 0, 44, 0, 0), (44, .getfield 42, 47, 10, 6), (47, .invokevirtual 182, 50, 83, 0), (50, .aload_n 0, 51, 0, 0), (51, .getfield 23, 54, 10, 3), (54, .invokevirtual 235, 57, 107, 0),
  (57, .invokevirtual 238, 60, 34, 4), (60, .iload_n 3, 61, 3, 0), (61, .iload_n 2, 62, 2, 0), (62, .invokestatic 195, 65, 157, 3), (65, .ireturn, 66, 0, 0)]
set_option maxRecDepth 20000 in
/-- 176: StoneHome.can()I -/
def at_X10_can : List (Nat × am_I) := [(0, .iconst 0, 1, 0, 0), (1, .istore_n 1, 2, 1, 0), (2, .iconst 0, 3, 0, 0), (3, .istore_n 2, 4, 2, 0), (4, .iload_n 2, 5, 2, 0), (5, .aload_n 0, 6, 0, 0), (6, .getfield 23, 9, 10, 3), (9, .getfield 241, 12, 7, 4),
  (12, .if_icmp .ge 23, 15, 35, 0), (15, .aload_n 0, 16, 0, 0), (16, .iload_n 2, 17, 2, 0), (17, .invokevirtual 153, 20, 143, 1), (20, .ifCond .eq 9, 23, 29, 0), (23, .iload_n 1, 24, 1, 0), (24, .iconst 1, 25, 0, 0), (25, .iload_n 2, 26, 2, 0),
  (26, .ishl, 27, 0, 0), (27, .ior, 28, 0, 0), (28, .istore_n 1, 29, 1, 0), (29, .iinc 2 1, 32, 2, 0), (32, .goto (-28), 35, 4, 0), (35, .iload_n 1, 36, 1, 0), (36, .ireturn, 37, 0, 0)]
set_option maxRecDepth 20000 in
/-- 177: StoneHome.tell(II)I -/
def at_X10_tell : List (Nat × am_I) := [(0, .aload_n 0, 1, 0, 0), (1, .getfield 23, 4, 10, 3), (4, .iload_n 1, 5, 1, 0), (5, .iload_n 2, 6, 2, 0), (6, .invokevirtual 138, 9, 94, 2), (9, .iconst (-1), 10, 0, 0), (10, .if_icmp .ne 5, 13, 15, 0), (13, .iconst (-1), 14, 0, 0),
  (14, .ireturn, 15, 0, 0), (15, .aload_n 0, 16, 0, 0), (16, .getfield 85, 19, 10, 12), (19, .iload_n 1, 20, 1, 0), (20, .iload_n 2, 21, 2, 0), (21, .invokestatic 142, 24, 130, 2), (24, .invokevirtual 244, 27, 71, 1), (27, .ireturn, 28, 0, 0)]
set_option maxRecDepth 20000 in
/-- 178: StoneHome.forget()I -/
def at_X10_forget : List (Nat × am_I) := [(0, .aload_n 0, 1, 0, 0), (1, .getfield 85, 4, 10, 12), (4, .invokevirtual 247, 7, 70, 0), (7, .ireturn, 8, 0, 0)]
set_option maxRecDepth 20000 in
/-- 179: StoneHome.fits(II)I -/
def at_X10_fits : List (Nat × am_I) := [(0, .aload_n 0, 1, 0, 0), (1, .getfield 85, 4, 10, 12), (4, .iload_n 1, 5, 1, 0), (5, .invokevirtual 250, 8, 72, 1), (8, .ifCond .eq 8, 11, 16, 0), (11, .iload_n 2, 12, 2, 0), (12, .iconst (-1), 13, 0, 0), (13, .if_icmp .ge 5, 16, 18, 0),
  (16, .iconst (-1), 17, 0, 0), (17, .ireturn, 18, 0, 0), (18, .aload_n 0, 19, 0, 0), (19, .getfield 85, 22, 10, 12), (22, .aload_n 0, 23, 0, 0), (23, .getfield 23, 26, 10, 3), (26, .iload_n 1, 27, 1, 0), (27, .invokevirtual 253, 30, 73, 2),
  (30, .iload_n 2, 31, 2, 0), (31, .iconst (-1), 32, 0, 0), (32, .if_icmp .ne 14, 35, 46, 0), (35, .aload_n 0, 36, 0, 0), (36, .getfield 85, 39, 10, 12), (39, .iload_n 1, 40, 1, 0), (40, .invokevirtual 257, 43, 76, 1), (43, .goto 12, 46, 55, 0),
  (46, .aload_n 0, 47, 0, 0), (47, .getfield 85, 50, 10, 12), (50, .iload_n 1, 51, 1, 0), (51, .iload_n 2, 52, 2, 0), (52, .invokevirtual 260, 55, 79, 2), (55, .ireturn, 56, 0, 0)]
set_option maxRecDepth 20000 in
/-- 180: StoneHome.often(II)I -/
def at_X10_often : List (Nat × am_I) := [(0, .aload_n 0, 1, 0, 0), (1, .getfield 85, 4, 10, 12), (4, .iload_n 1, 5, 1, 0), (5, .invokevirtual 250, 8, 72, 1), (8, .ifCond .eq 7, 11, 15, 0), (11, .iload_n 2, 12, 2, 0), (12, .ifCond .ge 5, 15, 17, 0), (15, .iconst (-1), 16, 0, 0),
  (16, .ireturn, 17, 0, 0), (17, .aload_n 0, 18, 0, 0), (18, .getfield 85, 21, 10, 12), (21, .aload_n 0, 22, 0, 0), (22, .getfield 23, 25, 10, 3), (25, .iload_n 1, 26, 1, 0), (26, .invokevirtual 253, 29, 73, 2), (29, .aload_n 0, 30, 0, 0),
  (30, .getfield 85, 33, 10, 12), (33, .iload_n 1, 34, 1, 0), (34, .iload_n 2, 35, 2, 0), (35, .invokevirtual 260, 38, 79, 2), (38, .istore_n 3, 39, 3, 0), (39, .iload_n 3, 40, 3, 0), (40, .iconst (-1), 41, 0, 0), (41, .if_icmp .ne 7, 44, 48, 0),
  (44, .iconst (-1), 45, 0, 0), (45, .goto 12, 48, 57, 0), (48, .aload_n 0, 49, 0, 0), (49, .getfield 85, 52, 10, 12), (52, .iload_n 1, 53, 1, 0), (53, .iload_n 3, 54, 3, 0), (54, .invokevirtual 263, 57, 77, 2), (57, .ireturn, 58, 0, 0)]
set_option maxRecDepth 20000 in
/-- 181: StoneHome.hold(I)Z -/
def at_X10_hold : List (Nat × am_I) := [(0, .iload_n 1, 1, 1, 0), (1, .ifCond .lt 8, 4, 9, 0), (4, .iload_n 1, 5, 1, 0), (5, .iconst 3, 6, 0, 0), (6, .if_icmp .lt 5, 9, 11, 0), (9, .iconst 0, 10, 0, 0), (10, .ireturn, 11, 0, 0), (11, .aload_n 0, 12, 0, 0),
  (12, .getfield 53, 15, 10, 8), (15, .iload_n 1, 16, 1, 0), (16, .aaload, 17, 4, 0), (17, .aload_n 0, 18, 0, 0), (18, .getfield 42, 21, 10, 6), (21, .invokevirtual 266, 24, 82, 1), (24, .aload_n 0, 25, 0, 0), (25, .getfield 53, 28, 10, 8),
  (28, .iload_n 1, 29, 1, 0), (29, .aaload, 30, 4, 0), (30, .iconst 1, 31, 0, 0), (31, .putfield 269, 34, 6, 57), (34, .iconst 1, 35, 0, 0), (35, .ireturn, 36, 0, 0)]
set_option maxRecDepth 20000 in
/-- 182: StoneHome.restore(I)Z -/
def at_X10_restore : List (Nat × am_I) := [(0, .iload_n 1, 1, 1, 0), (1, .ifCond .lt 20, 4, 21, 0), (4, .iload_n 1, 5, 1, 0), (5, .iconst 3, 6, 0, 0), (6, .if_icmp .ge 15, 9, 21, 0), (9, .aload_n 0, 10, 0, 0), (10, .getfield 53, 13, 10, 8), (13, .iload_n 1, 14, 1, 0),
  (14, .aaload, 15, 4, 0), (15, .getfield 269, 18, 6, 7), (18, .ifCond .ne 5, 21, 23, 0), (21, .iconst 0, 22, 0, 0), (22, .ireturn, 23, 0, 0), (23, .aload_n 0, 24, 0, 0), (24, .getfield 42, 27, 10, 6), (27, .aload_n 0, 28, 0, 0),
  (28, .getfield 53, 31, 10, 8), (31, .iload_n 1, 32, 1, 0), (32, .aaload, 33, 4, 0), (33, .invokevirtual 266, 36, 82, 1), (36, .aload_n 0, 37, 0, 0), (37, .getfield 49, 40, 10, 7), (40, .invokevirtual 273, 43, 29, 0), (43, .iconst 1, 44, 0, 0),
  (44, .ireturn, 45, 0, 0)]
set_option maxRecDepth 20000 in
/-- 183: StoneHome.count(I)I -/
def at_X10_count : List (Nat × am_I) := [(0, .iload_n 1, 1, 1, 0), (1, .tableswitch 141 0 10 #[59, 67, 75, 83, 91, 99, 107, 112, 120, 128, 133], 60, 142, 0), (60, .aload_n 0, 61, 0, 0), (61, .getfield 23, 64, 10, 3), (64, .getfield 275, 67, 7, 0), (67, .ireturn, 68, 0, 0), (68, .aload_n 0, 69, 0, 0), (69, .getfield 23, 72, 10, 3),
  (72, .getfield 223, 75, 7, 1), (75, .ireturn, 76, 0, 0), (76, .aload_n 0, 77, 0, 0), (77, .getfield 23, 80, 10, 3), (80, .getfield 220, 83, 7, 3), (83, .ireturn, 84, 0, 0), (84, .aload_n 0, 85, 0, 0), (85, .getfield 23, 88, 10, 3),
  (88, .getfield 241, 91, 7, 4), (91, .ireturn, 92, 0, 0), (92, .aload_n 0, 93, 0, 0), (93, .getfield 23, 96, 10, 3), (96, .getfield 129, 99, 7, 14), (99, .ireturn, 100, 0, 0), (100, .aload_n 0, 101, 0, 0), (101, .getfield 23, 104, 10, 3),
  (104, .invokevirtual 278, 107, 108, 0), (107, .ireturn, 108, 0, 0), (108, .aload_n 0, 109, 0, 0), (109, .getfield 13, 112, 10, 1), (112, .ireturn, 113, 0, 0), (113, .aload_n 0, 114, 0, 0), (114, .getfield 49, 117, 10, 7), (117, .getfield 281, 120, 2, 2),
  (120, .ireturn, 121, 0, 0), (121, .aload_n 0, 122, 0, 0), (122, .getfield 85, 125, 10, 12), (125, .getfield 284, 128, 5, 1), (128, .ireturn, 129, 0, 0), (129, .aload_n 0, 130, 0, 0), (130, .invokevirtual 287, 133, 184, 0), (133, .ireturn, 134, 0, 0),
  (134, .aload_n 0, 135, 0, 0), (135, .getfield 23, 138, 10, 3), (138, .invokevirtual 290, 141, 109, 0), (141, .ireturn, 142, 0, 0), (142, .iconst (-1), 143, 0, 0), (143, .ireturn, 144, 0, 0)]
set_option maxRecDepth 20000 in
/-- 184: StoneHome.heldSlots()I -/
def at_X10_heldSlots : List (Nat × am_I) := [(0, .iconst 0, 1, 0, 0), (1, .istore_n 1, 2, 1, 0), (2, .iconst 0, 3, 0, 0), (3, .istore_n 2, 4, 2, 0), (4, .iload_n 2, 5, 2, 0), (5, .aload_n 0, 6, 0, 0), (6, .getfield 53, 9, 10, 8), (9, .arraylength, 10, 0, 0),
  (10, .if_icmp .ge 24, 13, 34, 0), (13, .aload_n 0, 14, 0, 0), (14, .getfield 53, 17, 10, 8), (17, .iload_n 2, 18, 2, 0), (18, .aaload, 19, 4, 0), (19, .getfield 269, 22, 6, 7), (22, .ifCond .eq 6, 25, 28, 0), (25, .iinc 1 1, 28, 1, 0),
  (28, .iinc 2 1, 31, 2, 0), (31, .goto (-27), 34, 4, 0), (34, .iload_n 1, 35, 1, 0), (35, .ireturn, 36, 0, 0)]
set_option maxRecDepth 20000 in
/-- 185: StoneHomeModel.<init>()V -/
def at_X11_init : List (Nat × am_I) := [(0, .aload_n 0, 1, 0, 0), (1, .invokespecial 7, 4, 999, 0), (4, .aload_n 0, 5, 0, 0), (5, .sipush 2000, 8, 0, 0), (8, .newarray .byte, 10, 0, 0), (10, .putfield 13, 13, 11, 14), (13, .aload_n 0, 14, 0, 0), (14, .sipush 2000, 17, 0, 0),
  (17, .newarray .byte, 19, 0, 0), (19, .putfield 17, 22, 11, 30), (22, .aload_n 0, 23, 0, 0), (23, .sipush 403, 26, 0, 0), (26, .newarray .int, 28, 0, 0), (28, .putfield 20, 31, 11, 46), (31, .aload_n 0, 32, 0, 0), (32, .sipush 403, 35, 0, 0),
  (35, .newarray .int, 37, 0, 0), (37, .putfield 24, 40, 11, 54), (40, .aload_n 0, 41, 0, 0), (41, .sipush 403, 44, 0, 0), (44, .newarray .int, 46, 0, 0), (46, .putfield 27, 49, 11, 62), (49, .aload_n 0, 50, 0, 0), (50, .sipush 403, 53, 0, 0),
  (53, .newarray .long, 55, 0, 0), (55, .putfield 30, 58, 11, 70), (58, .aload_n 0, 59, 0, 0), (59, .bipush 23, 61, 0, 0), (61, .newarray .long, 63, 0, 0), (63, .putfield 34, 66, 11, 78), (66, .aload_n 0, 67, 0, 0), (67, .iconst (-1), 68, 0, 0),
  (68, .putfield 37, 71, 11, 136), (71, .aload_n 0, 72, 0, 0), (72, .iconst 4, 73, 0, 0), (73, .newarray .long, 75, 0, 0), (75, .putfield 40, 78, 11, 174), (78, .aload_n 0, 79, 0, 0), (79, .iconst 2, 80, 0, 0), (80, .newarray .int, 82, 0, 0),
  (82, .putfield 43, 85, 11, 182), (85, .aload_n 0, 86, 0, 0), (86, .iconst 2, 87, 0, 0), (87, .newarray .int, 89, 0, 0), (89, .putfield 46, 92, 11, 190), (92, .aload_n 0, 93, 0, 0), (93, .bipush 64, 95, 0, 0), (95, .newarray .int, 97, 0, 0),
  (97, .putfield 49, 100, 11, 198), (100, .aload_n 0, 101, 0, 0), (101, .iconst 2, 102, 0, 0), (102, .newarray .int, 104, 0, 0), (104, .putfield 52, 107, 11, 206), (107, .aload_n 0, 108, 0, 0), (108, .iconst 2, 109, 0, 0), (109, .newarray .int, 111, 0, 0),
  (111, .putfield 55, 114, 11, 214), (114, .aload_n 0, 115, 0, 0), (115, .bipush 8, 117, 0, 0), (117, .newarray .int, 119, 0, 0), (119, .putfield 58, 122, 11, 222), (122, .aload_n 0, 123, 0, 0), (123, .bipush 48, 125, 0, 0), (125, .newarray .int, 127, 0, 0),
  (127, .putfield 61, 130, 11, 230), (130, .aload_n 0, 131, 0, 0), (131, .bipush 48, 133, 0, 0), (133, .newarray .int, 135, 0, 0), (135, .putfield 64, 138, 11, 238), (138, .aload_n 0, 139, 0, 0), (139, .bipush 48, 141, 0, 0), (141, .newarray .int, 143, 0, 0),
  (143, .putfield 67, 146, 11, 246), (146, .aload_n 0, 147, 0, 0), (147, .bipush 48, 149, 0, 0), (149, .newarray .int, 151, 0, 0), (151, .putfield 70, 154, 11, 254), (154, .aload_n 0, 155, 0, 0), (155, .bipush 6, 157, 0, 0), (157, .newarray .int, 159, 0, 0),
  (159, .putfield 73, 162, 11, 262), (162, .aload_n 0, 163, 0, 0), (163, .bipush 6, 165, 0, 0), (165, .newarray .int, 167, 0, 0), (167, .putfield 76, 170, 11, 270), (170, .aload_n 0, 171, 0, 0), (171, .iconst 2, 172, 0, 0), (172, .newarray .int, 174, 0, 0),
  (174, .putfield 79, 177, 11, 278), (177, .aload_n 0, 178, 0, 0), (178, .iconst 2, 179, 0, 0), (179, .newarray .int, 181, 0, 0), (181, .putfield 82, 184, 11, 286), (184, .aload_n 0, 185, 0, 0), (185, .iconst 2, 186, 0, 0), (186, .newarray .int, 188, 0, 0),
  (188, .putfield 85, 191, 11, 294), (191, .aload_n 0, 192, 0, 0), (192, .bipush 6, 194, 0, 0), (194, .newarray .int, 196, 0, 0), (196, .putfield 88, 199, 11, 302), (199, .aload_n 0, 200, 0, 0), (200, .bipush 6, 202, 0, 0), (202, .newarray .int, 204, 0, 0),
  (204, .putfield 91, 207, 11, 310), (207, .aload_n 0, 208, 0, 0), (208, .sipush 260, 211, 0, 0), (211, .newarray .boolean, 213, 0, 0), (213, .putfield 94, 216, 11, 326), (216, .aload_n 0, 217, 0, 0), (217, .sipush 260, 220, 0, 0), (220, .newarray .int, 222, 0, 0),
  (222, .putfield 98, 225, 11, 334), (225, .aload_n 0, 226, 0, 0), (226, .sipush 260, 229, 0, 0), (229, .newarray .int, 231, 0, 0), (231, .putfield 101, 234, 11, 342), (234, .aload_n 0, 235, 0, 0), (235, .sipush 260, 238, 0, 0), (238, .newarray .int, 240, 0, 0),
  (240, .putfield 104, 243, 11, 350), (243, .aload_n 0, 244, 0, 0), (244, .sipush 260, 247, 0, 0), (247, .newarray .int, 249, 0, 0), (249, .putfield 107, 252, 11, 358), (252, .aload_n 0, 253, 0, 0), (253, .sipush 840, 256, 0, 0), (256, .newarray .int, 258, 0, 0),
  (258, .putfield 110, 261, 11, 374), (261, .aload_n 0, 262, 0, 0), (262, .sipush 840, 265, 0, 0), (265, .newarray .int, 267, 0, 0), (267, .putfield 113, 270, 11, 382), (270, .aload_n 0, 271, 0, 0), (271, .bipush 64, 273, 0, 0), (273, .newarray .int, 275, 0, 0),
  (275, .putfield 116, 278, 11, 390), (278, .aload_n 0, 279, 0, 0), (279, .bipush 7, 281, 0, 0), (281, .newarray .int, 283, 0, 0), (283, .putfield 119, 286, 11, 406), (286, .aload_n 0, 287, 0, 0), (287, .sipush 400, 290, 0, 0), (290, .newarray .int, 292, 0, 0),
  (292, .putfield 122, 295, 11, 414), (295, .aload_n 0, 296, 0, 0), (296, .bipush 10, 298, 0, 0), (298, .newarray .int, 300, 0, 0), (300, .putfield 125, 303, 11, 430), (303, .aload_n 0, 304, 0, 0), (304, .bipush 10, 306, 0, 0), (306, .newarray .int, 308, 0, 0),
  (308, .putfield 128, 311, 11, 438), (311, .aload_n 0, 312, 0, 0), (312, .sipush 385, 315, 0, 0), (315, .newarray .int, 317, 0, 0), (317, .putfield 131, 320, 11, 454), (320, .aload_n 0, 321, 0, 0), (321, .sipush 385, 324, 0, 0), (324, .newarray .int, 326, 0, 0),
  (326, .putfield 134, 329, 11, 462), (329, .aload_n 0, 330, 0, 0), (330, .sipush 500, 333, 0, 0), (333, .newarray .int, 335, 0, 0), (335, .putfield 137, 338, 11, 478), (338, .aload_n 0, 339, 0, 0), (339, .sipush 9409, 342, 0, 0), (342, .newarray .int, 344, 0, 0),
  (344, .putfield 140, 347, 11, 486), (347, .aload_n 0, 348, 0, 0), (348, .sipush 9409, 351, 0, 0), (351, .newarray .int, 353, 0, 0), (353, .putfield 143, 356, 11, 494), (356, .aload_n 0, 357, 0, 0), (357, .sipush 2880, 360, 0, 0), (360, .newarray .int, 362, 0, 0),
  (362, .putfield 146, 365, 11, 502), (365, .aload_n 0, 366, 0, 0), (366, .iconst 5, 367, 0, 0), (367, .newarray .int, 369, 0, 0), (369, .putfield 149, 372, 11, 518), (372, .aload_n 0, 373, 0, 0), (373, .iconst 5, 374, 0, 0), (374, .newarray .int, 376, 0, 0),
  (376, .putfield 152, 379, 11, 526), (379, .aload_n 0, 380, 0, 0), (380, .iconst 3, 381, 0, 0), (381, .newarray .int, 383, 0, 0), (383, .putfield 155, 386, 11, 534), (386, .aload_n 0, 387, 0, 0), (387, .iconst 3, 388, 0, 0), (388, .newarray .int, 390, 0, 0),
  (390, .putfield 158, 393, 11, 542), (393, .aload_n 0, 394, 0, 0), (394, .iconst 3, 395, 0, 0), (395, .newarray .boolean, 397, 0, 0), (397, .putfield 161, 400, 11, 550), (400, .aload_n 0, 401, 0, 0), (401, .bipush 30, 403, 0, 0), (403, .newarray .int, 405, 0, 0),
  (405, .putfield 164, 408, 11, 558), (408, .aload_n 0, 409, 0, 0), (409, .iconst 0, 410, 0, 0), (410, .invokevirtual 167, 413, 186, 1), (413, .aload_n 0, 414, 0, 0), (414, .getfield 34, 417, 11, 9), (417, .iconst 0, 418, 0, 0), (418, .bipush 114, 420, 0, 0),
  (420, .bipush 111, 422, 0, 0), (422, .bipush 119, 424, 0, 0), (424, .iconst 0, 425, 0, 0), (425, .iconst 0, 426, 0, 0), (426, .iconst 0, 427, 0, 0), (427, .iconst 0, 428, 0, 0), (428, .invokestatic 171, 431, 187, 7), (431, .lastore, 432, 0, 0),
  (432, .aload_n 0, 433, 0, 0), (433, .getfield 34, 436, 11, 9), (436, .iconst 1, 437, 0, 0), (437, .bipush 102, 439, 0, 0), (439, .bipush 97, 441, 0, 0), (441, .bipush 99, 443, 0, 0), (443, .bipush 101, 445, 0, 0), (445, .bipush 115, 447, 0, 0),
  (447, .iconst 0, 448, 0, 0), (448, .iconst 0, 449, 0, 0), (449, .invokestatic 171, 452, 187, 7), (452, .lastore, 453, 0, 0), (453, .aload_n 0, 454, 0, 0), (454, .getfield 34, 457, 11, 9), (457, .iconst 2, 458, 0, 0), (458, .bipush 107, 460, 0, 0),
  (460, .bipush 105, 462, 0, 0), (462, .bipush 99, 464, 0, 0), (464, .bipush 107, 466, 0, 0), (466, .iconst 0, 467, 0, 0), (467, .iconst 0, 468, 0, 0), (468, .iconst 0, 469, 0, 0), (469, .invokestatic 171, 472, 187, 7), (472, .lastore, 473, 0, 0),
  (473, .aload_n 0, 474, 0, 0), (474, .getfield 34, 477, 11, 9), (477, .iconst 3, 478, 0, 0), (478, .bipush 98, 480, 0, 0), (480, .bipush 121, 482, 0, 0), (482, .iconst 0, 483, 0, 0), (483, .iconst 0, 484, 0, 0), (484, .iconst 0, 485, 0, 0),
  (485, .iconst 0, 486, 0, 0), (486, .iconst 0, 487, 0, 0), (487, .invokestatic 171, 490, 187, 7), (490, .lastore, 491, 0, 0), (491, .aload_n 0, 492, 0, 0), (492, .getfield 34, 495, 11, 9), (495, .iconst 4, 496, 0, 0), (496, .bipush 116, 498, 0, 0),
  (498, .bipush 117, 500, 0, 0), (500, .bipush 114, 502, 0, 0), (502, .bipush 110, 504, 0, 0), (504, .iconst 0, 505, 0, 0), (505, .iconst 0, 506, 0, 0), (506, .iconst 0, 507, 0, 0), (507, .invokestatic 171, 510, 187, 7), (510, .lastore, 511, 0, 0),
  (511, .aload_n 0, 512, 0, 0), (512, .getfield 34, 515, 11, 9), (515, .iconst 5, 516, 0, 0), (516, .bipush 100, 518, 0, 0), (518, .bipush 114, 520, 0, 0), (520, .bipush 105, 522, 0, 0), (522, .bipush 102, 524, 0, 0), (524, .bipush 116, 526, 0, 0),
  (526, .iconst 0, 527, 0, 0), (527, .iconst 0, 528, 0, 0), (528, .invokestatic 171, 531, 187, 7), (531, .lastore, 532, 0, 0), (532, .aload_n 0, 533, 0, 0), (533, .getfield 34, 536, 11, 9), (536, .bipush 6, 538, 0, 0), (538, .bipush 114, 540, 0, 0),
  (540, .bipush 117, 542, 0, 0), (542, .bipush 110, 544, 0, 0), (544, .bipush 115, 546, 0, 0), (546, .iconst 0, 547, 0, 0), (547, .iconst 0, 548, 0, 0), (548, .iconst 0, 549, 0, 0), (549, .invokestatic 171, 552, 187, 7), (552, .lastore, 553, 0, 0),
  (553, .aload_n 0, 554, 0, 0), (554, .getfield 34, 557, 11, 9), (557, .bipush 7, 559, 0, 0), (559, .bipush 99, 561, 0, 0), (561, .bipush 97, 563, 0, 0), (563, .bipush 114, 565, 0, 0), (565, .bipush 115, 567, 0, 0), (567, .iconst 0, 568, 0, 0),
  (568, .iconst 0, 569, 0, 0), (569, .iconst 0, 570, 0, 0), (570, .invokestatic 171, 573, 187, 7), (573, .lastore, 574, 0, 0), (574, .aload_n 0, 575, 0, 0), (575, .getfield 34, 578, 11, 9), (578, .bipush 8, 580, 0, 0), (580, .bipush 115, 582, 0, 0),
  (582, .bipush 116, 584, 0, 0), (584, .bipush 111, 586, 0, 0), (586, .bipush 110, 588, 0, 0), (588, .bipush 101, 590, 0, 0), (590, .iconst 0, 591, 0, 0), (591, .iconst 0, 592, 0, 0), (592, .invokestatic 171, 595, 187, 7), (595, .lastore, 596, 0, 0),
  (596, .aload_n 0, 597, 0, 0), (597, .getfield 34, 600, 11, 9), (600, .bipush 9, 602, 0, 0), (602, .bipush 102, 604, 0, 0), (604, .bipush 114, 606, 0, 0), (606, .bipush 105, 608, 0, 0), (608, .bipush 101, 610, 0, 0), (610, .bipush 110, 612, 0, 0),
  (612, .bipush 100, 614, 0, 0), (614, .iconst 0, 615, 0, 0), (615, .invokestatic 171, 618, 187, 7), (618, .lastore, 619, 0, 0), (619, .aload_n 0, 620, 0, 0), (620, .getfield 34, 623, 11, 9), (623, .bipush 10, 625, 0, 0), (625, .bipush 108, 627, 0, 0),
  (627, .bipush 105, 629, 0, 0), (629, .bipush 118, 631, 0, 0), (631, .bipush 101, 633, 0, 0), (633, .bipush 115, 635, 0, 0), (635, .iconst 0, 636, 0, 0), (636, .iconst 0, 637, 0, 0), (637, .invokestatic 171, 640, 187, 7), (640, .lastore, 641, 0, 0),
  (641, .aload_n 0, 642, 0, 0), (642, .getfield 34, 645, 11, 9), (645, .bipush 11, 647, 0, 0), (647, .bipush 116, 649, 0, 0), (649, .bipush 97, 651, 0, 0), (651, .bipush 107, 653, 0, 0), (653, .bipush 101, 655, 0, 0), (655, .bipush 115, 657, 0, 0),
  (657, .iconst 0, 658, 0, 0), (658, .iconst 0, 659, 0, 0), (659, .invokestatic 171, 662, 187, 7), (662, .lastore, 663, 0, 0), (663, .aload_n 0, 664, 0, 0), (664, .getfield 34, 667, 11, 9), (667, .bipush 12, 669, 0, 0), (669, .bipush 115, 671, 0, 0),
  (671, .bipush 101, 673, 0, 0), (673, .bipush 101, 675, 0, 0), (675, .bipush 100, 677, 0, 0), (677, .iconst 0, 678, 0, 0), (678, .iconst 0, 679, 0, 0), (679, .iconst 0, 680, 0, 0), (680, .invokestatic 171, 683, 187, 7), (683, .lastore, 684, 0, 0),
  (684, .aload_n 0, 685, 0, 0), (685, .getfield 34, 688, 11, 9), (688, .bipush 13, 690, 0, 0), (690, .bipush 105, 692, 0, 0), (692, .bipush 102, 694, 0, 0), (694, .iconst 0, 695, 0, 0), (695, .iconst 0, 696, 0, 0), (696, .iconst 0, 697, 0, 0),
  (697, .iconst 0, 698, 0, 0), (698, .iconst 0, 699, 0, 0), (699, .invokestatic 171, 702, 187, 7), (702, .lastore, 703, 0, 0), (703, .aload_n 0, 704, 0, 0), (704, .getfield 34, 707, 11, 9), (707, .bipush 14, 709, 0, 0), (709, .bipush 116, 711, 0, 0),
  (711, .bipush 104, 713, 0, 0), (713, .bipush 101, 715, 0, 0), (715, .bipush 110, 717, 0, 0), (717, .iconst 0, 718, 0, 0), (718, .iconst 0, 719, 0, 0), (719, .iconst 0, 720, 0, 0), (720, .invokestatic 171, 723, 187, 7), (723, .lastore, 724, 0, 0),
  (724, .aload_n 0, 725, 0, 0), (725, .getfield 34, 728, 11, 9), (728, .bipush 15, 730, 0, 0), (730, .bipush 101, 732, 0, 0), (732, .bipush 108, 734, 0, 0), (734, .bipush 115, 736, 0, 0), (736, .bipush 101, 738, 0, 0), (738, .iconst 0, 739, 0, 0),
  (739, .iconst 0, 740, 0, 0), (740, .iconst 0, 741, 0, 0), (741, .invokestatic 171, 744, 187, 7), (744, .lastore, 745, 0, 0), (745, .aload_n 0, 746, 0, 0), (746, .getfield 34, 749, 11, 9), (749, .bipush 16, 751, 0, 0), (751, .bipush 97, 753, 0, 0),
  (753, .bipush 108, 755, 0, 0), (755, .bipush 111, 757, 0, 0), (757, .bipush 110, 759, 0, 0), (759, .bipush 103, 761, 0, 0), (761, .iconst 0, 762, 0, 0), (762, .iconst 0, 763, 0, 0), (763, .invokestatic 171, 766, 187, 7), (766, .lastore, 767, 0, 0),
  (767, .aload_n 0, 768, 0, 0), (768, .getfield 34, 771, 11, 9), (771, .bipush 17, 773, 0, 0), (773, .bipush 97, 775, 0, 0), (775, .bipush 99, 777, 0, 0), (777, .bipush 114, 779, 0, 0), (779, .bipush 111, 781, 0, 0), (781, .bipush 115, 783, 0, 0),
  (783, .bipush 115, 785, 0, 0), (785, .iconst 0, 786, 0, 0), (786, .invokestatic 171, 789, 187, 7), (789, .lastore, 790, 0, 0), (790, .aload_n 0, 791, 0, 0), (791, .getfield 34, 794, 11, 9), (794, .bipush 18, 796, 0, 0), (796, .bipush 102, 798, 0, 0),
  (798, .bipush 97, 800, 0, 0), (800, .bipush 99, 802, 0, 0), (802, .bipush 101, 804, 0, 0), (804, .iconst 0, 805, 0, 0), (805, .iconst 0, 806, 0, 0), (806, .iconst 0, 807, 0, 0), (807, .invokestatic 171, 810, 187, 7), (810, .lastore, 811, 0, 0),
  (811, .aload_n 0, 812, 0, 0), (812, .getfield 34, 815, 11, 9), (815, .bipush 19, 817, 0, 0), (817, .bipush 115, 819, 0, 0), (819, .bipush 111, 821, 0, 0), (821, .bipush 114, 823, 0, 0), (823, .bipush 116, 825, 0, 0), (825, .iconst 0, 826, 0, 0),
  (826, .iconst 0, 827, 0, 0), (827, .iconst 0, 828, 0, 0), (828, .invokestatic 171, 831, 187, 7), (831, .lastore, 832, 0, 0), (832, .aload_n 0, 833, 0, 0), (833, .getfield 34, 836, 11, 9), (836, .bipush 20, 838, 0, 0), (838, .bipush 119, 840, 0, 0),
  (840, .bipush 104, 842, 0, 0), (842, .bipush 105, 844, 0, 0), (844, .bipush 99, 846, 0, 0), (846, .bipush 104, 848, 0, 0), (848, .iconst 0, 849, 0, 0), (849, .iconst 0, 850, 0, 0), (850, .invokestatic 171, 853, 187, 7), (853, .lastore, 854, 0, 0),
  (854, .aload_n 0, 855, 0, 0), (855, .getfield 34, 858, 11, 9), (858, .bipush 21, 860, 0, 0), (860, .bipush 104, 862, 0, 0), (862, .bipush 97, 864, 0, 0), (864, .bipush 114, 866, 0, 0), (866, .bipush 100, 868, 0, 0), (868, .iconst 0, 869, 0, 0),
  (869, .iconst 0, 870, 0, 0), (870, .iconst 0, 871, 0, 0), (871, .invokestatic 171, 874, 187, 7), (874, .lastore, 875, 0, 0), (875, .aload_n 0, 876, 0, 0), (876, .getfield 34, 879, 11, 9), (879, .bipush 22, 881, 0, 0), (881, .bipush 115, 883, 0, 0),
  (883, .bipush 101, 885, 0, 0), (885, .bipush 99, 887, 0, 0), (887, .bipush 111, 889, 0, 0), (889, .bipush 110, 891, 0, 0), (891, .bipush 100, 893, 0, 0), (893, .iconst 0, 894, 0, 0), (894, .invokestatic 171, 897, 187, 7), (897, .lastore, 898, 0, 0),
  (898, .aload_n 0, 899, 0, 0), (899, .getfield 43, 902, 11, 22), (902, .iconst 0, 903, 0, 0), (903, .iconst 1, 904, 0, 0), (904, .iastore, 905, 0, 0), (905, .aload_n 0, 906, 0, 0), (906, .getfield 46, 909, 11, 23), (909, .iconst 0, 910, 0, 0),
  (910, .iconst 2, 911, 0, 0), (911, .iastore, 912, 0, 0), (912, .aload_n 0, 913, 0, 0), (913, .getfield 49, 916, 11, 24), (916, .iconst 1, 917, 0, 0), (917, .bipush 6, 919, 0, 0), (919, .iastore, 920, 0, 0), (920, .aload_n 0, 921, 0, 0),
  (921, .getfield 55, 924, 11, 26), (924, .iconst 0, 925, 0, 0), (925, .iconst 1, 926, 0, 0), (926, .iastore, 927, 0, 0), (927, .aload_n 0, 928, 0, 0), (928, .getfield 58, 931, 11, 27), (931, .iconst 0, 932, 0, 0), (932, .iconst 1, 933, 0, 0),
  (933, .iastore, 934, 0, 0), (934, .aload_n 0, 935, 0, 0), (935, .getfield 61, 938, 11, 28), (938, .iconst 0, 939, 0, 0), (939, .bipush 6, 941, 0, 0), (941, .iastore, 942, 0, 0), (942, .aload_n 0, 943, 0, 0), (943, .getfield 64, 946, 11, 29),
  (946, .iconst 0, 947, 0, 0), (947, .iconst 1, 948, 0, 0), (948, .iastore, 949, 0, 0), (949, .aload_n 0, 950, 0, 0), (950, .invokevirtual 175, 953, 189, 0), (953, .aload_n 0, 954, 0, 0), (954, .invokevirtual 178, 957, 190, 0), (957, .return_, 958, 0, 0)]
set_option maxRecDepth 20000 in
/-- 186: StoneHomeModel.plain(I)V -/
def at_X11_plain : List (Nat × am_I) := [(0, .aload_n 0, 1, 0, 0), (1, .getfield 43, 4, 11, 22), (4, .iload_n 1, 5, 1, 0), (5, .iconst 0, 6, 0, 0), (6, .iastore, 7, 0, 0), (7, .aload_n 0, 8, 0, 0), (8, .getfield 46, 11, 11, 23), (11, .iload_n 1, 12, 1, 0),
  (12, .iconst 0, 13, 0, 0), (13, .iastore, 14, 0, 0), (14, .aload_n 0, 15, 0, 0), (15, .getfield 52, 18, 11, 25), (18, .iload_n 1, 19, 1, 0), (19, .iconst 1, 20, 0, 0), (20, .iastore, 21, 0, 0), (21, .aload_n 0, 22, 0, 0),
  (22, .getfield 55, 25, 11, 26), (25, .iload_n 1, 26, 1, 0), (26, .iconst 0, 27, 0, 0), (27, .iastore, 28, 0, 0), (28, .aload_n 0, 29, 0, 0), (29, .getfield 79, 32, 11, 34), (32, .iload_n 1, 33, 1, 0), (33, .iconst 0, 34, 0, 0),
  (34, .iastore, 35, 0, 0), (35, .aload_n 0, 36, 0, 0), (36, .getfield 82, 39, 11, 35), (39, .iload_n 1, 40, 1, 0), (40, .iconst 5, 41, 0, 0), (41, .iastore, 42, 0, 0), (42, .aload_n 0, 43, 0, 0), (43, .getfield 85, 46, 11, 36),
  (46, .iload_n 1, 47, 1, 0), (47, .iconst 0, 48, 0, 0), (48, .iastore, 49, 0, 0), (49, .iconst 0, 50, 0, 0), (50, .istore_n 2, 51, 2, 0), (51, .iload_n 2, 52, 2, 0), (52, .iconst 3, 53, 0, 0), (53, .if_icmp .ge 53, 56, 106, 0),
  (56, .aload_n 0, 57, 0, 0), (57, .getfield 73, 60, 11, 32), (60, .iconst 3, 61, 0, 0), (61, .iload_n 1, 62, 1, 0), (62, .imul, 63, 0, 0), (63, .iload_n 2, 64, 2, 0), (64, .iadd, 65, 0, 0), (65, .iconst 0, 66, 0, 0),
  (66, .iastore, 67, 0, 0), (67, .aload_n 0, 68, 0, 0), (68, .getfield 76, 71, 11, 33), (71, .iconst 3, 72, 0, 0), (72, .iload_n 1, 73, 1, 0), (73, .imul, 74, 0, 0), (74, .iload_n 2, 75, 2, 0), (75, .iadd, 76, 0, 0),
  (76, .iconst 0, 77, 0, 0), (77, .iastore, 78, 0, 0), (78, .aload_n 0, 79, 0, 0), (79, .getfield 88, 82, 11, 37), (82, .iconst 3, 83, 0, 0), (83, .iload_n 1, 84, 1, 0), (84, .imul, 85, 0, 0), (85, .iload_n 2, 86, 2, 0),
  (86, .iadd, 87, 0, 0), (87, .iconst 0, 88, 0, 0), (88, .iastore, 89, 0, 0), (89, .aload_n 0, 90, 0, 0), (90, .getfield 91, 93, 11, 38), (93, .iconst 3, 94, 0, 0), (94, .iload_n 1, 95, 1, 0), (95, .imul, 96, 0, 0),
  (96, .iload_n 2, 97, 2, 0), (97, .iadd, 98, 0, 0), (98, .iconst 0, 99, 0, 0), (99, .iastore, 100, 0, 0), (100, .iinc 2 1, 103, 2, 0), (103, .goto (-52), 106, 51, 0), (106, .return_, 107, 0, 0)]
set_option maxRecDepth 20000 in
/-- 187: StoneHomeModel.word(IIIIIII)J -/
def at_X11_word : List (Nat × am_I) := [(0, .lconst 0, 1, 0, 0), (1, .iload_n 0, 2, 0, 0), (2, .invokestatic 192, 5, 188, 2), (5, .iload_n 1, 6, 1, 0), (6, .invokestatic 192, 9, 188, 2), (9, .iload_n 2, 10, 2, 0), (10, .invokestatic 192, 13, 188, 2), (13, .iload_n 3, 14, 3, 0),
  (14, .invokestatic 192, 17, 188, 2), (17, .iload 4, 19, 4, 0), (19, .invokestatic 192, 22, 188, 2), (22, .iload 5, 24, 5, 0), (24, .invokestatic 192, 27, 188, 2), (27, .iload 6, 29, 6, 0), (29, .invokestatic 192, 32, 188, 2), (32, .lreturn, 33, 0, 0)]
set_option maxRecDepth 20000 in
/-- 188: StoneHomeModel.appends(JI)J -/
def at_X11_appends : List (Nat × am_I) := [(0, .iload_n 2, 1, 2, 0), (1, .ifCond .ne 7, 4, 8, 0), (4, .lload_n 0, 5, 0, 0), (5, .goto 16, 8, 21, 0), (8, .ldc2_w 190, 11, 0, 27), (11, .lload_n 0, 12, 0, 0), (12, .lmul, 13, 0, 0), (13, .iload_n 2, 14, 2, 0),
  (14, .bipush 97, 16, 0, 0), (16, .isub, 17, 0, 0), (17, .iconst 1, 18, 0, 0), (18, .iadd, 19, 0, 0), (19, .i2l, 20, 0, 0), (20, .ladd, 21, 0, 0), (21, .lreturn, 22, 0, 0)]
set_option maxRecDepth 20000 in
/-- 189: StoneHomeModel.begins()V -/
def at_X11_begins : List (Nat × am_I) := [(0, .iconst 0, 1, 0, 0), (1, .istore_n 1, 2, 1, 0), (2, .iload_n 1, 3, 1, 0), (3, .bipush 10, 5, 0, 0), (5, .if_icmp .ge 16, 8, 21, 0), (8, .aload_n 0, 9, 0, 0), (9, .getfield 128, 12, 11, 54), (12, .iload_n 1, 13, 1, 0),
  (13, .iconst 0, 14, 0, 0), (14, .iastore, 15, 0, 0), (15, .iinc 1 1, 18, 1, 0), (18, .goto (-16), 21, 2, 0), (21, .iconst 0, 22, 0, 0), (22, .istore_n 1, 23, 1, 0), (23, .iload_n 1, 24, 1, 0), (24, .iconst 3, 25, 0, 0),
  (25, .if_icmp .ge 28, 28, 53, 0), (28, .aload_n 0, 29, 0, 0), (29, .getfield 128, 32, 11, 54), (32, .iload_n 1, 33, 1, 0), (33, .aload_n 0, 34, 0, 0), (34, .getfield 73, 37, 11, 32), (37, .iconst 3, 38, 0, 0), (38, .aload_n 0, 39, 0, 0),
  (39, .getfield 248, 42, 11, 18), (42, .imul, 43, 0, 0), (43, .iload_n 1, 44, 1, 0), (44, .iadd, 45, 0, 0), (45, .iaload, 46, 0, 0), (46, .iastore, 47, 0, 0), (47, .iinc 1 1, 50, 1, 0), (50, .goto (-27), 53, 23, 0),
  (53, .aload_n 0, 54, 0, 0), (54, .getfield 128, 57, 11, 54), (57, .iconst 3, 58, 0, 0), (58, .aload_n 0, 59, 0, 0), (59, .getfield 79, 62, 11, 34), (62, .aload_n 0, 63, 0, 0), (63, .getfield 248, 66, 11, 18), (66, .iaload, 67, 0, 0),
  (67, .iastore, 68, 0, 0), (68, .return_, 69, 0, 0)]
set_option maxRecDepth 20000 in
/-- 190: StoneHomeModel.keepsRow()V -/
def at_X11_keepsRow : List (Nat × am_I) := [(0, .iconst 0, 1, 0, 0), (1, .istore_n 1, 2, 1, 0), (2, .iload_n 1, 3, 1, 0), (3, .bipush 10, 5, 0, 0), (5, .if_icmp .ge 21, 8, 26, 0), (8, .aload_n 0, 9, 0, 0), (9, .getfield 125, 12, 11, 53), (12, .iload_n 1, 13, 1, 0),
  (13, .aload_n 0, 14, 0, 0), (14, .getfield 128, 17, 11, 54), (17, .iload_n 1, 18, 1, 0), (18, .iaload, 19, 0, 0), (19, .iastore, 20, 0, 0), (20, .iinc 1 1, 23, 1, 0), (23, .goto (-21), 26, 2, 0), (26, .return_, 27, 0, 0)]
set_option maxRecDepth 20000 in
/-- 191: StoneHomeModel.feed(IIIII)I -/
def at_X11_feed : List (Nat × am_I) := [(0, .aload_n 0, 1, 0, 0), (1, .getfield 181, 4, 11, 2), (4, .bipush 20, 6, 0, 0), (6, .iadd, 7, 0, 0), (7, .sipush 2000, 10, 0, 0), (10, .if_icmp .le 5, 13, 15, 0), (13, .iconst (-1), 14, 0, 0), (14, .ireturn, 15, 0, 0),
  (15, .aload_n 0, 16, 0, 0), (16, .iload_n 1, 17, 1, 0), (17, .invokevirtual 184, 20, 192, 1), (20, .aload_n 0, 21, 0, 0), (21, .iload_n 2, 22, 2, 0), (22, .invokevirtual 184, 25, 192, 1), (25, .aload_n 0, 26, 0, 0), (26, .iload_n 3, 27, 3, 0),
  (27, .invokevirtual 184, 30, 192, 1), (30, .aload_n 0, 31, 0, 0), (31, .iload 4, 33, 4, 0), (33, .invokevirtual 184, 36, 192, 1), (36, .aload_n 0, 37, 0, 0), (37, .iload 5, 39, 5, 0), (39, .invokevirtual 184, 42, 192, 1), (42, .aload_n 0, 43, 0, 0),
  (43, .getfield 181, 46, 11, 2), (46, .ireturn, 47, 0, 0)]
set_option maxRecDepth 20000 in
/-- 192: StoneHomeModel.put(I)V -/
def at_X11_put : List (Nat × am_I) := [(0, .bipush 24, 2, 0, 0), (2, .istore_n 2, 3, 2, 0), (3, .iload_n 2, 4, 2, 0), (4, .ifCond .lt 32, 7, 36, 0), (7, .aload_n 0, 8, 0, 0), (8, .getfield 13, 11, 11, 1), (11, .aload_n 0, 12, 0, 0), (12, .getfield 181, 15, 11, 2),
  (15, .iload_n 1, 16, 1, 0), (16, .iload_n 2, 17, 2, 0), (17, .ishr, 18, 0, 0), (18, .i2b, 19, 0, 0), (19, .bastore, 20, 1, 0), (20, .aload_n 0, 21, 0, 0), (21, .dup, 22, 0, 0), (22, .getfield 181, 25, 11, 2),
  (25, .iconst 1, 26, 0, 0), (26, .iadd, 27, 0, 0), (27, .putfield 181, 30, 11, 16), (30, .iinc 2 (-8), 33, 2, 0), (33, .goto (-30), 36, 3, 0), (36, .return_, 37, 0, 0)]
set_option maxRecDepth 20000 in
/-- 193: StoneHomeModel.back(I)I -/
def at_X11_back : List (Nat × am_I) := [(0, .iload_n 1, 1, 1, 0), (1, .ifCond .lt 11, 4, 12, 0), (4, .iload_n 1, 5, 1, 0), (5, .aload_n 0, 6, 0, 0), (6, .getfield 181, 9, 11, 2), (9, .if_icmp .le 5, 12, 14, 0), (12, .iconst (-1), 13, 0, 0), (13, .ireturn, 14, 0, 0),
  (14, .aload_n 0, 15, 0, 0), (15, .dup, 16, 0, 0), (16, .getfield 181, 19, 11, 2), (19, .iload_n 1, 20, 1, 0), (20, .isub, 21, 0, 0), (21, .putfield 181, 24, 11, 16), (24, .aload_n 0, 25, 0, 0), (25, .getfield 181, 28, 11, 2),
  (28, .ireturn, 29, 0, 0)]
set_option maxRecDepth 20000 in
/-- 194: StoneHomeModel.read()I -/
def at_X11_read : List (Nat × am_I) := [(0, .aload_n 0, 1, 0, 0), (1, .aload_n 0, 2, 0, 0), (2, .getfield 181, 5, 11, 2), (5, .putfield 187, 8, 11, 32), (8, .iconst 0, 9, 0, 0), (9, .istore_n 1, 10, 1, 0), (10, .iload_n 1, 11, 1, 0), (11, .aload_n 0, 12, 0, 0),
  (12, .getfield 187, 15, 11, 4), (15, .if_icmp .ge 21, 18, 36, 0), (18, .aload_n 0, 19, 0, 0), (19, .getfield 17, 22, 11, 3), (22, .iload_n 1, 23, 1, 0), (23, .aload_n 0, 24, 0, 0), (24, .getfield 13, 27, 11, 1), (27, .iload_n 1, 28, 1, 0),
  (28, .baload, 29, 1, 0), (29, .bastore, 30, 1, 0), (30, .iinc 1 1, 33, 1, 0), (33, .goto (-23), 36, 10, 0), (36, .aload_n 0, 37, 0, 0), (37, .iconst 0, 38, 0, 0), (38, .putfield 181, 41, 11, 16), (41, .aload_n 0, 42, 0, 0),
  (42, .invokevirtual 242, 45, 195, 0), (45, .aload_n 0, 46, 0, 0), (46, .iconst 0, 47, 0, 0), (47, .putfield 221, 50, 11, 88), (50, .aload_n 0, 51, 0, 0), (51, .iconst 0, 52, 0, 0), (52, .putfield 245, 55, 11, 96), (55, .aload_n 0, 56, 0, 0),
  (56, .iconst 0, 57, 0, 0), (57, .putfield 218, 60, 11, 104), (60, .aload_n 0, 61, 0, 0), (61, .iconst 0, 62, 0, 0), (62, .putfield 227, 65, 11, 120), (65, .aload_n 0, 66, 0, 0), (66, .iconst 1, 67, 0, 0), (67, .aload_n 0, 68, 0, 0),
  (68, .getfield 248, 71, 11, 18), (71, .isub, 72, 0, 0), (72, .putfield 251, 75, 11, 152), (75, .aload_n 0, 76, 0, 0), (76, .iconst 0, 77, 0, 0), (77, .putfield 254, 80, 11, 160), (80, .aload_n 0, 81, 0, 0), (81, .aload_n 0, 82, 0, 0),
  (82, .getfield 251, 85, 11, 19), (85, .invokevirtual 167, 88, 186, 1), (88, .aload_n 0, 89, 0, 0), (89, .sipush 130, 92, 0, 0), (92, .aload_n 0, 93, 0, 0), (93, .getfield 251, 96, 11, 19), (96, .imul, 97, 0, 0), (97, .putfield 257, 100, 11, 312),
  (100, .aload_n 0, 101, 0, 0), (101, .sipush 420, 104, 0, 0), (104, .aload_n 0, 105, 0, 0), (105, .getfield 251, 108, 11, 19), (108, .imul, 109, 0, 0), (109, .putfield 260, 112, 11, 360), (112, .aload_n 0, 113, 0, 0), (113, .getfield 218, 116, 11, 13),
  (116, .ifCond .ne 18, 119, 134, 0), (119, .aload_n 0, 120, 0, 0), (120, .iconst 0, 121, 0, 0), (121, .invokevirtual 236, 124, 201, 1), (124, .ifCond .ne 10, 127, 134, 0), (127, .aload_n 0, 128, 0, 0), (128, .invokevirtual 263, 131, 202, 0), (131, .goto (-19), 134, 112, 0),
  (134, .aload_n 0, 135, 0, 0), (135, .getfield 218, 138, 11, 13), (138, .ifCond .ne 62, 141, 200, 0), (141, .aload_n 0, 142, 0, 0), (142, .getfield 227, 145, 11, 15), (145, .ifCond .ne 55, 148, 200, 0), (148, .aload_n 0, 149, 0, 0), (149, .getfield 43, 152, 11, 22),
  (152, .aload_n 0, 153, 0, 0), (153, .getfield 251, 156, 11, 19), (156, .iaload, 157, 0, 0), (157, .ifCond .eq 37, 160, 194, 0), (160, .aload_n 0, 161, 0, 0), (161, .getfield 55, 164, 11, 26), (164, .aload_n 0, 165, 0, 0), (165, .getfield 251, 168, 11, 19),
  (168, .iaload, 169, 0, 0), (169, .ifCond .eq 25, 172, 194, 0), (172, .aload_n 0, 173, 0, 0), (173, .aload_n 0, 174, 0, 0), (174, .getfield 73, 177, 11, 32), (177, .invokevirtual 266, 180, 218, 1), (180, .ifCond .eq 14, 183, 194, 0), (183, .aload_n 0, 184, 0, 0),
  (184, .aload_n 0, 185, 0, 0), (185, .getfield 76, 188, 11, 33), (188, .invokevirtual 266, 191, 218, 1), (191, .ifCond .ne 9, 194, 200, 0), (194, .aload_n 0, 195, 0, 0), (195, .bipush 7, 197, 0, 0), (197, .invokevirtual 233, 200, 203, 1), (200, .aload_n 0, 201, 0, 0),
  (201, .aload_n 0, 202, 0, 0), (202, .getfield 218, 205, 11, 13), (205, .ifCond .le 10, 208, 215, 0), (208, .aload_n 0, 209, 0, 0), (209, .getfield 224, 212, 11, 14), (212, .goto 18, 215, 230, 0), (215, .aload_n 0, 216, 0, 0), (216, .getfield 227, 219, 11, 15),
  (219, .ifCond .le 10, 222, 229, 0), (222, .aload_n 0, 223, 0, 0), (223, .getfield 230, 226, 11, 16), (226, .goto 4, 229, 230, 0), (229, .iconst (-1), 230, 0, 0), (230, .putfield 37, 233, 11, 136), (233, .aload_n 0, 234, 0, 0), (234, .getfield 218, 237, 11, 13),
  (237, .ifCond .le 8, 240, 245, 0), (240, .aload_n 0, 241, 0, 0), (241, .getfield 218, 244, 11, 13), (244, .ireturn, 245, 0, 0), (245, .aload_n 0, 246, 0, 0), (246, .getfield 227, 249, 11, 15), (249, .ifCond .le 8, 252, 257, 0), (252, .aload_n 0, 253, 0, 0),
  (253, .getfield 227, 256, 11, 15), (256, .ireturn, 257, 0, 0), (257, .aload_n 0, 258, 0, 0), (258, .aload_n 0, 259, 0, 0), (259, .getfield 251, 262, 11, 19), (262, .putfield 248, 265, 11, 144), (265, .aload_n 0, 266, 0, 0), (266, .invokevirtual 175, 269, 189, 0),
  (269, .aload_n 0, 270, 0, 0), (270, .invokevirtual 178, 273, 190, 0), (273, .aload_n 0, 274, 0, 0), (274, .iconst 0, 275, 0, 0), (275, .putfield 270, 278, 11, 464), (278, .aload_n 0, 279, 0, 0), (279, .iconst 0, 280, 0, 0), (280, .putfield 273, 283, 11, 504),
  (283, .iconst 0, 284, 0, 0), (284, .istore_n 1, 285, 1, 0), (285, .iload_n 1, 286, 1, 0), (286, .iconst 3, 287, 0, 0), (287, .if_icmp .ge 16, 290, 303, 0), (290, .aload_n 0, 291, 0, 0), (291, .getfield 161, 294, 11, 68), (294, .iload_n 1, 295, 1, 0),
  (295, .iconst 0, 296, 0, 0), (296, .bastore, 297, 2, 0), (297, .iinc 1 1, 300, 1, 0), (300, .goto (-15), 303, 285, 0), (303, .iconst 0, 304, 0, 0), (304, .ireturn, 305, 0, 0)]
set_option maxRecDepth 20000 in
/-- 195: StoneHomeModel.cut()V -/
def at_X11_cut : List (Nat × am_I) := [(0, .aload_n 0, 1, 0, 0), (1, .iconst 0, 2, 0, 0), (2, .putfield 196, 5, 11, 80), (5, .iconst 0, 6, 0, 0), (6, .istore_n 1, 7, 1, 0), (7, .aload_n 0, 8, 0, 0), (8, .getfield 196, 11, 11, 10), (11, .sipush 400, 14, 0, 0),
  (14, .if_icmp .gt 280, 17, 294, 0), (17, .aload_n 0, 18, 0, 0), (18, .iload_n 1, 19, 1, 0), (19, .invokevirtual 199, 22, 196, 1), (22, .istore_n 2, 23, 2, 0), (23, .iload_n 1, 24, 1, 0), (24, .aload_n 0, 25, 0, 0), (25, .getfield 187, 28, 11, 4),
  (28, .if_icmp .lt 15, 31, 43, 0), (31, .aload_n 0, 32, 0, 0), (32, .iconst 0, 33, 0, 0), (33, .aload_n 0, 34, 0, 0), (34, .getfield 187, 37, 11, 4), (37, .iconst 0, 38, 0, 0), (38, .lconst 0, 39, 0, 0), (39, .invokevirtual 203, 42, 197, 4),
  (42, .return_, 43, 0, 0), (43, .iload_n 2, 44, 2, 0), (44, .bipush 9, 46, 0, 0), (46, .if_icmp .eq 21, 49, 67, 0), (49, .iload_n 2, 50, 2, 0), (50, .bipush 10, 52, 0, 0), (52, .if_icmp .eq 15, 55, 67, 0), (55, .iload_n 2, 56, 2, 0),
  (56, .bipush 13, 58, 0, 0), (58, .if_icmp .eq 9, 61, 67, 0), (61, .iload_n 2, 62, 2, 0), (62, .bipush 32, 64, 0, 0), (64, .if_icmp .ne 9, 67, 73, 0), (67, .iinc 1 1, 70, 1, 0), (70, .goto 221, 73, 291, 0), (73, .iload_n 2, 74, 2, 0),
  (74, .invokestatic 207, 77, 198, 1), (77, .ifCond .eq 119, 80, 196, 0), (80, .iconst 0, 81, 0, 0), (81, .istore_n 3, 82, 3, 0), (82, .lconst 0, 83, 0, 0), (83, .lstore 4, 85, 4, 0), (85, .aload_n 0, 86, 0, 0), (86, .iload_n 1, 87, 1, 0),
  (87, .iload_n 3, 88, 3, 0), (88, .iadd, 89, 0, 0), (89, .invokevirtual 199, 92, 196, 1), (92, .invokestatic 207, 95, 198, 1), (95, .ifCond .eq 29, 98, 124, 0), (98, .iload_n 3, 99, 3, 0), (99, .bipush 8, 101, 0, 0), (101, .if_icmp .ge 17, 104, 118, 0),
  (104, .lload 4, 106, 4, 0), (106, .aload_n 0, 107, 0, 0), (107, .iload_n 1, 108, 1, 0), (108, .iload_n 3, 109, 3, 0), (109, .iadd, 110, 0, 0), (110, .invokevirtual 199, 113, 196, 1), (113, .invokestatic 192, 116, 188, 2), (116, .lstore 4, 118, 4, 0),
  (118, .iinc 3 1, 121, 3, 0), (121, .goto (-36), 124, 85, 0), (124, .iload_n 3, 125, 3, 0), (125, .bipush 8, 127, 0, 0), (127, .if_icmp .le 7, 130, 134, 0), (130, .iconst 3, 131, 0, 0), (131, .goto 4, 134, 135, 0), (134, .iconst 1, 135, 0, 0),
  (135, .istore 6, 137, 6, 0), (137, .iload_n 3, 138, 3, 0), (138, .bipush 7, 140, 0, 0), (140, .if_icmp .gt 39, 143, 179, 0), (143, .iconst 0, 144, 0, 0), (144, .istore 7, 146, 7, 0), (146, .iload 7, 148, 7, 0), (148, .bipush 23, 150, 0, 0),
  (150, .if_icmp .ge 29, 153, 179, 0), (153, .aload_n 0, 154, 0, 0), (154, .getfield 34, 157, 11, 9), (157, .iload 7, 159, 7, 0), (159, .laload, 160, 0, 0), (160, .lload 4, 162, 4, 0), (162, .lcmp, 163, 0, 0), (163, .ifCond .ne 10, 166, 173, 0),
  (166, .bipush 20, 168, 0, 0), (168, .iload 7, 170, 7, 0), (170, .iadd, 171, 0, 0), (171, .istore 6, 173, 6, 0), (173, .iinc 7 1, 176, 7, 0), (176, .goto (-30), 179, 146, 0), (179, .aload_n 0, 180, 0, 0), (180, .iload 6, 182, 6, 0),
  (182, .iload_n 1, 183, 1, 0), (183, .iconst 0, 184, 0, 0), (184, .lload 4, 186, 4, 0), (186, .invokevirtual 203, 189, 197, 4), (189, .iload_n 1, 190, 1, 0), (190, .iload_n 3, 191, 3, 0), (191, .iadd, 192, 0, 0), (192, .istore_n 1, 193, 1, 0),
  (193, .goto 98, 196, 291, 0), (196, .iload_n 2, 197, 2, 0), (197, .invokestatic 211, 200, 199, 1), (200, .ifCond .eq 75, 203, 275, 0), (203, .iconst 0, 204, 0, 0), (204, .istore_n 3, 205, 3, 0), (205, .iconst 0, 206, 0, 0), (206, .istore 4, 208, 4, 0),
  (208, .aload_n 0, 209, 0, 0), (209, .iload_n 1, 210, 1, 0), (210, .iload_n 3, 211, 3, 0), (211, .iadd, 212, 0, 0), (212, .invokevirtual 199, 215, 196, 1), (215, .invokestatic 211, 218, 199, 1), (218, .ifCond .eq 32, 221, 250, 0), (221, .iload_n 3, 222, 3, 0),
  (222, .iconst 4, 223, 0, 0), (223, .if_icmp .ge 21, 226, 244, 0), (226, .bipush 10, 228, 0, 0), (228, .iload 4, 230, 4, 0), (230, .imul, 231, 0, 0), (231, .aload_n 0, 232, 0, 0), (232, .iload_n 1, 233, 1, 0), (233, .iload_n 3, 234, 3, 0),
  (234, .iadd, 235, 0, 0), (235, .invokevirtual 199, 238, 196, 1), (238, .iadd, 239, 0, 0), (239, .bipush 48, 241, 0, 0), (241, .isub, 242, 0, 0), (242, .istore 4, 244, 4, 0), (244, .iinc 3 1, 247, 3, 0), (247, .goto (-39), 250, 208, 0),
  (250, .aload_n 0, 251, 0, 0), (251, .iload_n 3, 252, 3, 0), (252, .iconst 4, 253, 0, 0), (253, .if_icmp .le 7, 256, 260, 0), (256, .iconst 3, 257, 0, 0), (257, .goto 4, 260, 261, 0), (260, .iconst 2, 261, 0, 0), (261, .iload_n 1, 262, 1, 0),
  (262, .iload 4, 264, 4, 0), (264, .lconst 0, 265, 0, 0), (265, .invokevirtual 203, 268, 197, 4), (268, .iload_n 1, 269, 1, 0), (269, .iload_n 3, 270, 3, 0), (270, .iadd, 271, 0, 0), (271, .istore_n 1, 272, 1, 0), (272, .goto 19, 275, 291, 0),
  (275, .iload_n 1, 276, 1, 0), (276, .aload_n 0, 277, 0, 0), (277, .iload_n 1, 278, 1, 0), (278, .iload_n 2, 279, 2, 0), (279, .aload_n 0, 280, 0, 0), (280, .iload_n 1, 281, 1, 0), (281, .iconst 1, 282, 0, 0), (282, .iadd, 283, 0, 0),
  (283, .invokevirtual 199, 286, 196, 1), (286, .invokevirtual 214, 289, 200, 3), (289, .iadd, 290, 0, 0), (290, .istore_n 1, 291, 1, 0), (291, .goto (-284), 294, 7, 0), (294, .return_, 295, 0, 0)]
set_option maxRecDepth 20000 in
/-- 196: StoneHomeModel.byteAt(I)I -/
def at_X11_byteAt : List (Nat × am_I) := [(0, .iload_n 1, 1, 1, 0), (1, .aload_n 0, 2, 0, 0), (2, .getfield 187, 5, 11, 4), (5, .if_icmp .ge 16, 8, 21, 0), (8, .aload_n 0, 9, 0, 0), (9, .getfield 17, 12, 11, 3), (12, .iload_n 1, 13, 1, 0), (13, .baload, 14, 1, 0),
  (14, .sipush 255, 17, 0, 0), (17, .iand, 18, 0, 0), (18, .goto 4, 21, 22, 0), (21, .iconst 0, 22, 0, 0), (22, .ireturn, 23, 0, 0)]
set_option maxRecDepth 20000 in
/-- 197: StoneHomeModel.token(IIIJ)V -/
def at_X11_token : List (Nat × am_I) := [(0, .aload_n 0, 1, 0, 0), (1, .getfield 20, 4, 11, 5), (4, .aload_n 0, 5, 0, 0), (5, .getfield 196, 8, 11, 10), (8, .iload_n 1, 9, 1, 0), (9, .iastore, 10, 0, 0), (10, .aload_n 0, 11, 0, 0), (11, .getfield 24, 14, 11, 6),
  (14, .aload_n 0, 15, 0, 0), (15, .getfield 196, 18, 11, 10), (18, .iload_n 2, 19, 2, 0), (19, .iastore, 20, 0, 0), (20, .aload_n 0, 21, 0, 0), (21, .getfield 27, 24, 11, 7), (24, .aload_n 0, 25, 0, 0), (25, .getfield 196, 28, 11, 10),
  (28, .iload_n 3, 29, 3, 0), (29, .iastore, 30, 0, 0), (30, .aload_n 0, 31, 0, 0), (31, .getfield 30, 34, 11, 8), (34, .aload_n 0, 35, 0, 0), (35, .getfield 196, 38, 11, 10), (38, .lload 4, 40, 4, 0), (40, .lastore, 41, 0, 0),
  (41, .aload_n 0, 42, 0, 0), (42, .dup, 43, 0, 0), (43, .getfield 196, 46, 11, 10), (46, .iconst 1, 47, 0, 0), (47, .iadd, 48, 0, 0), (48, .putfield 196, 51, 11, 80), (51, .return_, 52, 0, 0)]
set_option maxRecDepth 20000 in
/-- 198: StoneHomeModel.isLetter(I)Z -/
def at_X11_isLetter : List (Nat × am_I) := [(0, .iload_n 0, 1, 0, 0), (1, .bipush 97, 3, 0, 0), (3, .if_icmp .lt 13, 6, 16, 0), (6, .iload_n 0, 7, 0, 0), (7, .bipush 122, 9, 0, 0), (9, .if_icmp .gt 7, 12, 16, 0), (12, .iconst 1, 13, 0, 0), (13, .goto 4, 16, 17, 0),
  (16, .iconst 0, 17, 0, 0), (17, .ireturn, 18, 0, 0)]
set_option maxRecDepth 20000 in
/-- 199: StoneHomeModel.isDigit(I)Z -/
def at_X11_isDigit : List (Nat × am_I) := [(0, .iload_n 0, 1, 0, 0), (1, .bipush 48, 3, 0, 0), (3, .if_icmp .lt 13, 6, 16, 0), (6, .iload_n 0, 7, 0, 0), (7, .bipush 57, 9, 0, 0), (9, .if_icmp .gt 7, 12, 16, 0), (12, .iconst 1, 13, 0, 0), (13, .goto 4, 16, 17, 0),
  (16, .iconst 0, 17, 0, 0), (17, .ireturn, 18, 0, 0)]
set_option maxRecDepth 20000 in
/-- 200: StoneHomeModel.sign(III)I -/
def at_X11_sign : List (Nat × am_I) := [(0, .iload_n 2, 1, 2, 0), (1, .bipush 59, 3, 0, 0), (3, .if_icmp .ne 7, 6, 10, 0), (6, .iconst 4, 7, 0, 0), (7, .goto 36, 10, 43, 0), (10, .iload_n 2, 11, 2, 0), (11, .bipush 61, 13, 0, 0), (13, .if_icmp .ne 7, 16, 20, 0),
  (16, .iconst 5, 17, 0, 0), (17, .goto 26, 20, 43, 0), (20, .iload_n 2, 21, 2, 0), (21, .bipush 40, 23, 0, 0), (23, .if_icmp .ne 8, 26, 31, 0), (26, .bipush 6, 28, 0, 0), (28, .goto 15, 31, 43, 0), (31, .iload_n 2, 32, 2, 0),
  (32, .bipush 41, 34, 0, 0), (34, .if_icmp .ne 8, 37, 42, 0), (37, .bipush 7, 39, 0, 0), (39, .goto 4, 42, 43, 0), (42, .iconst 3, 43, 0, 0), (43, .istore 4, 45, 4, 0), (45, .iload_n 2, 46, 2, 0), (46, .bipush 43, 48, 0, 0),
  (48, .if_icmp .ne 7, 51, 55, 0), (51, .bipush 8, 53, 0, 0), (53, .istore 4, 55, 4, 0), (55, .iload_n 2, 56, 2, 0), (56, .bipush 45, 58, 0, 0), (58, .if_icmp .ne 7, 61, 65, 0), (61, .bipush 9, 63, 0, 0), (63, .istore 4, 65, 4, 0),
  (65, .iload_n 2, 66, 2, 0), (66, .bipush 42, 68, 0, 0), (68, .if_icmp .ne 7, 71, 75, 0), (71, .bipush 10, 73, 0, 0), (73, .istore 4, 75, 4, 0), (75, .iload_n 2, 76, 2, 0), (76, .bipush 47, 78, 0, 0), (78, .if_icmp .ne 7, 81, 85, 0),
  (81, .bipush 15, 83, 0, 0), (83, .istore 4, 85, 4, 0), (85, .iload_n 2, 86, 2, 0), (86, .bipush 60, 88, 0, 0), (88, .if_icmp .ne 7, 91, 95, 0), (91, .bipush 13, 93, 0, 0), (93, .istore 4, 95, 4, 0), (95, .aload_n 0, 96, 0, 0),
  (96, .iload 4, 98, 4, 0), (98, .iload_n 1, 99, 1, 0), (99, .iconst 0, 100, 0, 0), (100, .lconst 0, 101, 0, 0), (101, .invokevirtual 203, 104, 197, 4), (104, .iconst 1, 105, 0, 0), (105, .ireturn, 106, 0, 0)]
set_option maxRecDepth 20000 in
/-- 201: StoneHomeModel.is(I)Z -/
def at_X11_is : List (Nat × am_I) := [(0, .aload_n 0, 1, 0, 0), (1, .getfield 218, 4, 11, 13), (4, .ifCond .ne 20, 7, 24, 0), (7, .aload_n 0, 8, 0, 0), (8, .getfield 20, 11, 11, 5), (11, .aload_n 0, 12, 0, 0), (12, .getfield 221, 15, 11, 11), (15, .iaload, 16, 0, 0),
  (16, .iload_n 1, 17, 1, 0), (17, .if_icmp .ne 7, 20, 24, 0), (20, .iconst 1, 21, 0, 0), (21, .goto 4, 24, 25, 0), (24, .iconst 0, 25, 0, 0), (25, .ireturn, 26, 0, 0)]
set_option maxRecDepth 20000 in
/-- 202: StoneHomeModel.tellOne()V -/
def at_X11_tellOne : List (Nat × am_I) := [(0, .aload_n 0, 1, 0, 0), (1, .getfield 20, 4, 11, 5), (4, .aload_n 0, 5, 0, 0), (5, .getfield 221, 8, 11, 11), (8, .iaload, 9, 0, 0), (9, .tableswitch 332 20 32 #[67, 99, 126, 332, 332, 332, 332, 332, 158, 203, 248, 275, 303], 76, 341, 0), (76, .aload_n 0, 77, 0, 0), (77, .getfield 43, 80, 11, 22),
  (80, .aload_n 0, 81, 0, 0), (81, .getfield 251, 84, 11, 19), (84, .iaload, 85, 0, 0), (85, .iconst 4, 86, 0, 0), (86, .if_icmp .ne 8, 89, 94, 0), (89, .aload_n 0, 90, 0, 0), (90, .iconst 2, 91, 0, 0), (91, .invokevirtual 233, 94, 203, 1),
  (94, .aload_n 0, 95, 0, 0), (95, .getfield 218, 98, 11, 13), (98, .ifCond .ne 296, 101, 394, 0), (101, .aload_n 0, 102, 0, 0), (102, .invokevirtual 276, 105, 204, 0), (105, .goto 289, 108, 394, 0), (108, .aload_n 0, 109, 0, 0), (109, .invokevirtual 239, 112, 205, 0),
  (112, .aload_n 0, 113, 0, 0), (113, .getfield 52, 116, 11, 25), (116, .aload_n 0, 117, 0, 0), (117, .getfield 251, 120, 11, 19), (120, .aload_n 0, 121, 0, 0), (121, .iconst 1, 122, 0, 0), (122, .iconst 3, 123, 0, 0), (123, .invokevirtual 279, 126, 209, 2),
  (126, .iastore, 127, 0, 0), (127, .aload_n 0, 128, 0, 0), (128, .iconst 4, 129, 0, 0), (129, .invokevirtual 283, 132, 206, 1), (132, .goto 262, 135, 394, 0), (135, .aload_n 0, 136, 0, 0), (136, .getfield 55, 139, 11, 26), (139, .aload_n 0, 140, 0, 0),
  (140, .getfield 251, 143, 11, 19), (143, .iaload, 144, 0, 0), (144, .iconst 4, 145, 0, 0), (145, .if_icmp .ne 8, 148, 153, 0), (148, .aload_n 0, 149, 0, 0), (149, .iconst 2, 150, 0, 0), (150, .invokevirtual 233, 153, 203, 1), (153, .aload_n 0, 154, 0, 0),
  (154, .getfield 218, 157, 11, 13), (157, .ifCond .ne 237, 160, 394, 0), (160, .aload_n 0, 161, 0, 0), (161, .invokevirtual 286, 164, 210, 0), (164, .goto 230, 167, 394, 0), (167, .aload_n 0, 168, 0, 0), (168, .invokevirtual 239, 171, 205, 0), (171, .iconst 0, 172, 0, 0),
  (172, .istore_n 1, 173, 1, 0), (173, .iload_n 1, 174, 1, 0), (174, .iconst 3, 175, 0, 0), (175, .if_icmp .ge 29, 178, 204, 0), (178, .aload_n 0, 179, 0, 0), (179, .getfield 73, 182, 11, 32), (182, .iconst 3, 183, 0, 0), (183, .aload_n 0, 184, 0, 0),
  (184, .getfield 251, 187, 11, 19), (187, .imul, 188, 0, 0), (188, .iload_n 1, 189, 1, 0), (189, .iadd, 190, 0, 0), (190, .aload_n 0, 191, 0, 0), (191, .iconst 0, 192, 0, 0), (192, .bipush 9, 194, 0, 0), (194, .invokevirtual 279, 197, 209, 2),
  (197, .iastore, 198, 0, 0), (198, .iinc 1 1, 201, 1, 0), (201, .goto (-28), 204, 173, 0), (204, .aload_n 0, 205, 0, 0), (205, .iconst 4, 206, 0, 0), (206, .invokevirtual 283, 209, 206, 1), (209, .goto 185, 212, 394, 0), (212, .aload_n 0, 213, 0, 0),
  (213, .invokevirtual 239, 216, 205, 0), (216, .iconst 0, 217, 0, 0), (217, .istore_n 1, 218, 1, 0), (218, .iload_n 1, 219, 1, 0), (219, .iconst 3, 220, 0, 0), (220, .if_icmp .ge 29, 223, 249, 0), (223, .aload_n 0, 224, 0, 0), (224, .getfield 76, 227, 11, 33),
  (227, .iconst 3, 228, 0, 0), (228, .aload_n 0, 229, 0, 0), (229, .getfield 251, 232, 11, 19), (232, .imul, 233, 0, 0), (233, .iload_n 1, 234, 1, 0), (234, .iadd, 235, 0, 0), (235, .aload_n 0, 236, 0, 0), (236, .iconst 0, 237, 0, 0),
  (237, .bipush 9, 239, 0, 0), (239, .invokevirtual 279, 242, 209, 2), (242, .iastore, 243, 0, 0), (243, .iinc 1 1, 246, 1, 0), (246, .goto (-28), 249, 218, 0), (249, .aload_n 0, 250, 0, 0), (250, .iconst 4, 251, 0, 0), (251, .invokevirtual 283, 254, 206, 1),
  (254, .goto 140, 257, 394, 0), (257, .aload_n 0, 258, 0, 0), (258, .invokevirtual 239, 261, 205, 0), (261, .aload_n 0, 262, 0, 0), (262, .getfield 79, 265, 11, 34), (265, .aload_n 0, 266, 0, 0), (266, .getfield 251, 269, 11, 19), (269, .aload_n 0, 270, 0, 0),
  (270, .iconst 0, 271, 0, 0), (271, .iconst 2, 272, 0, 0), (272, .invokevirtual 279, 275, 209, 2), (275, .iastore, 276, 0, 0), (276, .aload_n 0, 277, 0, 0), (277, .iconst 4, 278, 0, 0), (278, .invokevirtual 283, 281, 206, 1), (281, .goto 113, 284, 394, 0),
  (284, .aload_n 0, 285, 0, 0), (285, .invokevirtual 239, 288, 205, 0), (288, .aload_n 0, 289, 0, 0), (289, .getfield 82, 292, 11, 35), (292, .aload_n 0, 293, 0, 0), (293, .getfield 251, 296, 11, 19), (296, .aload_n 0, 297, 0, 0), (297, .iconst 1, 298, 0, 0),
  (298, .bipush 99, 300, 0, 0), (300, .invokevirtual 279, 303, 209, 2), (303, .iastore, 304, 0, 0), (304, .aload_n 0, 305, 0, 0), (305, .iconst 4, 306, 0, 0), (306, .invokevirtual 283, 309, 206, 1), (309, .goto 85, 312, 394, 0), (312, .aload_n 0, 313, 0, 0),
  (313, .invokevirtual 239, 316, 205, 0), (316, .aload_n 0, 317, 0, 0), (317, .getfield 85, 320, 11, 36), (320, .aload_n 0, 321, 0, 0), (321, .getfield 251, 324, 11, 19), (324, .aload_n 0, 325, 0, 0), (325, .iconst 0, 326, 0, 0), (326, .sipush 9999, 329, 0, 0),
  (329, .invokevirtual 279, 332, 209, 2), (332, .iastore, 333, 0, 0), (333, .aload_n 0, 334, 0, 0), (334, .iconst 4, 335, 0, 0), (335, .invokevirtual 283, 338, 206, 1), (338, .goto 56, 341, 394, 0), (341, .aload_n 0, 342, 0, 0), (342, .getfield 20, 345, 11, 5),
  (345, .aload_n 0, 346, 0, 0), (346, .getfield 221, 349, 11, 11), (349, .iaload, 350, 0, 0), (350, .bipush 25, 352, 0, 0), (352, .isub, 353, 0, 0), (353, .istore_n 1, 354, 1, 0), (354, .iload_n 1, 355, 1, 0), (355, .ifCond .lt 17, 358, 372, 0),
  (358, .aload_n 0, 359, 0, 0), (359, .getfield 20, 362, 11, 5), (362, .aload_n 0, 363, 0, 0), (363, .getfield 221, 366, 11, 11), (366, .iaload, 367, 0, 0), (367, .bipush 27, 369, 0, 0), (369, .if_icmp .le 8, 372, 377, 0), (372, .aload_n 0, 373, 0, 0),
  (373, .iconst 1, 374, 0, 0), (374, .invokevirtual 233, 377, 203, 1), (377, .aload_n 0, 378, 0, 0), (378, .getfield 218, 381, 11, 13), (381, .ifCond .le 4, 384, 385, 0), (384, .return_, 385, 0, 0), (385, .aload_n 0, 386, 0, 0), (386, .invokevirtual 239, 389, 205, 0),
  (389, .aload_n 0, 390, 0, 0), (390, .iload_n 1, 391, 1, 0), (391, .invokevirtual 289, 394, 212, 1), (394, .return_, 395, 0, 0)]
set_option maxRecDepth 20000 in
/-- 203: StoneHomeModel.fail(I)V -/
def at_X11_fail : List (Nat × am_I) := [(0, .aload_n 0, 1, 0, 0), (1, .getfield 218, 4, 11, 13), (4, .ifCond .le 4, 7, 8, 0), (7, .return_, 8, 0, 0), (8, .aload_n 0, 9, 0, 0), (9, .iload_n 1, 10, 1, 0), (10, .putfield 218, 13, 11, 104), (13, .aload_n 0, 14, 0, 0),
  (14, .aload_n 0, 15, 0, 0), (15, .getfield 24, 18, 11, 6), (18, .aload_n 0, 19, 0, 0), (19, .getfield 221, 22, 11, 11), (22, .iaload, 23, 0, 0), (23, .putfield 224, 26, 11, 112), (26, .return_, 27, 0, 0)]
set_option maxRecDepth 20000 in
/-- 204: StoneHomeModel.tellRow()V -/
def at_X11_tellRow : List (Nat × am_I) := [(0, .aload_n 0, 1, 0, 0), (1, .invokevirtual 239, 4, 205, 0), (4, .aload_n 0, 5, 0, 0), (5, .getfield 221, 8, 11, 11), (8, .istore_n 1, 9, 1, 0), (9, .aload_n 0, 10, 0, 0), (10, .iconst 1, 11, 0, 0), (11, .invokevirtual 283, 14, 206, 1),
  (14, .aload_n 0, 15, 0, 0), (15, .getfield 218, 18, 11, 13), (18, .ifCond .ne 160, 21, 178, 0), (21, .aload_n 0, 22, 0, 0), (22, .getfield 30, 25, 11, 8), (25, .iload_n 1, 26, 1, 0), (26, .laload, 27, 0, 0), (27, .lstore_n 2, 28, 2, 0),
  (28, .iconst 0, 29, 0, 0), (29, .istore 4, 31, 4, 0), (31, .lload_n 2, 32, 2, 0), (32, .lstore 5, 34, 5, 0), (34, .lload 5, 36, 5, 0), (36, .lconst 0, 37, 0, 0), (37, .lcmp, 38, 0, 0), (38, .ifCond .le 17, 41, 55, 0),
  (41, .iinc 4 1, 44, 4, 0), (44, .lload 5, 46, 5, 0), (46, .ldc2_w 190, 49, 0, 27), (49, .ldiv, 50, 0, 0), (50, .lstore 5, 52, 5, 0), (52, .goto (-18), 55, 34, 0), (55, .aload_n 0, 56, 0, 0), (56, .getfield 43, 59, 11, 22),
  (59, .aload_n 0, 60, 0, 0), (60, .getfield 251, 63, 11, 19), (63, .iaload, 64, 0, 0), (64, .ifCond .ne 14, 67, 78, 0), (67, .aload_n 0, 68, 0, 0), (68, .getfield 46, 71, 11, 23), (71, .aload_n 0, 72, 0, 0), (72, .getfield 251, 75, 11, 19),
  (75, .iload 4, 77, 4, 0), (77, .iastore, 78, 0, 0), (78, .iload 4, 80, 4, 0), (80, .aload_n 0, 81, 0, 0), (81, .getfield 46, 84, 11, 23), (84, .aload_n 0, 85, 0, 0), (85, .getfield 251, 88, 11, 19), (88, .iaload, 89, 0, 0),
  (89, .if_icmp .eq 10, 92, 99, 0), (92, .aload_n 0, 93, 0, 0), (93, .bipush 6, 95, 0, 0), (95, .iload_n 1, 96, 1, 0), (96, .invokevirtual 292, 99, 207, 2), (99, .iload 4, 101, 4, 0), (101, .iconst 1, 102, 0, 0), (102, .isub, 103, 0, 0),
  (103, .istore 5, 105, 5, 0), (105, .iload 5, 107, 5, 0), (107, .ifCond .lt 71, 110, 178, 0), (110, .bipush 96, 112, 0, 0), (112, .lload_n 2, 113, 2, 0), (113, .ldc2_w 190, 116, 0, 27), (116, .lrem, 117, 0, 0), (117, .l2i, 118, 0, 0),
  (118, .iadd, 119, 0, 0), (119, .invokestatic 296, 122, 208, 1), (122, .istore 6, 124, 6, 0), (124, .iload 6, 126, 6, 0), (126, .ifCond .ge 10, 129, 136, 0), (129, .aload_n 0, 130, 0, 0), (130, .bipush 6, 132, 0, 0), (132, .iload_n 1, 133, 1, 0),
  (133, .invokevirtual 292, 136, 207, 2), (136, .aload_n 0, 137, 0, 0), (137, .getfield 49, 140, 11, 24), (140, .bipush 32, 142, 0, 0), (142, .aload_n 0, 143, 0, 0), (143, .getfield 251, 146, 11, 19), (146, .imul, 147, 0, 0), (147, .bipush 8, 149, 0, 0),
  (149, .aload_n 0, 150, 0, 0), (150, .getfield 43, 153, 11, 22), (153, .aload_n 0, 154, 0, 0), (154, .getfield 251, 157, 11, 19), (157, .iaload, 158, 0, 0), (158, .imul, 159, 0, 0), (159, .iadd, 160, 0, 0), (160, .iload 5, 162, 5, 0),
  (162, .iadd, 163, 0, 0), (163, .iload 6, 165, 6, 0), (165, .iastore, 166, 0, 0), (166, .lload_n 2, 167, 2, 0), (167, .ldc2_w 190, 170, 0, 27), (170, .ldiv, 171, 0, 0), (171, .lstore_n 2, 172, 2, 0), (172, .iinc 5 (-1), 175, 5, 0),
  (175, .goto (-70), 178, 105, 0), (178, .aload_n 0, 179, 0, 0), (179, .iconst 4, 180, 0, 0), (180, .invokevirtual 283, 183, 206, 1), (183, .aload_n 0, 184, 0, 0), (184, .getfield 218, 187, 11, 13), (187, .ifCond .ne 16, 190, 203, 0), (190, .aload_n 0, 191, 0, 0),
  (191, .getfield 43, 194, 11, 22), (194, .aload_n 0, 195, 0, 0), (195, .getfield 251, 198, 11, 19), (198, .dup2, 199, 0, 0), (199, .iaload, 200, 0, 0), (200, .iconst 1, 201, 0, 0), (201, .iadd, 202, 0, 0), (202, .iastore, 203, 0, 0),
  (203, .return_, 204, 0, 0)]
set_option maxRecDepth 20000 in
/-- 205: StoneHomeModel.goesOn()V -/
def at_X11_goesOn : List (Nat × am_I) := [(0, .aload_n 0, 1, 0, 0), (1, .getfield 221, 4, 11, 11), (4, .sipush 400, 7, 0, 0), (7, .if_icmp .ne 11, 10, 18, 0), (10, .aload_n 0, 11, 0, 0), (11, .iconst 2, 12, 0, 0), (12, .invokevirtual 233, 15, 203, 1), (15, .goto 13, 18, 28, 0),
  (18, .aload_n 0, 19, 0, 0), (19, .dup, 20, 0, 0), (20, .getfield 221, 23, 11, 11), (23, .iconst 1, 24, 0, 0), (24, .iadd, 25, 0, 0), (25, .putfield 221, 28, 11, 88), (28, .return_, 29, 0, 0)]
set_option maxRecDepth 20000 in
/-- 206: StoneHomeModel.must(I)V -/
def at_X11_must : List (Nat × am_I) := [(0, .aload_n 0, 1, 0, 0), (1, .iload_n 1, 2, 1, 0), (2, .invokevirtual 236, 5, 201, 1), (5, .ifCond .eq 10, 8, 15, 0), (8, .aload_n 0, 9, 0, 0), (9, .invokevirtual 239, 12, 205, 0), (12, .goto 8, 15, 20, 0), (15, .aload_n 0, 16, 0, 0),
  (16, .iconst 1, 17, 0, 0), (17, .invokevirtual 233, 20, 203, 1), (20, .return_, 21, 0, 0)]
set_option maxRecDepth 20000 in
/-- 207: StoneHomeModel.wrong(II)V -/
def at_X11_wrong : List (Nat × am_I) := [(0, .aload_n 0, 1, 0, 0), (1, .getfield 24, 4, 11, 6), (4, .iload_n 2, 5, 2, 0), (5, .iaload, 6, 0, 0), (6, .istore_n 3, 7, 3, 0), (7, .aload_n 0, 8, 0, 0), (8, .getfield 218, 11, 11, 13), (11, .ifCond .gt 34, 14, 45, 0),
  (14, .aload_n 0, 15, 0, 0), (15, .getfield 227, 18, 11, 15), (18, .ifCond .eq 28, 21, 46, 0), (21, .iload_n 3, 22, 3, 0), (22, .aload_n 0, 23, 0, 0), (23, .getfield 230, 26, 11, 16), (26, .if_icmp .gt 19, 29, 45, 0), (29, .iload_n 3, 30, 3, 0),
  (30, .aload_n 0, 31, 0, 0), (31, .getfield 230, 34, 11, 16), (34, .if_icmp .ne 12, 37, 46, 0), (37, .iload_n 1, 38, 1, 0), (38, .aload_n 0, 39, 0, 0), (39, .getfield 227, 42, 11, 15), (42, .if_icmp .lt 4, 45, 46, 0), (45, .return_, 46, 0, 0),
  (46, .aload_n 0, 47, 0, 0), (47, .iload_n 1, 48, 1, 0), (48, .putfield 227, 51, 11, 120), (51, .aload_n 0, 52, 0, 0), (52, .iload_n 3, 53, 3, 0), (53, .putfield 230, 56, 11, 128), (56, .return_, 57, 0, 0)]
set_option maxRecDepth 20000 in
/-- 208: StoneHomeModel.sortBy(I)I -/
def at_X11_sortBy : List (Nat × am_I) := [(0, .iload_n 0, 1, 0, 0), (1, .tableswitch 114 99 119 #[101, 114, 114, 114, 107, 111, 114, 114, 114, 114, 114, 114, 114, 105, 114, 114, 103, 99, 114, 114, 109], 100, 115, 0), (100, .iconst 0, 101, 0, 0), (101, .ireturn, 102, 0, 0), (102, .iconst 1, 103, 0, 0), (103, .ireturn, 104, 0, 0), (104, .iconst 2, 105, 0, 0), (105, .ireturn, 106, 0, 0),
  (106, .iconst 3, 107, 0, 0), (107, .ireturn, 108, 0, 0), (108, .iconst 4, 109, 0, 0), (109, .ireturn, 110, 0, 0), (110, .iconst 5, 111, 0, 0), (111, .ireturn, 112, 0, 0), (112, .bipush 6, 114, 0, 0), (114, .ireturn, 115, 0, 0),
  (115, .iconst (-1), 116, 0, 0), (116, .ireturn, 117, 0, 0)]
set_option maxRecDepth 20000 in
/-- 209: StoneHomeModel.bounded(II)I -/
def at_X11_bounded : List (Nat × am_I) := [(0, .aload_n 0, 1, 0, 0), (1, .getfield 218, 4, 11, 13), (4, .ifCond .gt 11, 7, 15, 0), (7, .aload_n 0, 8, 0, 0), (8, .iconst 2, 9, 0, 0), (9, .invokevirtual 236, 12, 201, 1), (12, .ifCond .ne 10, 15, 22, 0), (15, .aload_n 0, 16, 0, 0),
  (16, .iconst 1, 17, 0, 0), (17, .invokevirtual 233, 20, 203, 1), (20, .iload_n 1, 21, 1, 0), (21, .ireturn, 22, 0, 0), (22, .aload_n 0, 23, 0, 0), (23, .getfield 27, 26, 11, 7), (26, .aload_n 0, 27, 0, 0), (27, .getfield 221, 30, 11, 11),
  (30, .iaload, 31, 0, 0), (31, .istore_n 3, 32, 3, 0), (32, .iload_n 3, 33, 3, 0), (33, .iload_n 1, 34, 1, 0), (34, .if_icmp .lt 8, 37, 42, 0), (37, .iload_n 3, 38, 3, 0), (38, .iload_n 2, 39, 2, 0), (39, .if_icmp .le 12, 42, 51, 0),
  (42, .aload_n 0, 43, 0, 0), (43, .iconst 5, 44, 0, 0), (44, .aload_n 0, 45, 0, 0), (45, .getfield 221, 48, 11, 11), (48, .invokevirtual 292, 51, 207, 2), (51, .aload_n 0, 52, 0, 0), (52, .invokevirtual 239, 55, 205, 0), (55, .iload_n 3, 56, 3, 0),
  (56, .ireturn, 57, 0, 0)]
set_option maxRecDepth 20000 in
/-- 210: StoneHomeModel.tellKick()V -/
def at_X11_tellKick : List (Nat × am_I) := [(0, .aload_n 0, 1, 0, 0), (1, .invokevirtual 239, 4, 205, 0), (4, .iconst 4, 5, 0, 0), (5, .aload_n 0, 6, 0, 0), (6, .getfield 251, 9, 11, 19), (9, .imul, 10, 0, 0), (10, .aload_n 0, 11, 0, 0), (11, .getfield 55, 14, 11, 26),
  (14, .aload_n 0, 15, 0, 0), (15, .getfield 251, 18, 11, 19), (18, .iaload, 19, 0, 0), (19, .iadd, 20, 0, 0), (20, .istore_n 1, 21, 1, 0), (21, .aload_n 0, 22, 0, 0), (22, .getfield 221, 25, 11, 11), (25, .istore_n 2, 26, 2, 0),
  (26, .aload_n 0, 27, 0, 0), (27, .iconst 1, 28, 0, 0), (28, .invokevirtual 283, 31, 206, 1), (31, .iconst 0, 32, 0, 0), (32, .istore_n 3, 33, 3, 0), (33, .iload_n 3, 34, 3, 0), (34, .aload_n 0, 35, 0, 0), (35, .getfield 254, 38, 11, 20),
  (38, .if_icmp .ge 38, 41, 76, 0), (41, .aload_n 0, 42, 0, 0), (42, .getfield 218, 45, 11, 13), (45, .ifCond .ne 31, 48, 76, 0), (48, .aload_n 0, 49, 0, 0), (49, .getfield 40, 52, 11, 21), (52, .iload_n 3, 53, 3, 0), (53, .laload, 54, 0, 0),
  (54, .aload_n 0, 55, 0, 0), (55, .getfield 30, 58, 11, 8), (58, .iload_n 2, 59, 2, 0), (59, .laload, 60, 0, 0), (60, .lcmp, 61, 0, 0), (61, .ifCond .ne 9, 64, 70, 0), (64, .aload_n 0, 65, 0, 0), (65, .iconst 3, 66, 0, 0),
  (66, .iload_n 2, 67, 2, 0), (67, .invokevirtual 292, 70, 207, 2), (70, .iinc 3 1, 73, 3, 0), (73, .goto (-40), 76, 33, 0), (76, .iconst 0, 77, 0, 0), (77, .istore_n 3, 78, 3, 0), (78, .iconst 0, 79, 0, 0), (79, .istore 4, 81, 4, 0),
  (81, .aload_n 0, 82, 0, 0), (82, .getfield 218, 85, 11, 13), (85, .ifCond .ne 62, 88, 147, 0), (88, .aload_n 0, 89, 0, 0), (89, .iconst 2, 90, 0, 0), (90, .invokevirtual 236, 93, 201, 1), (93, .ifCond .eq 54, 96, 147, 0), (96, .iload_n 3, 97, 3, 0),
  (97, .bipush 6, 99, 0, 0), (99, .if_icmp .ne 8, 102, 107, 0), (102, .aload_n 0, 103, 0, 0), (103, .iconst 2, 104, 0, 0), (104, .invokevirtual 233, 107, 203, 1), (107, .aload_n 0, 108, 0, 0), (108, .getfield 218, 111, 11, 13), (111, .ifCond .le 4, 114, 115, 0),
  (114, .return_, 115, 0, 0), (115, .aload_n 0, 116, 0, 0), (116, .bipush 6, 118, 0, 0), (118, .iload_n 1, 119, 1, 0), (119, .imul, 120, 0, 0), (120, .iload_n 3, 121, 3, 0), (121, .iadd, 122, 0, 0), (122, .invokevirtual 299, 125, 211, 1),
  (125, .iload 4, 127, 4, 0), (127, .aload_n 0, 128, 0, 0), (128, .getfield 61, 131, 11, 28), (131, .bipush 6, 133, 0, 0), (133, .iload_n 1, 134, 1, 0), (134, .imul, 135, 0, 0), (135, .iload_n 3, 136, 3, 0), (136, .iadd, 137, 0, 0),
  (137, .iaload, 138, 0, 0), (138, .iadd, 139, 0, 0), (139, .istore 4, 141, 4, 0), (141, .iinc 3 1, 144, 3, 0), (144, .goto (-63), 147, 81, 0), (147, .aload_n 0, 148, 0, 0), (148, .getfield 218, 151, 11, 13), (151, .ifCond .ne 16, 154, 167, 0),
  (154, .iload 4, 156, 4, 0), (156, .bipush 6, 158, 0, 0), (158, .if_icmp .eq 9, 161, 167, 0), (161, .aload_n 0, 162, 0, 0), (162, .iconst 5, 163, 0, 0), (163, .iload_n 2, 164, 2, 0), (164, .invokevirtual 292, 167, 207, 2), (167, .aload_n 0, 168, 0, 0),
  (168, .iconst 4, 169, 0, 0), (169, .invokevirtual 283, 172, 206, 1), (172, .aload_n 0, 173, 0, 0), (173, .getfield 58, 176, 11, 27), (176, .iload_n 1, 177, 1, 0), (177, .iload_n 3, 178, 3, 0), (178, .iastore, 179, 0, 0), (179, .aload_n 0, 180, 0, 0),
  (180, .getfield 218, 183, 11, 13), (183, .ifCond .le 4, 186, 187, 0), (186, .return_, 187, 0, 0), (187, .aload_n 0, 188, 0, 0), (188, .getfield 40, 191, 11, 21), (191, .aload_n 0, 192, 0, 0), (192, .getfield 254, 195, 11, 20), (195, .aload_n 0, 196, 0, 0),
  (196, .getfield 30, 199, 11, 8), (199, .iload_n 2, 200, 2, 0), (200, .laload, 201, 0, 0), (201, .lastore, 202, 0, 0), (202, .aload_n 0, 203, 0, 0), (203, .dup, 204, 0, 0), (204, .getfield 254, 207, 11, 20), (207, .iconst 1, 208, 0, 0),
  (208, .iadd, 209, 0, 0), (209, .putfield 254, 212, 11, 160), (212, .aload_n 0, 213, 0, 0), (213, .getfield 55, 216, 11, 26), (216, .aload_n 0, 217, 0, 0), (217, .getfield 251, 220, 11, 19), (220, .dup2, 221, 0, 0), (221, .iaload, 222, 0, 0),
  (222, .iconst 1, 223, 0, 0), (223, .iadd, 224, 0, 0), (224, .iastore, 225, 0, 0), (225, .return_, 226, 0, 0)]
set_option maxRecDepth 20000 in
/-- 211: StoneHomeModel.tellOutcome(I)V -/
def at_X11_tellOutcome : List (Nat × am_I) := [(0, .aload_n 0, 1, 0, 0), (1, .getfield 61, 4, 11, 28), (4, .iload_n 1, 5, 1, 0), (5, .aload_n 0, 6, 0, 0), (6, .iconst 1, 7, 0, 0), (7, .bipush 6, 9, 0, 0), (9, .invokevirtual 279, 12, 209, 2), (12, .iastore, 13, 0, 0),
  (13, .aload_n 0, 14, 0, 0), (14, .bipush 23, 16, 0, 0), (16, .invokevirtual 283, 19, 206, 1), (19, .aload_n 0, 20, 0, 0), (20, .getfield 64, 23, 11, 29), (23, .iload_n 1, 24, 1, 0), (24, .aload_n 0, 25, 0, 0), (25, .iconst 0, 26, 0, 0),
  (26, .iconst 4, 27, 0, 0), (27, .invokevirtual 279, 30, 209, 2), (30, .iastore, 31, 0, 0), (31, .aload_n 0, 32, 0, 0), (32, .bipush 9, 34, 0, 0), (34, .invokevirtual 236, 37, 201, 1), (37, .istore_n 2, 38, 2, 0), (38, .iload_n 2, 39, 2, 0),
  (39, .ifCond .eq 7, 42, 46, 0), (42, .aload_n 0, 43, 0, 0), (43, .invokevirtual 239, 46, 205, 0), (46, .aload_n 0, 47, 0, 0), (47, .iconst 0, 48, 0, 0), (48, .iconst 2, 49, 0, 0), (49, .invokevirtual 279, 52, 209, 2), (52, .istore_n 3, 53, 3, 0),
  (53, .aload_n 0, 54, 0, 0), (54, .getfield 67, 57, 11, 30), (57, .iload_n 1, 58, 1, 0), (58, .iload_n 2, 59, 2, 0), (59, .ifCond .eq 8, 62, 67, 0), (62, .iload_n 3, 63, 3, 0), (63, .ineg, 64, 0, 0), (64, .goto 4, 67, 68, 0),
  (67, .iload_n 3, 68, 3, 0), (68, .iastore, 69, 0, 0), (69, .aload_n 0, 70, 0, 0), (70, .getfield 70, 73, 11, 31), (73, .iload_n 1, 74, 1, 0), (74, .iconst 0, 75, 0, 0), (75, .iastore, 76, 0, 0), (76, .aload_n 0, 77, 0, 0),
  (77, .getfield 218, 80, 11, 13), (80, .ifCond .gt 12, 83, 92, 0), (83, .aload_n 0, 84, 0, 0), (84, .bipush 24, 86, 0, 0), (86, .invokevirtual 236, 89, 201, 1), (89, .ifCond .ne 4, 92, 93, 0), (92, .return_, 93, 0, 0), (93, .aload_n 0, 94, 0, 0),
  (94, .invokevirtual 239, 97, 205, 0), (97, .aload_n 0, 98, 0, 0), (98, .getfield 70, 101, 11, 31), (101, .iload_n 1, 102, 1, 0), (102, .aload_n 0, 103, 0, 0), (103, .iconst 0, 104, 0, 0), (104, .iconst 2, 105, 0, 0), (105, .invokevirtual 279, 108, 209, 2),
  (108, .iastore, 109, 0, 0), (109, .return_, 110, 0, 0)]
set_option maxRecDepth 20000 in
/-- 212: StoneHomeModel.tellLaw(I)V -/
def at_X11_tellLaw : List (Nat × am_I) := [(0, .aload_n 0, 1, 0, 0), (1, .iconst 5, 2, 0, 0), (2, .invokevirtual 283, 5, 206, 1), (5, .aload_n 0, 6, 0, 0), (6, .getfield 257, 9, 11, 39), (9, .istore_n 2, 10, 2, 0), (10, .iconst 0, 11, 0, 0), (11, .istore_n 3, 12, 3, 0),
  (12, .aload_n 0, 13, 0, 0), (13, .getfield 218, 16, 11, 13), (16, .ifCond .ne 113, 19, 129, 0), (19, .aload_n 0, 20, 0, 0), (20, .bipush 33, 22, 0, 0), (22, .invokevirtual 236, 25, 201, 1), (25, .ifCond .eq 104, 28, 129, 0), (28, .iload_n 3, 29, 3, 0),
  (29, .iconst 4, 30, 0, 0), (30, .if_icmp .ne 8, 33, 38, 0), (33, .aload_n 0, 34, 0, 0), (34, .iconst 2, 35, 0, 0), (35, .invokevirtual 233, 38, 203, 1), (38, .aload_n 0, 39, 0, 0), (39, .getfield 218, 42, 11, 13), (42, .ifCond .le 4, 45, 46, 0),
  (45, .return_, 46, 0, 0), (46, .iinc 3 1, 49, 3, 0), (49, .aload_n 0, 50, 0, 0), (50, .invokevirtual 239, 53, 205, 0), (53, .aload_n 0, 54, 0, 0), (54, .getfield 94, 57, 11, 40), (57, .aload_n 0, 58, 0, 0), (58, .getfield 257, 61, 11, 39),
  (61, .iconst 1, 62, 0, 0), (62, .bastore, 63, 2, 0), (63, .aload_n 0, 64, 0, 0), (64, .getfield 98, 67, 11, 41), (67, .aload_n 0, 68, 0, 0), (68, .getfield 257, 71, 11, 39), (71, .aload_n 0, 72, 0, 0), (72, .getfield 260, 75, 11, 45),
  (75, .iastore, 76, 0, 0), (76, .aload_n 0, 77, 0, 0), (77, .invokevirtual 302, 80, 213, 0), (80, .aload_n 0, 81, 0, 0), (81, .bipush 13, 83, 0, 0), (83, .invokevirtual 283, 86, 206, 1), (86, .aload_n 0, 87, 0, 0), (87, .getfield 101, 90, 11, 42),
  (90, .aload_n 0, 91, 0, 0), (91, .getfield 257, 94, 11, 39), (94, .aload_n 0, 95, 0, 0), (95, .getfield 260, 98, 11, 45), (98, .iastore, 99, 0, 0), (99, .aload_n 0, 100, 0, 0), (100, .getfield 218, 103, 11, 13), (103, .ifCond .ne 7, 106, 110, 0),
  (106, .aload_n 0, 107, 0, 0), (107, .invokevirtual 302, 110, 213, 0), (110, .aload_n 0, 111, 0, 0), (111, .bipush 34, 113, 0, 0), (113, .invokevirtual 283, 116, 206, 1), (116, .aload_n 0, 117, 0, 0), (117, .invokevirtual 305, 120, 217, 0), (120, .aload_n 0, 121, 0, 0),
  (121, .bipush 35, 123, 0, 0), (123, .invokevirtual 283, 126, 206, 1), (126, .goto (-114), 129, 12, 0), (129, .aload_n 0, 130, 0, 0), (130, .getfield 94, 133, 11, 40), (133, .aload_n 0, 134, 0, 0), (134, .getfield 257, 137, 11, 39), (137, .iconst 0, 138, 0, 0),
  (138, .bastore, 139, 2, 0), (139, .aload_n 0, 140, 0, 0), (140, .invokevirtual 305, 143, 217, 0), (143, .aload_n 0, 144, 0, 0), (144, .iconst 4, 145, 0, 0), (145, .invokevirtual 283, 148, 206, 1), (148, .aload_n 0, 149, 0, 0), (149, .getfield 218, 152, 11, 13),
  (152, .ifCond .le 4, 155, 156, 0), (155, .return_, 156, 0, 0), (156, .aload_n 0, 157, 0, 0), (157, .getfield 88, 160, 11, 37), (160, .iconst 3, 161, 0, 0), (161, .aload_n 0, 162, 0, 0), (162, .getfield 251, 165, 11, 19), (165, .imul, 166, 0, 0),
  (166, .iload_n 1, 167, 1, 0), (167, .iadd, 168, 0, 0), (168, .iload_n 2, 169, 2, 0), (169, .iastore, 170, 0, 0), (170, .aload_n 0, 171, 0, 0), (171, .getfield 91, 174, 11, 38), (174, .iconst 3, 175, 0, 0), (175, .aload_n 0, 176, 0, 0),
  (176, .getfield 251, 179, 11, 19), (179, .imul, 180, 0, 0), (180, .iload_n 1, 181, 1, 0), (181, .iadd, 182, 0, 0), (182, .aload_n 0, 183, 0, 0), (183, .getfield 257, 186, 11, 39), (186, .iastore, 187, 0, 0), (187, .return_, 188, 0, 0)]
set_option maxRecDepth 20000 in
/-- 213: StoneHomeModel.expression()V -/
def at_X11_expression : List (Nat × am_I) := [(0, .aload_n 0, 1, 0, 0), (1, .iconst 0, 2, 0, 0), (2, .putfield 308, 5, 11, 392), (5, .aload_n 0, 6, 0, 0), (6, .getfield 245, 9, 11, 12), (9, .istore_n 1, 10, 1, 0), (10, .iconst 1, 11, 0, 0), (11, .istore_n 2, 12, 2, 0),
  (12, .iload_n 2, 13, 2, 0), (13, .ifCond .eq 259, 16, 272, 0), (16, .aload_n 0, 17, 0, 0), (17, .getfield 218, 20, 11, 13), (20, .ifCond .ne 252, 23, 272, 0), (23, .aload_n 0, 24, 0, 0), (24, .bipush 6, 26, 0, 0), (26, .invokevirtual 236, 29, 201, 1),
  (29, .ifCond .eq 55, 32, 84, 0), (32, .aload_n 0, 33, 0, 0), (33, .getfield 245, 36, 11, 12), (36, .bipush 6, 38, 0, 0), (38, .if_icmp .ne 8, 41, 46, 0), (41, .aload_n 0, 42, 0, 0), (42, .iconst 2, 43, 0, 0), (43, .invokevirtual 233, 46, 203, 1),
  (46, .aload_n 0, 47, 0, 0), (47, .dup, 48, 0, 0), (48, .getfield 245, 51, 11, 12), (51, .iconst 1, 52, 0, 0), (52, .iadd, 53, 0, 0), (53, .putfield 245, 56, 11, 96), (56, .aload_n 0, 57, 0, 0), (57, .invokevirtual 239, 60, 205, 0),
  (60, .aload_n 0, 61, 0, 0), (61, .getfield 116, 64, 11, 48), (64, .aload_n 0, 65, 0, 0), (65, .getfield 308, 68, 11, 49), (68, .bipush 6, 70, 0, 0), (70, .iastore, 71, 0, 0), (71, .aload_n 0, 72, 0, 0), (72, .dup, 73, 0, 0),
  (73, .getfield 308, 76, 11, 49), (76, .iconst 1, 77, 0, 0), (77, .iadd, 78, 0, 0), (78, .putfield 308, 81, 11, 392), (81, .goto (-58), 84, 23, 0), (84, .aload_n 0, 85, 0, 0), (85, .invokevirtual 314, 88, 214, 0), (88, .aload_n 0, 89, 0, 0),
  (89, .getfield 218, 92, 11, 13), (92, .ifCond .le 4, 95, 96, 0), (95, .return_, 96, 0, 0), (96, .aload_n 0, 97, 0, 0), (97, .bipush 7, 99, 0, 0), (99, .invokevirtual 236, 102, 201, 1), (102, .ifCond .eq 43, 105, 145, 0), (105, .aload_n 0, 106, 0, 0),
  (106, .getfield 245, 109, 11, 12), (109, .iload_n 1, 110, 1, 0), (110, .if_icmp .le 35, 113, 145, 0), (113, .aload_n 0, 114, 0, 0), (114, .iconst 0, 115, 0, 0), (115, .invokevirtual 317, 118, 216, 1), (118, .aload_n 0, 119, 0, 0), (119, .dup, 120, 0, 0),
  (120, .getfield 308, 123, 11, 49), (123, .iconst 1, 124, 0, 0), (124, .isub, 125, 0, 0), (125, .putfield 308, 128, 11, 392), (128, .aload_n 0, 129, 0, 0), (129, .dup, 130, 0, 0), (130, .getfield 245, 133, 11, 12), (133, .iconst 1, 134, 0, 0),
  (134, .isub, 135, 0, 0), (135, .putfield 245, 138, 11, 96), (138, .aload_n 0, 139, 0, 0), (139, .invokevirtual 239, 142, 205, 0), (142, .goto (-46), 145, 96, 0), (145, .aload_n 0, 146, 0, 0), (146, .bipush 8, 148, 0, 0), (148, .invokevirtual 236, 151, 201, 1),
  (151, .ifCond .ne 30, 154, 181, 0), (154, .aload_n 0, 155, 0, 0), (155, .bipush 9, 157, 0, 0), (157, .invokevirtual 236, 160, 201, 1), (160, .ifCond .ne 21, 163, 181, 0), (163, .aload_n 0, 164, 0, 0), (164, .bipush 10, 166, 0, 0), (166, .invokevirtual 236, 169, 201, 1),
  (169, .ifCond .ne 12, 172, 181, 0), (172, .aload_n 0, 173, 0, 0), (173, .bipush 15, 175, 0, 0), (175, .invokevirtual 236, 178, 201, 1), (178, .ifCond .eq 7, 181, 185, 0), (181, .iconst 1, 182, 0, 0), (182, .goto 4, 185, 186, 0), (185, .iconst 0, 186, 0, 0),
  (186, .istore_n 2, 187, 2, 0), (187, .iload_n 2, 188, 2, 0), (188, .ifCond .ne 22, 191, 210, 0), (191, .aload_n 0, 192, 0, 0), (192, .getfield 245, 195, 11, 12), (195, .iload_n 1, 196, 1, 0), (196, .if_icmp .le 8, 199, 204, 0), (199, .aload_n 0, 200, 0, 0),
  (200, .iconst 1, 201, 0, 0), (201, .invokevirtual 233, 204, 203, 1), (204, .aload_n 0, 205, 0, 0), (205, .iconst 0, 206, 0, 0), (206, .invokevirtual 317, 209, 216, 1), (209, .return_, 210, 0, 0), (210, .aload_n 0, 211, 0, 0), (211, .aload_n 0, 212, 0, 0),
  (212, .bipush 10, 214, 0, 0), (214, .invokevirtual 236, 217, 201, 1), (217, .ifCond .ne 12, 220, 229, 0), (220, .aload_n 0, 221, 0, 0), (221, .bipush 15, 223, 0, 0), (223, .invokevirtual 236, 226, 201, 1), (226, .ifCond .eq 7, 229, 233, 0), (229, .iconst 1, 230, 0, 0),
  (230, .goto 4, 233, 234, 0), (233, .iconst 0, 234, 0, 0), (234, .invokevirtual 317, 237, 216, 1), (237, .aload_n 0, 238, 0, 0), (238, .getfield 116, 241, 11, 48), (241, .aload_n 0, 242, 0, 0), (242, .getfield 308, 245, 11, 49), (245, .aload_n 0, 246, 0, 0),
  (246, .getfield 20, 249, 11, 5), (249, .aload_n 0, 250, 0, 0), (250, .getfield 221, 253, 11, 11), (253, .iaload, 254, 0, 0), (254, .iastore, 255, 0, 0), (255, .aload_n 0, 256, 0, 0), (256, .dup, 257, 0, 0), (257, .getfield 308, 260, 11, 49),
  (260, .iconst 1, 261, 0, 0), (261, .iadd, 262, 0, 0), (262, .putfield 308, 265, 11, 392), (265, .aload_n 0, 266, 0, 0), (266, .invokevirtual 239, 269, 205, 0), (269, .goto (-257), 272, 12, 0), (272, .return_, 273, 0, 0)]
set_option maxRecDepth 20000 in
/-- 214: StoneHomeModel.unit()V -/
def at_X11_unit : List (Nat × am_I) := [(0, .aload_n 0, 1, 0, 0), (1, .iconst 2, 2, 0, 0), (2, .invokevirtual 236, 5, 201, 1), (5, .ifCond .eq 24, 8, 29, 0), (8, .aload_n 0, 9, 0, 0), (9, .iconst 0, 10, 0, 0), (10, .aload_n 0, 11, 0, 0), (11, .getfield 27, 14, 11, 7),
  (14, .aload_n 0, 15, 0, 0), (15, .getfield 221, 18, 11, 11), (18, .iaload, 19, 0, 0), (19, .invokevirtual 311, 22, 215, 2), (22, .aload_n 0, 23, 0, 0), (23, .invokevirtual 239, 26, 205, 0), (26, .goto 67, 29, 93, 0), (29, .aload_n 0, 30, 0, 0),
  (30, .getfield 218, 33, 11, 13), (33, .ifCond .ne 55, 36, 88, 0), (36, .aload_n 0, 37, 0, 0), (37, .getfield 20, 40, 11, 5), (40, .aload_n 0, 41, 0, 0), (41, .getfield 221, 44, 11, 11), (44, .iaload, 45, 0, 0), (45, .bipush 36, 47, 0, 0),
  (47, .if_icmp .lt 41, 50, 88, 0), (50, .aload_n 0, 51, 0, 0), (51, .getfield 20, 54, 11, 5), (54, .aload_n 0, 55, 0, 0), (55, .getfield 221, 58, 11, 11), (58, .iaload, 59, 0, 0), (59, .bipush 42, 61, 0, 0), (61, .if_icmp .gt 27, 64, 88, 0),
  (64, .aload_n 0, 65, 0, 0), (65, .iconst 1, 66, 0, 0), (66, .aload_n 0, 67, 0, 0), (67, .getfield 20, 70, 11, 5), (70, .aload_n 0, 71, 0, 0), (71, .getfield 221, 74, 11, 11), (74, .iaload, 75, 0, 0), (75, .bipush 36, 77, 0, 0),
  (77, .isub, 78, 0, 0), (78, .invokevirtual 311, 81, 215, 2), (81, .aload_n 0, 82, 0, 0), (82, .invokevirtual 239, 85, 205, 0), (85, .goto 8, 88, 93, 0), (88, .aload_n 0, 89, 0, 0), (89, .iconst 1, 90, 0, 0), (90, .invokevirtual 233, 93, 203, 1),
  (93, .return_, 94, 0, 0)]
set_option maxRecDepth 20000 in
/-- 215: StoneHomeModel.emit(II)V -/
def at_X11_emit : List (Nat × am_I) := [(0, .aload_n 0, 1, 0, 0), (1, .getfield 110, 4, 11, 46), (4, .aload_n 0, 5, 0, 0), (5, .getfield 260, 8, 11, 45), (8, .iload_n 1, 9, 1, 0), (9, .iastore, 10, 0, 0), (10, .aload_n 0, 11, 0, 0), (11, .getfield 113, 14, 11, 47),
  (14, .aload_n 0, 15, 0, 0), (15, .getfield 260, 18, 11, 45), (18, .iload_n 2, 19, 2, 0), (19, .iastore, 20, 0, 0), (20, .aload_n 0, 21, 0, 0), (21, .dup, 22, 0, 0), (22, .getfield 260, 25, 11, 45), (25, .iconst 1, 26, 0, 0),
  (26, .iadd, 27, 0, 0), (27, .putfield 260, 30, 11, 360), (30, .return_, 31, 0, 0)]
set_option maxRecDepth 20000 in
/-- 216: StoneHomeModel.comesOut(Z)V -/
def at_X11_comesOut : List (Nat × am_I) := [(0, .aload_n 0, 1, 0, 0), (1, .getfield 308, 4, 11, 49), (4, .ifCond .le 87, 7, 91, 0), (7, .aload_n 0, 8, 0, 0), (8, .getfield 116, 11, 11, 48), (11, .aload_n 0, 12, 0, 0), (12, .getfield 308, 15, 11, 49), (15, .iconst 1, 16, 0, 0),
  (16, .isub, 17, 0, 0), (17, .iaload, 18, 0, 0), (18, .istore_n 2, 19, 2, 0), (19, .iload_n 2, 20, 2, 0), (20, .bipush 6, 22, 0, 0), (22, .if_icmp .eq 19, 25, 41, 0), (25, .iload_n 1, 26, 1, 0), (26, .ifCond .eq 16, 29, 42, 0),
  (29, .iload_n 2, 30, 2, 0), (30, .bipush 8, 32, 0, 0), (32, .if_icmp .eq 9, 35, 41, 0), (35, .iload_n 2, 36, 2, 0), (36, .bipush 9, 38, 0, 0), (38, .if_icmp .ne 4, 41, 42, 0), (41, .return_, 42, 0, 0), (42, .aload_n 0, 43, 0, 0),
  (43, .dup, 44, 0, 0), (44, .getfield 308, 47, 11, 49), (47, .iconst 1, 48, 0, 0), (48, .isub, 49, 0, 0), (49, .putfield 308, 52, 11, 392), (52, .aload_n 0, 53, 0, 0), (53, .iload_n 2, 54, 2, 0), (54, .bipush 8, 56, 0, 0),
  (56, .if_icmp .ne 7, 59, 63, 0), (59, .iconst 2, 60, 0, 0), (60, .goto 24, 63, 84, 0), (63, .iload_n 2, 64, 2, 0), (64, .bipush 9, 66, 0, 0), (66, .if_icmp .ne 7, 69, 73, 0), (69, .iconst 3, 70, 0, 0), (70, .goto 14, 73, 84, 0),
  (73, .iload_n 2, 74, 2, 0), (74, .bipush 10, 76, 0, 0), (76, .if_icmp .ne 7, 79, 83, 0), (79, .iconst 4, 80, 0, 0), (80, .goto 4, 83, 84, 0), (83, .iconst 5, 84, 0, 0), (84, .iconst 0, 85, 0, 0), (85, .invokevirtual 311, 88, 215, 2),
  (88, .goto (-88), 91, 0, 0), (91, .return_, 92, 0, 0)]
set_option maxRecDepth 20000 in
/-- 217: StoneHomeModel.term()V -/
def at_X11_term : List (Nat × am_I) := [(0, .aload_n 0, 1, 0, 0), (1, .getfield 104, 4, 11, 43), (4, .aload_n 0, 5, 0, 0), (5, .getfield 257, 8, 11, 39), (8, .aload_n 0, 9, 0, 0), (9, .getfield 260, 12, 11, 45), (12, .iastore, 13, 0, 0), (13, .aload_n 0, 14, 0, 0),
  (14, .getfield 218, 17, 11, 13), (17, .ifCond .ne 7, 20, 24, 0), (20, .aload_n 0, 21, 0, 0), (21, .invokevirtual 302, 24, 213, 0), (24, .aload_n 0, 25, 0, 0), (25, .getfield 107, 28, 11, 44), (28, .aload_n 0, 29, 0, 0), (29, .getfield 257, 32, 11, 39),
  (32, .aload_n 0, 33, 0, 0), (33, .getfield 260, 36, 11, 45), (36, .iastore, 37, 0, 0), (37, .aload_n 0, 38, 0, 0), (38, .dup, 39, 0, 0), (39, .getfield 257, 42, 11, 39), (42, .iconst 1, 43, 0, 0), (43, .iadd, 44, 0, 0),
  (44, .putfield 257, 47, 11, 312), (47, .return_, 48, 0, 0)]
set_option maxRecDepth 20000 in
/-- 218: StoneHomeModel.isThere([I)Z -/
def at_X11_isThere : List (Nat × am_I) := [(0, .aload_n 1, 1, 1, 0), (1, .iconst 3, 2, 0, 0), (2, .aload_n 0, 3, 0, 0), (3, .getfield 251, 6, 11, 19), (6, .imul, 7, 0, 0), (7, .iaload, 8, 0, 0), (8, .istore_n 2, 9, 2, 0), (9, .aload_n 1, 10, 1, 0),
  (10, .iconst 3, 11, 0, 0), (11, .aload_n 0, 12, 0, 0), (12, .getfield 251, 15, 11, 19), (15, .imul, 16, 0, 0), (16, .iconst 1, 17, 0, 0), (17, .iadd, 18, 0, 0), (18, .iaload, 19, 0, 0), (19, .istore_n 3, 20, 3, 0),
  (20, .iload_n 2, 21, 2, 0), (21, .aload_n 0, 22, 0, 0), (22, .getfield 46, 25, 11, 23), (25, .aload_n 0, 26, 0, 0), (26, .getfield 251, 29, 11, 19), (29, .iaload, 30, 0, 0), (30, .if_icmp .ge 38, 33, 68, 0), (33, .iload_n 3, 34, 3, 0),
  (34, .aload_n 0, 35, 0, 0), (35, .getfield 43, 38, 11, 22), (38, .aload_n 0, 39, 0, 0), (39, .getfield 251, 42, 11, 19), (42, .iaload, 43, 0, 0), (43, .if_icmp .ge 25, 46, 68, 0), (46, .aload_n 1, 47, 1, 0), (47, .iconst 3, 48, 0, 0),
  (48, .aload_n 0, 49, 0, 0), (49, .getfield 251, 52, 11, 19), (52, .imul, 53, 0, 0), (53, .iconst 2, 54, 0, 0), (54, .iadd, 55, 0, 0), (55, .iaload, 56, 0, 0), (56, .aload_n 0, 57, 0, 0), (57, .getfield 52, 60, 11, 25),
  (60, .aload_n 0, 61, 0, 0), (61, .getfield 251, 64, 11, 19), (64, .iaload, 65, 0, 0), (65, .if_icmp .lt 5, 68, 70, 0), (68, .iconst 0, 69, 0, 0), (69, .ireturn, 70, 0, 0), (70, .aload_n 0, 71, 0, 0), (71, .getfield 49, 74, 11, 24),
  (74, .bipush 32, 76, 0, 0), (76, .aload_n 0, 77, 0, 0), (77, .getfield 251, 80, 11, 19), (80, .imul, 81, 0, 0), (81, .bipush 8, 83, 0, 0), (83, .iload_n 3, 84, 3, 0), (84, .imul, 85, 0, 0), (85, .iadd, 86, 0, 0),
  (86, .iload_n 2, 87, 2, 0), (87, .iadd, 88, 0, 0), (88, .iaload, 89, 0, 0), (89, .istore 4, 91, 4, 0), (91, .iload 4, 93, 4, 0), (93, .iconst 4, 94, 0, 0), (94, .if_icmp .eq 13, 97, 107, 0), (97, .iload 4, 99, 4, 0),
  (99, .iconst 5, 100, 0, 0), (100, .if_icmp .eq 7, 103, 107, 0), (103, .iconst 1, 104, 0, 0), (104, .goto 4, 107, 108, 0), (107, .iconst 0, 108, 0, 0), (108, .ireturn, 109, 0, 0)]
set_option maxRecDepth 20000 in
/-- 219: StoneHomeModel.place()I -/
def at_X11_place : List (Nat × am_I) := [(0, .aload_n 0, 1, 0, 0), (1, .getfield 37, 4, 11, 17), (4, .ireturn, 5, 0, 0)]
set_option maxRecDepth 20000 in
/-- 220: StoneHomeModel.now(I)I -/
def at_X11_now : List (Nat × am_I) := [(0, .iload_n 1, 1, 1, 0), (1, .tableswitch 113 0 8 #[51, 51, 74, 74, 74, 74, 74, 81, 74], 52, 114, 0), (52, .aload_n 0, 53, 0, 0), (53, .getfield 125, 56, 11, 53), (56, .bipush 7, 58, 0, 0), (58, .iaload, 59, 0, 0), (59, .iconst 1, 60, 0, 0), (60, .if_icmp .ne 8, 63, 68, 0),
  (63, .bipush (-2), 65, 0, 0), (65, .goto 9, 68, 74, 0), (68, .aload_n 0, 69, 0, 0), (69, .getfield 125, 72, 11, 53), (72, .iload_n 1, 73, 1, 0), (73, .iaload, 74, 0, 0), (74, .ireturn, 75, 0, 0), (75, .aload_n 0, 76, 0, 0),
  (76, .getfield 125, 79, 11, 53), (79, .iload_n 1, 80, 1, 0), (80, .iaload, 81, 0, 0), (81, .ireturn, 82, 0, 0), (82, .aload_n 0, 83, 0, 0), (83, .getfield 125, 86, 11, 53), (86, .bipush 7, 88, 0, 0), (88, .iaload, 89, 0, 0),
  (89, .iconst 1, 90, 0, 0), (90, .if_icmp .ne 7, 93, 97, 0), (93, .iconst 2, 94, 0, 0), (94, .goto 19, 97, 113, 0), (97, .aload_n 0, 98, 0, 0), (98, .aload_n 0, 99, 0, 0), (99, .invokevirtual 399, 102, 221, 0), (102, .invokevirtual 385, 105, 223, 1),
  (105, .ifCond .eq 7, 108, 112, 0), (108, .iconst 1, 109, 0, 0), (109, .goto 4, 112, 113, 0), (112, .iconst 0, 113, 0, 0), (113, .ireturn, 114, 0, 0), (114, .iconst (-1), 115, 0, 0), (115, .ireturn, 116, 0, 0)]
set_option maxRecDepth 20000 in
/-- 221: StoneHomeModel.stateNow()I -/
def at_X11_stateNow : List (Nat × am_I) := [(0, .aload_n 0, 1, 0, 0), (1, .getfield 125, 4, 11, 53), (4, .bipush 7, 6, 0, 0), (6, .iaload, 7, 0, 0), (7, .iconst 1, 8, 0, 0), (8, .if_icmp .ne 9, 11, 17, 0), (11, .sipush 384, 14, 0, 0), (14, .goto 30, 17, 44, 0),
  (17, .aload_n 0, 18, 0, 0), (18, .getfield 125, 21, 11, 53), (21, .iconst 0, 22, 0, 0), (22, .iaload, 23, 0, 0), (23, .aload_n 0, 24, 0, 0), (24, .getfield 125, 27, 11, 53), (27, .iconst 1, 28, 0, 0), (28, .iaload, 29, 0, 0),
  (29, .aload_n 0, 30, 0, 0), (30, .getfield 125, 33, 11, 53), (33, .iconst 2, 34, 0, 0), (34, .iaload, 35, 0, 0), (35, .aload_n 0, 36, 0, 0), (36, .getfield 125, 39, 11, 53), (39, .iconst 3, 40, 0, 0), (40, .iaload, 41, 0, 0),
  (41, .invokestatic 337, 44, 222, 4), (44, .ireturn, 45, 0, 0)]
set_option maxRecDepth 20000 in
/-- 222: StoneHomeModel.numberOf(IIII)I -/
def at_X11_numberOf : List (Nat × am_I) := [(0, .bipush 8, 2, 0, 0), (2, .iload_n 1, 3, 1, 0), (3, .imul, 4, 0, 0), (4, .iload_n 0, 5, 0, 0), (5, .iadd, 6, 0, 0), (6, .iconst 3, 7, 0, 0), (7, .imul, 8, 0, 0), (8, .iload_n 2, 9, 2, 0),
  (9, .iadd, 10, 0, 0), (10, .iconst 4, 11, 0, 0), (11, .imul, 12, 0, 0), (12, .iload_n 3, 13, 3, 0), (13, .iadd, 14, 0, 0), (14, .ireturn, 15, 0, 0)]
set_option maxRecDepth 20000 in
/-- 223: StoneHomeModel.isHome(I)Z -/
def at_X11_isHome : List (Nat × am_I) := [(0, .iload_n 1, 1, 1, 0), (1, .sipush 384, 4, 0, 0), (4, .if_icmp .eq 17, 7, 21, 0), (7, .aload_n 0, 8, 0, 0), (8, .iload_n 1, 9, 1, 0), (9, .invokevirtual 334, 12, 224, 1), (12, .bipush 6, 14, 0, 0), (14, .if_icmp .ne 7, 17, 21, 0),
  (17, .iconst 1, 18, 0, 0), (18, .goto 4, 21, 22, 0), (21, .iconst 0, 22, 0, 0), (22, .ireturn, 23, 0, 0)]
set_option maxRecDepth 20000 in
/-- 224: StoneHomeModel.sortOf(I)I -/
def at_X11_sortOf : List (Nat × am_I) := [(0, .aload_n 0, 1, 0, 0), (1, .iload_n 1, 2, 1, 0), (2, .invokestatic 325, 5, 225, 1), (5, .iload_n 1, 6, 1, 0), (6, .invokestatic 328, 9, 226, 1), (9, .invokevirtual 331, 12, 227, 2), (12, .ireturn, 13, 0, 0)]
set_option maxRecDepth 20000 in
/-- 225: StoneHomeModel.alongOf(I)I -/
def at_X11_alongOf : List (Nat × am_I) := [(0, .iload_n 0, 1, 0, 0), (1, .bipush 12, 3, 0, 0), (3, .idiv, 4, 0, 0), (4, .bipush 8, 6, 0, 0), (6, .irem, 7, 0, 0), (7, .ireturn, 8, 0, 0)]
set_option maxRecDepth 20000 in
/-- 226: StoneHomeModel.acrossOf(I)I -/
def at_X11_acrossOf : List (Nat × am_I) := [(0, .iload_n 0, 1, 0, 0), (1, .bipush 96, 3, 0, 0), (3, .idiv, 4, 0, 0), (4, .ireturn, 5, 0, 0)]
set_option maxRecDepth 20000 in
/-- 227: StoneHomeModel.sortAt(II)I -/
def at_X11_sortAt : List (Nat × am_I) := [(0, .aload_n 0, 1, 0, 0), (1, .getfield 49, 4, 11, 24), (4, .bipush 32, 6, 0, 0), (6, .aload_n 0, 7, 0, 0), (7, .getfield 248, 10, 11, 18), (10, .imul, 11, 0, 0), (11, .bipush 8, 13, 0, 0), (13, .iload_n 2, 14, 2, 0),
  (14, .imul, 15, 0, 0), (15, .iadd, 16, 0, 0), (16, .iload_n 1, 17, 1, 0), (17, .iadd, 18, 0, 0), (18, .iaload, 19, 0, 0), (19, .ireturn, 20, 0, 0)]
set_option maxRecDepth 20000 in
/-- 228: StoneHomeModel.square(II)I -/
def at_X11_square : List (Nat × am_I) := [(0, .aload_n 0, 1, 0, 0), (1, .iload_n 1, 2, 1, 0), (2, .iload_n 2, 3, 2, 0), (3, .invokevirtual 403, 6, 229, 2), (6, .ifCond .eq 12, 9, 18, 0), (9, .aload_n 0, 10, 0, 0), (10, .iload_n 1, 11, 1, 0), (11, .iload_n 2, 12, 2, 0),
  (12, .invokevirtual 331, 15, 227, 2), (15, .goto 4, 18, 19, 0), (18, .iconst (-1), 19, 0, 0), (19, .ireturn, 20, 0, 0)]
set_option maxRecDepth 20000 in
/-- 229: StoneHomeModel.isPlace(II)Z -/
def at_X11_isPlace : List (Nat × am_I) := [(0, .iload_n 1, 1, 1, 0), (1, .iconst 0, 2, 0, 0), (2, .aload_n 0, 3, 0, 0), (3, .getfield 46, 6, 11, 23), (6, .aload_n 0, 7, 0, 0), (7, .getfield 248, 10, 11, 18), (10, .iaload, 11, 0, 0), (11, .iconst 1, 12, 0, 0),
  (12, .isub, 13, 0, 0), (13, .invokestatic 353, 16, 230, 3), (16, .ifCond .eq 26, 19, 42, 0), (19, .iload_n 2, 20, 2, 0), (20, .iconst 0, 21, 0, 0), (21, .aload_n 0, 22, 0, 0), (22, .getfield 43, 25, 11, 22), (25, .aload_n 0, 26, 0, 0),
  (26, .getfield 248, 29, 11, 18), (29, .iaload, 30, 0, 0), (30, .iconst 1, 31, 0, 0), (31, .isub, 32, 0, 0), (32, .invokestatic 353, 35, 230, 3), (35, .ifCond .eq 7, 38, 42, 0), (38, .iconst 1, 39, 0, 0), (39, .goto 4, 42, 43, 0),
  (42, .iconst 0, 43, 0, 0), (43, .ireturn, 44, 0, 0)]
set_option maxRecDepth 20000 in
/-- 230: StoneHomeModel.in(III)Z -/
def at_X11_in : List (Nat × am_I) := [(0, .iload_n 0, 1, 0, 0), (1, .iload_n 1, 2, 1, 0), (2, .if_icmp .lt 12, 5, 14, 0), (5, .iload_n 0, 6, 0, 0), (6, .iload_n 2, 7, 2, 0), (7, .if_icmp .gt 7, 10, 14, 0), (10, .iconst 1, 11, 0, 0), (11, .goto 4, 14, 15, 0),
  (14, .iconst 0, 15, 0, 0), (15, .ireturn, 16, 0, 0)]
set_option maxRecDepth 20000 in
/-- 231: StoneHomeModel.cars(III)I -/
def at_X11_cars : List (Nat × am_I) := [(0, .aload_n 0, 1, 0, 0), (1, .iload_n 1, 2, 1, 0), (2, .iload_n 2, 3, 2, 0), (3, .invokevirtual 403, 6, 229, 2), (6, .ifCond .eq 14, 9, 20, 0), (9, .iload_n 3, 10, 3, 0), (10, .iconst 0, 11, 0, 0), (11, .sipush 9999, 14, 0, 0),
  (14, .invokestatic 353, 17, 230, 3), (17, .ifCond .ne 5, 20, 22, 0), (20, .iconst (-1), 21, 0, 0), (21, .ireturn, 22, 0, 0), (22, .aload_n 0, 23, 0, 0), (23, .iload_n 1, 24, 1, 0), (24, .iload_n 2, 25, 2, 0), (25, .iload_n 3, 26, 3, 0),
  (26, .invokevirtual 363, 29, 232, 3), (29, .ifCond .eq 7, 32, 36, 0), (32, .iconst 1, 33, 0, 0), (33, .goto 4, 36, 37, 0), (36, .iconst 0, 37, 0, 0), (37, .ireturn, 38, 0, 0)]
set_option maxRecDepth 20000 in
/-- 232: StoneHomeModel.isBarred(III)Z -/
def at_X11_isBarred : List (Nat × am_I) := [(0, .aload_n 0, 1, 0, 0), (1, .getfield 119, 4, 11, 50), (4, .iconst 0, 5, 0, 0), (5, .iload_n 1, 6, 1, 0), (6, .iastore, 7, 0, 0), (7, .aload_n 0, 8, 0, 0), (8, .getfield 119, 11, 11, 50), (11, .iconst 1, 12, 0, 0),
  (12, .iload_n 2, 13, 2, 0), (13, .iastore, 14, 0, 0), (14, .aload_n 0, 15, 0, 0), (15, .getfield 119, 18, 11, 50), (18, .iconst 2, 19, 0, 0), (19, .iconst 0, 20, 0, 0), (20, .iastore, 21, 0, 0), (21, .aload_n 0, 22, 0, 0),
  (22, .getfield 119, 25, 11, 50), (25, .iconst 3, 26, 0, 0), (26, .aload_n 0, 27, 0, 0), (27, .iload_n 1, 28, 1, 0), (28, .iload_n 2, 29, 2, 0), (29, .invokevirtual 331, 32, 227, 2), (32, .iastore, 33, 0, 0), (33, .aload_n 0, 34, 0, 0),
  (34, .getfield 119, 37, 11, 50), (37, .iconst 4, 38, 0, 0), (38, .iconst (-1), 39, 0, 0), (39, .iastore, 40, 0, 0), (40, .aload_n 0, 41, 0, 0), (41, .getfield 119, 44, 11, 50), (44, .iconst 5, 45, 0, 0), (45, .iconst 0, 46, 0, 0),
  (46, .iastore, 47, 0, 0), (47, .aload_n 0, 48, 0, 0), (48, .getfield 119, 51, 11, 50), (51, .bipush 6, 53, 0, 0), (53, .iload_n 3, 54, 3, 0), (54, .iastore, 55, 0, 0), (55, .aload_n 0, 56, 0, 0), (56, .iconst 2, 57, 0, 0),
  (57, .invokevirtual 344, 60, 233, 1), (60, .ifCond .le 7, 63, 67, 0), (63, .iconst 1, 64, 0, 0), (64, .goto 4, 67, 68, 0), (67, .iconst 0, 68, 0, 0), (68, .ireturn, 69, 0, 0)]
set_option maxRecDepth 20000 in
/-- 233: StoneHomeModel.asks(I)I -/
def at_X11_asks : List (Nat × am_I) := [(0, .iconst 3, 1, 0, 0), (1, .aload_n 0, 2, 0, 0), (2, .getfield 248, 5, 11, 18), (5, .imul, 6, 0, 0), (6, .iload_n 1, 7, 1, 0), (7, .iadd, 8, 0, 0), (8, .istore_n 2, 9, 2, 0), (9, .aload_n 0, 10, 0, 0),
  (10, .iconst 0, 11, 0, 0), (11, .putfield 321, 14, 11, 417), (14, .aload_n 0, 15, 0, 0), (15, .getfield 88, 18, 11, 37), (18, .iload_n 2, 19, 2, 0), (19, .iaload, 20, 0, 0), (20, .istore_n 3, 21, 3, 0), (21, .iload_n 3, 22, 3, 0),
  (22, .aload_n 0, 23, 0, 0), (23, .getfield 91, 26, 11, 38), (26, .iload_n 2, 27, 2, 0), (27, .iaload, 28, 0, 0), (28, .if_icmp .ge 105, 31, 133, 0), (31, .aload_n 0, 32, 0, 0), (32, .getfield 94, 35, 11, 40), (35, .iload_n 3, 36, 3, 0),
  (36, .baload, 37, 2, 0), (37, .ifCond .eq 58, 40, 95, 0), (40, .aload_n 0, 41, 0, 0), (41, .aload_n 0, 42, 0, 0), (42, .getfield 98, 45, 11, 41), (45, .iload_n 3, 46, 3, 0), (46, .iaload, 47, 0, 0), (47, .aload_n 0, 48, 0, 0),
  (48, .getfield 101, 51, 11, 42), (51, .iload_n 3, 52, 3, 0), (52, .iaload, 53, 0, 0), (53, .invokevirtual 341, 56, 234, 2), (56, .istore 4, 58, 4, 0), (58, .aload_n 0, 59, 0, 0), (59, .aload_n 0, 60, 0, 0), (60, .getfield 101, 63, 11, 42),
  (63, .iload_n 3, 64, 3, 0), (64, .iaload, 65, 0, 0), (65, .aload_n 0, 66, 0, 0), (66, .getfield 104, 69, 11, 43), (69, .iload_n 3, 70, 3, 0), (70, .iaload, 71, 0, 0), (71, .invokevirtual 341, 74, 234, 2), (74, .istore 5, 76, 5, 0),
  (76, .aload_n 0, 77, 0, 0), (77, .getfield 321, 80, 11, 52), (80, .ifCond .eq 5, 83, 85, 0), (83, .iconst 0, 84, 0, 0), (84, .ireturn, 85, 0, 0), (85, .iload 4, 87, 4, 0), (87, .iload 5, 89, 5, 0), (89, .if_icmp .lt 6, 92, 95, 0),
  (92, .goto 35, 95, 127, 0), (95, .aload_n 0, 96, 0, 0), (96, .aload_n 0, 97, 0, 0), (97, .getfield 104, 100, 11, 43), (100, .iload_n 3, 101, 3, 0), (101, .iaload, 102, 0, 0), (102, .aload_n 0, 103, 0, 0), (103, .getfield 107, 106, 11, 44),
  (106, .iload_n 3, 107, 3, 0), (107, .iaload, 108, 0, 0), (108, .invokevirtual 341, 111, 234, 2), (111, .istore 4, 113, 4, 0), (113, .aload_n 0, 114, 0, 0), (114, .getfield 321, 117, 11, 52), (117, .ifCond .eq 7, 120, 124, 0), (120, .iconst 0, 121, 0, 0),
  (121, .goto 5, 124, 126, 0), (124, .iload 4, 126, 4, 0), (126, .ireturn, 127, 0, 0), (127, .iinc 3 1, 130, 3, 0), (130, .goto (-109), 133, 21, 0), (133, .iconst 0, 134, 0, 0), (134, .ireturn, 135, 0, 0)]
set_option maxRecDepth 20000 in
/-- 234: StoneHomeModel.termOf(II)I -/
def at_X11_termOf : List (Nat × am_I) := [(0, .iconst 0, 1, 0, 0), (1, .istore_n 3, 2, 3, 0), (2, .iload_n 1, 3, 1, 0), (3, .istore 4, 5, 4, 0), (5, .iload 4, 7, 4, 0), (7, .iload_n 2, 8, 2, 0), (8, .if_icmp .ge 157, 11, 165, 0), (11, .aload_n 0, 12, 0, 0),
  (12, .getfield 110, 15, 11, 46), (15, .iload 4, 17, 4, 0), (17, .iaload, 18, 0, 0), (18, .istore 5, 20, 5, 0), (20, .iload 5, 22, 5, 0), (22, .iconst 2, 23, 0, 0), (23, .if_icmp .ge 42, 26, 65, 0), (26, .aload_n 0, 27, 0, 0),
  (27, .getfield 122, 30, 11, 51), (30, .iload_n 3, 31, 3, 0), (31, .iload 5, 33, 5, 0), (33, .ifCond .ne 13, 36, 46, 0), (36, .aload_n 0, 37, 0, 0), (37, .getfield 113, 40, 11, 47), (40, .iload 4, 42, 4, 0), (42, .iaload, 43, 0, 0),
  (43, .goto 15, 46, 58, 0), (46, .aload_n 0, 47, 0, 0), (47, .getfield 119, 50, 11, 50), (50, .aload_n 0, 51, 0, 0), (51, .getfield 113, 54, 11, 47), (54, .iload 4, 56, 4, 0), (56, .iaload, 57, 0, 0), (57, .iaload, 58, 0, 0),
  (58, .iastore, 59, 0, 0), (59, .iinc 3 1, 62, 3, 0), (62, .goto 97, 65, 159, 0), (65, .iinc 3 (-1), 68, 3, 0), (68, .aload_n 0, 69, 0, 0), (69, .getfield 122, 72, 11, 51), (72, .iload_n 3, 73, 3, 0), (73, .iconst 1, 74, 0, 0),
  (74, .isub, 75, 0, 0), (75, .iaload, 76, 0, 0), (76, .istore 6, 78, 6, 0), (78, .aload_n 0, 79, 0, 0), (79, .getfield 122, 82, 11, 51), (82, .iload_n 3, 83, 3, 0), (83, .iaload, 84, 0, 0), (84, .istore 7, 86, 7, 0),
  (86, .iload 5, 88, 5, 0), (88, .iconst 5, 89, 0, 0), (89, .if_icmp .ne 15, 92, 104, 0), (92, .iload 7, 94, 7, 0), (94, .ifCond .ne 10, 97, 104, 0), (97, .aload_n 0, 98, 0, 0), (98, .iconst 1, 99, 0, 0), (99, .putfield 321, 102, 11, 417),
  (102, .iconst 0, 103, 0, 0), (103, .ireturn, 104, 0, 0), (104, .aload_n 0, 105, 0, 0), (105, .getfield 122, 108, 11, 51), (108, .iload_n 3, 109, 3, 0), (109, .iconst 1, 110, 0, 0), (110, .isub, 111, 0, 0), (111, .iload 5, 113, 5, 0),
  (113, .iconst 2, 114, 0, 0), (114, .if_icmp .ne 11, 117, 125, 0), (117, .iload 6, 119, 6, 0), (119, .iload 7, 121, 7, 0), (121, .iadd, 122, 0, 0), (122, .goto 36, 125, 158, 0), (125, .iload 5, 127, 5, 0), (127, .iconst 3, 128, 0, 0),
  (128, .if_icmp .ne 11, 131, 139, 0), (131, .iload 6, 133, 6, 0), (133, .iload 7, 135, 7, 0), (135, .isub, 136, 0, 0), (136, .goto 22, 139, 158, 0), (139, .iload 5, 141, 5, 0), (141, .iconst 4, 142, 0, 0), (142, .if_icmp .ne 11, 145, 153, 0),
  (145, .iload 6, 147, 6, 0), (147, .iload 7, 149, 7, 0), (149, .imul, 150, 0, 0), (150, .goto 8, 153, 158, 0), (153, .iload 6, 155, 6, 0), (155, .iload 7, 157, 7, 0), (157, .idiv, 158, 0, 0), (158, .iastore, 159, 0, 0),
  (159, .iinc 4 1, 162, 4, 0), (162, .goto (-157), 165, 5, 0), (165, .aload_n 0, 166, 0, 0), (166, .getfield 122, 169, 11, 51), (169, .iconst 0, 170, 0, 0), (170, .iaload, 171, 0, 0), (171, .ireturn, 172, 0, 0)]
set_option maxRecDepth 20000 in
/-- 235: StoneHomeModel.kick(I)I -/
def at_X11_kick : List (Nat × am_I) := [(0, .iload_n 1, 1, 1, 0), (1, .iconst 0, 2, 0, 0), (2, .aload_n 0, 3, 0, 0), (3, .getfield 55, 6, 11, 26), (6, .aload_n 0, 7, 0, 0), (7, .getfield 248, 10, 11, 18), (10, .iaload, 11, 0, 0), (11, .iconst 1, 12, 0, 0),
  (12, .isub, 13, 0, 0), (13, .invokestatic 353, 16, 230, 3), (16, .ifCond .ne 5, 19, 21, 0), (19, .iconst (-1), 20, 0, 0), (20, .ireturn, 21, 0, 0), (21, .aload_n 0, 22, 0, 0), (22, .invokevirtual 413, 25, 236, 0), (25, .ifCond .ne 15, 28, 40, 0),
  (28, .aload_n 0, 29, 0, 0), (29, .aload_n 0, 30, 0, 0), (30, .invokevirtual 399, 33, 221, 0), (33, .iload_n 1, 34, 1, 0), (34, .invokevirtual 372, 37, 237, 2), (37, .ifCond .ne 6, 40, 43, 0), (40, .bipush (-2), 42, 0, 0), (42, .ireturn, 43, 0, 0),
  (43, .aload_n 0, 44, 0, 0), (44, .getfield 85, 47, 11, 36), (47, .aload_n 0, 48, 0, 0), (48, .getfield 248, 51, 11, 18), (51, .iaload, 52, 0, 0), (52, .bipush 55, 54, 0, 0), (54, .invokestatic 417, 57, 238, 2), (57, .aload_n 0, 58, 0, 0),
  (58, .getfield 125, 61, 11, 53), (61, .iconst 4, 62, 0, 0), (62, .iaload, 63, 0, 0), (63, .invokestatic 417, 66, 238, 2), (66, .iconst 1, 67, 0, 0), (67, .iushr, 68, 0, 0), (68, .bipush 6, 70, 0, 0), (70, .irem, 71, 0, 0),
  (71, .istore_n 2, 72, 2, 0), (72, .iconst 0, 73, 0, 0), (73, .istore_n 3, 74, 3, 0), (74, .aload_n 0, 75, 0, 0), (75, .getfield 61, 78, 11, 28), (78, .bipush 6, 80, 0, 0), (80, .iconst 4, 81, 0, 0), (81, .aload_n 0, 82, 0, 0),
  (82, .getfield 248, 85, 11, 18), (85, .imul, 86, 0, 0), (86, .iload_n 1, 87, 1, 0), (87, .iadd, 88, 0, 0), (88, .imul, 89, 0, 0), (89, .iaload, 90, 0, 0), (90, .istore 4, 92, 4, 0), (92, .iload 4, 94, 4, 0),
  (94, .iload_n 2, 95, 2, 0), (95, .if_icmp .gt 32, 98, 127, 0), (98, .iinc 3 1, 101, 3, 0), (101, .iload 4, 103, 4, 0), (103, .aload_n 0, 104, 0, 0), (104, .getfield 61, 107, 11, 28), (107, .bipush 6, 109, 0, 0), (109, .iconst 4, 110, 0, 0),
  (110, .aload_n 0, 111, 0, 0), (111, .getfield 248, 114, 11, 18), (114, .imul, 115, 0, 0), (115, .iload_n 1, 116, 1, 0), (116, .iadd, 117, 0, 0), (117, .imul, 118, 0, 0), (118, .iload_n 3, 119, 3, 0), (119, .iadd, 120, 0, 0),
  (120, .iaload, 121, 0, 0), (121, .iadd, 122, 0, 0), (122, .istore 4, 124, 4, 0), (124, .goto (-32), 127, 92, 0), (127, .aload_n 0, 128, 0, 0), (128, .aload_n 0, 129, 0, 0), (129, .invokevirtual 399, 132, 221, 0), (132, .iload_n 1, 133, 1, 0),
  (133, .iload_n 3, 134, 3, 0), (134, .aload_n 0, 135, 0, 0), (135, .getfield 125, 138, 11, 53), (138, .iconst 5, 139, 0, 0), (139, .iaload, 140, 0, 0), (140, .invokevirtual 369, 143, 239, 4), (143, .istore 5, 145, 5, 0), (145, .aload_n 0, 146, 0, 0),
  (146, .iload 5, 148, 5, 0), (148, .aload_n 0, 149, 0, 0), (149, .getfield 357, 152, 11, 55), (152, .invokevirtual 420, 155, 243, 2), (155, .ireturn, 156, 0, 0)]
set_option maxRecDepth 20000 in
/-- 236: StoneHomeModel.isOver()Z -/
def at_X11_isOver : List (Nat × am_I) := [(0, .aload_n 0, 1, 0, 0), (1, .getfield 125, 4, 11, 53), (4, .bipush 7, 6, 0, 0), (6, .iaload, 7, 0, 0), (7, .iconst 1, 8, 0, 0), (8, .if_icmp .eq 14, 11, 22, 0), (11, .aload_n 0, 12, 0, 0), (12, .aload_n 0, 13, 0, 0),
  (13, .invokevirtual 399, 16, 221, 0), (16, .invokevirtual 385, 19, 223, 1), (19, .ifCond .eq 7, 22, 26, 0), (22, .iconst 1, 23, 0, 0), (23, .goto 4, 26, 27, 0), (26, .iconst 0, 27, 0, 0), (27, .ireturn, 28, 0, 0)]
set_option maxRecDepth 20000 in
/-- 237: StoneHomeModel.canKick(II)Z -/
def at_X11_canKick : List (Nat × am_I) := [(0, .aload_n 0, 1, 0, 0), (1, .iload_n 1, 2, 1, 0), (2, .invokevirtual 334, 5, 224, 1), (5, .iconst 3, 6, 0, 0), (6, .if_icmp .ne 20, 9, 26, 0), (9, .aload_n 0, 10, 0, 0), (10, .getfield 58, 13, 11, 27), (13, .iconst 4, 14, 0, 0),
  (14, .aload_n 0, 15, 0, 0), (15, .getfield 248, 18, 11, 18), (18, .imul, 19, 0, 0), (19, .iload_n 2, 20, 2, 0), (20, .iadd, 21, 0, 0), (21, .iaload, 22, 0, 0), (22, .iconst 1, 23, 0, 0), (23, .if_icmp .ne 7, 26, 30, 0),
  (26, .iconst 1, 27, 0, 0), (27, .goto 4, 30, 31, 0), (30, .iconst 0, 31, 0, 0), (31, .ireturn, 32, 0, 0)]
set_option maxRecDepth 20000 in
/-- 238: StoneHomeModel.mixed(II)I -/
def at_X11_mixed : List (Nat × am_I) := [(0, .iload_n 0, 1, 0, 0), (1, .iload_n 1, 2, 1, 0), (2, .ixor, 3, 0, 0), (3, .ldc_w 406, 6, 0, 1103515245), (6, .imul, 7, 0, 0), (7, .sipush 12345, 10, 0, 0), (10, .iadd, 11, 0, 0), (11, .istore_n 2, 12, 2, 0),
  (12, .iload_n 2, 13, 2, 0), (13, .iload_n 2, 14, 2, 0), (14, .bipush 15, 16, 0, 0), (16, .iushr, 17, 0, 0), (17, .ixor, 18, 0, 0), (18, .ireturn, 19, 0, 0)]
set_option maxRecDepth 20000 in
/-- 239: StoneHomeModel.brought(IIII)I -/
def at_X11_brought : List (Nat × am_I) := [(0, .bipush 6, 2, 0, 0), (2, .iconst 4, 3, 0, 0), (3, .aload_n 0, 4, 0, 0), (4, .getfield 248, 7, 11, 18), (7, .imul, 8, 0, 0), (8, .iload_n 2, 9, 2, 0), (9, .iadd, 10, 0, 0), (10, .imul, 11, 0, 0),
  (11, .iload_n 3, 12, 3, 0), (12, .iadd, 13, 0, 0), (13, .istore 5, 15, 5, 0), (15, .iload_n 1, 16, 1, 0), (16, .invokestatic 325, 19, 225, 1), (19, .istore 6, 21, 6, 0), (21, .iload_n 1, 22, 1, 0), (22, .invokestatic 328, 25, 226, 1),
  (25, .istore 7, 27, 7, 0), (27, .iload_n 1, 28, 1, 0), (28, .invokestatic 347, 31, 240, 1), (31, .istore 8, 33, 8, 0), (33, .aload_n 0, 34, 0, 0), (34, .getfield 119, 37, 11, 50), (37, .iconst 0, 38, 0, 0), (38, .iload 6, 40, 6, 0),
  (40, .iastore, 41, 0, 0), (41, .aload_n 0, 42, 0, 0), (42, .getfield 119, 45, 11, 50), (45, .iconst 1, 46, 0, 0), (46, .iload 7, 48, 7, 0), (48, .iastore, 49, 0, 0), (49, .aload_n 0, 50, 0, 0), (50, .getfield 119, 53, 11, 50),
  (53, .iconst 2, 54, 0, 0), (54, .iload 8, 56, 8, 0), (56, .iastore, 57, 0, 0), (57, .aload_n 0, 58, 0, 0), (58, .getfield 119, 61, 11, 50), (61, .iconst 3, 62, 0, 0), (62, .aload_n 0, 63, 0, 0), (63, .iload_n 1, 64, 1, 0),
  (64, .invokevirtual 334, 67, 224, 1), (67, .iastore, 68, 0, 0), (68, .aload_n 0, 69, 0, 0), (69, .getfield 119, 72, 11, 50), (72, .iconst 4, 73, 0, 0), (73, .iload_n 2, 74, 2, 0), (74, .iastore, 75, 0, 0), (75, .aload_n 0, 76, 0, 0),
  (76, .getfield 119, 79, 11, 50), (79, .iconst 5, 80, 0, 0), (80, .aload_n 0, 81, 0, 0), (81, .getfield 64, 84, 11, 29), (84, .iload 5, 86, 5, 0), (86, .iaload, 87, 0, 0), (87, .iastore, 88, 0, 0), (88, .aload_n 0, 89, 0, 0),
  (89, .getfield 119, 92, 11, 50), (92, .bipush 6, 94, 0, 0), (94, .iload 4, 96, 4, 0), (96, .iastore, 97, 0, 0), (97, .iload 6, 99, 6, 0), (99, .aload_n 0, 100, 0, 0), (100, .getfield 64, 103, 11, 29), (103, .iload 5, 105, 5, 0),
  (105, .iaload, 106, 0, 0), (106, .iadd, 107, 0, 0), (107, .aload_n 0, 108, 0, 0), (108, .iconst 1, 109, 0, 0), (109, .invokevirtual 344, 112, 233, 1), (112, .iconst 4, 113, 0, 0), (113, .invokestatic 350, 116, 241, 2), (116, .iadd, 117, 0, 0),
  (117, .istore 9, 119, 9, 0), (119, .iload 7, 121, 7, 0), (121, .aload_n 0, 122, 0, 0), (122, .getfield 67, 125, 11, 30), (125, .iload 5, 127, 5, 0), (127, .iaload, 128, 0, 0), (128, .iadd, 129, 0, 0), (129, .aload_n 0, 130, 0, 0),
  (130, .iconst 0, 131, 0, 0), (131, .invokevirtual 344, 134, 233, 1), (134, .iconst 2, 135, 0, 0), (135, .invokestatic 350, 138, 241, 2), (138, .iadd, 139, 0, 0), (139, .istore 10, 141, 10, 0), (141, .iload 8, 143, 8, 0), (143, .aload_n 0, 144, 0, 0),
  (144, .getfield 70, 147, 11, 31), (147, .iload 5, 149, 5, 0), (149, .iaload, 150, 0, 0), (150, .iadd, 151, 0, 0), (151, .aload_n 0, 152, 0, 0), (152, .getfield 52, 155, 11, 25), (155, .aload_n 0, 156, 0, 0), (156, .getfield 248, 159, 11, 18),
  (159, .iaload, 160, 0, 0), (160, .irem, 161, 0, 0), (161, .istore 11, 163, 11, 0), (163, .iload 9, 165, 9, 0), (165, .ifCond .ge 6, 168, 171, 0), (168, .iconst 0, 169, 0, 0), (169, .istore 9, 171, 9, 0), (171, .iload 9, 173, 9, 0),
  (173, .aload_n 0, 174, 0, 0), (174, .getfield 46, 177, 11, 23), (177, .aload_n 0, 178, 0, 0), (178, .getfield 248, 181, 11, 18), (181, .iaload, 182, 0, 0), (182, .if_icmp .lt 16, 185, 198, 0), (185, .aload_n 0, 186, 0, 0), (186, .getfield 46, 189, 11, 23),
  (189, .aload_n 0, 190, 0, 0), (190, .getfield 248, 193, 11, 18), (193, .iaload, 194, 0, 0), (194, .iconst 1, 195, 0, 0), (195, .isub, 196, 0, 0), (196, .istore 9, 198, 9, 0), (198, .aload_n 0, 199, 0, 0), (199, .iload 10, 201, 10, 0),
  (201, .iconst 0, 202, 0, 0), (202, .aload_n 0, 203, 0, 0), (203, .getfield 43, 206, 11, 22), (206, .aload_n 0, 207, 0, 0), (207, .getfield 248, 210, 11, 18), (210, .iaload, 211, 0, 0), (211, .iconst 1, 212, 0, 0), (212, .isub, 213, 0, 0),
  (213, .invokestatic 353, 216, 230, 3), (216, .ifCond .ne 7, 219, 223, 0), (219, .iconst 1, 220, 0, 0), (220, .goto 4, 223, 224, 0), (223, .iconst 0, 224, 0, 0), (224, .putfield 357, 227, 11, 441), (227, .aload_n 0, 228, 0, 0), (228, .getfield 357, 231, 11, 55),
  (231, .ifCond .eq 8, 234, 239, 0), (234, .iload_n 1, 235, 1, 0), (235, .invokestatic 360, 238, 242, 1), (238, .ireturn, 239, 0, 0), (239, .aload_n 0, 240, 0, 0), (240, .iload 9, 242, 9, 0), (242, .iload 10, 244, 10, 0), (244, .invokevirtual 331, 247, 227, 2),
  (247, .istore 12, 249, 12, 0), (249, .iload 12, 251, 12, 0), (251, .iconst 5, 252, 0, 0), (252, .if_icmp .ne 16, 255, 268, 0), (255, .iload 6, 257, 6, 0), (257, .iload 7, 259, 7, 0), (259, .iload 11, 261, 11, 0), (261, .iload_n 1, 262, 1, 0),
  (262, .iconst 4, 263, 0, 0), (263, .irem, 264, 0, 0), (264, .invokestatic 337, 267, 222, 4), (267, .ireturn, 268, 0, 0), (268, .aload_n 0, 269, 0, 0), (269, .iload 12, 271, 12, 0), (271, .iconst 4, 272, 0, 0), (272, .if_icmp .eq 33, 275, 305, 0),
  (275, .iload 12, 277, 12, 0), (277, .bipush 6, 279, 0, 0), (279, .if_icmp .eq 30, 282, 309, 0), (282, .aload_n 0, 283, 0, 0), (283, .iload 9, 285, 9, 0), (285, .iload 10, 287, 10, 0), (287, .iload 4, 289, 4, 0), (289, .aload_n 0, 290, 0, 0),
  (290, .getfield 82, 293, 11, 35), (293, .aload_n 0, 294, 0, 0), (294, .getfield 248, 297, 11, 18), (297, .iaload, 298, 0, 0), (298, .iadd, 299, 0, 0), (299, .invokevirtual 363, 302, 232, 3), (302, .ifCond .eq 7, 305, 309, 0), (305, .iconst 1, 306, 0, 0),
  (306, .goto 4, 309, 310, 0), (309, .iconst 0, 310, 0, 0), (310, .putfield 357, 313, 11, 441), (313, .aload_n 0, 314, 0, 0), (314, .getfield 357, 317, 11, 55), (317, .ifCond .eq 10, 320, 327, 0), (320, .iload_n 1, 321, 1, 0), (321, .invokestatic 360, 324, 242, 1),
  (324, .goto 15, 327, 339, 0), (327, .iload 9, 329, 9, 0), (329, .iload 10, 331, 10, 0), (331, .iload 11, 333, 11, 0), (333, .iload_n 1, 334, 1, 0), (334, .iconst 4, 335, 0, 0), (335, .irem, 336, 0, 0), (336, .invokestatic 337, 339, 222, 4),
  (339, .ireturn, 340, 0, 0)]
set_option maxRecDepth 20000 in
/-- 240: StoneHomeModel.faceOf(I)I -/
def at_X11_faceOf : List (Nat × am_I) := [(0, .iload_n 0, 1, 0, 0), (1, .iconst 4, 2, 0, 0), (2, .idiv, 3, 0, 0), (3, .iconst 3, 4, 0, 0), (4, .irem, 5, 0, 0), (5, .ireturn, 6, 0, 0)]
set_option maxRecDepth 20000 in
/-- 241: StoneHomeModel.held(II)I -/
def at_X11_held : List (Nat × am_I) := [(0, .iload_n 0, 1, 0, 0), (1, .iload_n 1, 2, 1, 0), (2, .ineg, 3, 0, 0), (3, .if_icmp .ge 8, 6, 11, 0), (6, .iload_n 1, 7, 1, 0), (7, .ineg, 8, 0, 0), (8, .goto 13, 11, 21, 0), (11, .iload_n 0, 12, 0, 0),
  (12, .iload_n 1, 13, 1, 0), (13, .if_icmp .le 7, 16, 20, 0), (16, .iload_n 1, 17, 1, 0), (17, .goto 4, 20, 21, 0), (20, .iload_n 0, 21, 0, 0), (21, .ireturn, 22, 0, 0)]
set_option maxRecDepth 20000 in
/-- 242: StoneHomeModel.losing(I)I -/
def at_X11_losing : List (Nat × am_I) := [(0, .iload_n 0, 1, 0, 0), (1, .iconst 4, 2, 0, 0), (2, .irem, 3, 0, 0), (3, .ifCond .le 9, 6, 12, 0), (6, .iload_n 0, 7, 0, 0), (7, .iconst 1, 8, 0, 0), (8, .isub, 9, 0, 0), (9, .goto 6, 12, 15, 0),
  (12, .sipush 384, 15, 0, 0), (15, .ireturn, 16, 0, 0)]
set_option maxRecDepth 20000 in
/-- 243: StoneHomeModel.comesTo(IZ)I -/
def at_X11_comesTo : List (Nat × am_I) := [(0, .aload_n 0, 1, 0, 0), (1, .invokevirtual 407, 4, 244, 0), (4, .aload_n 0, 5, 0, 0), (5, .getfield 128, 8, 11, 54), (8, .iconst 4, 9, 0, 0), (9, .dup2, 10, 0, 0), (10, .iaload, 11, 0, 0), (11, .iconst 1, 12, 0, 0),
  (12, .iadd, 13, 0, 0), (13, .iastore, 14, 0, 0), (14, .aload_n 0, 15, 0, 0), (15, .getfield 128, 18, 11, 54), (18, .iconst 5, 19, 0, 0), (19, .dup2, 20, 0, 0), (20, .iaload, 21, 0, 0), (21, .aload_n 0, 22, 0, 0),
  (22, .getfield 82, 25, 11, 35), (25, .aload_n 0, 26, 0, 0), (26, .getfield 248, 29, 11, 18), (29, .iaload, 30, 0, 0), (30, .iadd, 31, 0, 0), (31, .iastore, 32, 0, 0), (32, .iconst 0, 33, 0, 0), (33, .istore_n 3, 34, 3, 0),
  (34, .iload_n 1, 35, 1, 0), (35, .sipush 384, 38, 0, 0), (38, .if_icmp .ne 16, 41, 54, 0), (41, .aload_n 0, 42, 0, 0), (42, .getfield 128, 45, 11, 54), (45, .bipush 7, 47, 0, 0), (47, .iconst 1, 48, 0, 0), (48, .iastore, 49, 0, 0),
  (49, .iconst 2, 50, 0, 0), (50, .istore_n 3, 51, 3, 0), (51, .goto 79, 54, 130, 0), (54, .aload_n 0, 55, 0, 0), (55, .getfield 128, 58, 11, 54), (58, .iconst 0, 59, 0, 0), (59, .iload_n 1, 60, 1, 0), (60, .invokestatic 325, 63, 225, 1),
  (63, .iastore, 64, 0, 0), (64, .aload_n 0, 65, 0, 0), (65, .getfield 128, 68, 11, 54), (68, .iconst 1, 69, 0, 0), (69, .iload_n 1, 70, 1, 0), (70, .invokestatic 328, 73, 226, 1), (73, .iastore, 74, 0, 0), (74, .aload_n 0, 75, 0, 0),
  (75, .getfield 128, 78, 11, 54), (78, .iconst 2, 79, 0, 0), (79, .iload_n 1, 80, 1, 0), (80, .invokestatic 347, 83, 240, 1), (83, .iastore, 84, 0, 0), (84, .aload_n 0, 85, 0, 0), (85, .getfield 128, 88, 11, 54), (88, .iconst 3, 89, 0, 0),
  (89, .iload_n 1, 90, 1, 0), (90, .iconst 4, 91, 0, 0), (91, .irem, 92, 0, 0), (92, .iastore, 93, 0, 0), (93, .iload_n 2, 94, 2, 0), (94, .ifCond .eq 14, 97, 108, 0), (97, .aload_n 0, 98, 0, 0), (98, .getfield 128, 101, 11, 54),
  (101, .bipush 8, 103, 0, 0), (103, .dup2, 104, 0, 0), (104, .iaload, 105, 0, 0), (105, .iconst 1, 106, 0, 0), (106, .iadd, 107, 0, 0), (107, .iastore, 108, 0, 0), (108, .iload_n 2, 109, 2, 0), (109, .ifCond .eq 7, 112, 116, 0),
  (112, .iconst 3, 113, 0, 0), (113, .goto 16, 116, 129, 0), (116, .aload_n 0, 117, 0, 0), (117, .iload_n 1, 118, 1, 0), (118, .invokevirtual 385, 121, 223, 1), (121, .ifCond .eq 7, 124, 128, 0), (124, .iconst 1, 125, 0, 0), (125, .goto 4, 128, 129, 0),
  (128, .iconst 0, 129, 0, 0), (129, .istore_n 3, 130, 3, 0), (130, .aload_n 0, 131, 0, 0), (131, .invokevirtual 410, 134, 245, 0), (134, .iload_n 3, 135, 3, 0), (135, .ireturn, 136, 0, 0)]
set_option maxRecDepth 20000 in
/-- 244: StoneHomeModel.copies()V -/
def at_X11_copies : List (Nat × am_I) := [(0, .iconst 0, 1, 0, 0), (1, .istore_n 1, 2, 1, 0), (2, .iload_n 1, 3, 1, 0), (3, .bipush 10, 5, 0, 0), (5, .if_icmp .ge 21, 8, 26, 0), (8, .aload_n 0, 9, 0, 0), (9, .getfield 128, 12, 11, 54), (12, .iload_n 1, 13, 1, 0),
  (13, .aload_n 0, 14, 0, 0), (14, .getfield 125, 17, 11, 53), (17, .iload_n 1, 18, 1, 0), (18, .iaload, 19, 0, 0), (19, .iastore, 20, 0, 0), (20, .iinc 1 1, 23, 1, 0), (23, .goto (-21), 26, 2, 0), (26, .return_, 27, 0, 0)]
set_option maxRecDepth 20000 in
/-- 245: StoneHomeModel.keeps()V -/
def at_X11_keeps : List (Nat × am_I) := [(0, .aload_n 0, 1, 0, 0), (1, .getfield 270, 4, 11, 58), (4, .bipush 50, 6, 0, 0), (6, .if_icmp .ne 43, 9, 49, 0), (9, .iconst 0, 10, 0, 0), (10, .istore_n 1, 11, 1, 0), (11, .iload_n 1, 12, 1, 0), (12, .sipush 490, 15, 0, 0),
  (15, .if_icmp .ge 24, 18, 39, 0), (18, .aload_n 0, 19, 0, 0), (19, .getfield 137, 22, 11, 59), (22, .iload_n 1, 23, 1, 0), (23, .aload_n 0, 24, 0, 0), (24, .getfield 137, 27, 11, 59), (27, .iload_n 1, 28, 1, 0), (28, .bipush 10, 30, 0, 0),
  (30, .iadd, 31, 0, 0), (31, .iaload, 32, 0, 0), (32, .iastore, 33, 0, 0), (33, .iinc 1 1, 36, 1, 0), (36, .goto (-25), 39, 11, 0), (39, .aload_n 0, 40, 0, 0), (40, .dup, 41, 0, 0), (41, .getfield 270, 44, 11, 58),
  (44, .iconst 1, 45, 0, 0), (45, .isub, 46, 0, 0), (46, .putfield 270, 49, 11, 464), (49, .iconst 0, 50, 0, 0), (50, .istore_n 1, 51, 1, 0), (51, .iload_n 1, 52, 1, 0), (52, .bipush 10, 54, 0, 0), (54, .if_icmp .ge 29, 57, 83, 0),
  (57, .aload_n 0, 58, 0, 0), (58, .getfield 137, 61, 11, 59), (61, .bipush 10, 63, 0, 0), (63, .aload_n 0, 64, 0, 0), (64, .getfield 270, 67, 11, 58), (67, .imul, 68, 0, 0), (68, .iload_n 1, 69, 1, 0), (69, .iadd, 70, 0, 0),
  (70, .aload_n 0, 71, 0, 0), (71, .getfield 125, 74, 11, 53), (74, .iload_n 1, 75, 1, 0), (75, .iaload, 76, 0, 0), (76, .iastore, 77, 0, 0), (77, .iinc 1 1, 80, 1, 0), (80, .goto (-29), 83, 51, 0), (83, .aload_n 0, 84, 0, 0),
  (84, .dup, 85, 0, 0), (85, .getfield 270, 88, 11, 58), (88, .iconst 1, 89, 0, 0), (89, .iadd, 90, 0, 0), (90, .putfield 270, 93, 11, 464), (93, .aload_n 0, 94, 0, 0), (94, .invokevirtual 178, 97, 190, 0), (97, .return_, 98, 0, 0)]
set_option maxRecDepth 20000 in
/-- 246: StoneHomeModel.waits()I -/
def at_X11_waits : List (Nat × am_I) := [(0, .aload_n 0, 1, 0, 0), (1, .invokevirtual 413, 4, 236, 0), (4, .ifCond .eq 6, 7, 10, 0), (7, .bipush (-2), 9, 0, 0), (9, .ireturn, 10, 0, 0), (10, .aload_n 0, 11, 0, 0), (11, .aload_n 0, 12, 0, 0), (12, .invokevirtual 399, 15, 221, 0),
  (15, .aload_n 0, 16, 0, 0), (16, .getfield 125, 19, 11, 53), (19, .iconst 5, 20, 0, 0), (20, .iaload, 21, 0, 0), (21, .invokevirtual 366, 24, 247, 2), (24, .istore_n 1, 25, 1, 0), (25, .aload_n 0, 26, 0, 0), (26, .iload_n 1, 27, 1, 0),
  (27, .iload_n 1, 28, 1, 0), (28, .aload_n 0, 29, 0, 0), (29, .invokevirtual 399, 32, 221, 0), (32, .if_icmp .eq 7, 35, 39, 0), (35, .iconst 1, 36, 0, 0), (36, .goto 4, 39, 40, 0), (39, .iconst 0, 40, 0, 0), (40, .invokevirtual 420, 43, 243, 2),
  (43, .ireturn, 44, 0, 0)]
set_option maxRecDepth 20000 in
/-- 247: StoneHomeModel.waited(II)I -/
def at_X11_waited : List (Nat × am_I) := [(0, .aload_n 0, 1, 0, 0), (1, .iload_n 1, 2, 1, 0), (2, .invokestatic 325, 5, 225, 1), (5, .iload_n 1, 6, 1, 0), (6, .invokestatic 328, 9, 226, 1), (9, .iload_n 2, 10, 2, 0), (10, .aload_n 0, 11, 0, 0), (11, .getfield 82, 14, 11, 35),
  (14, .aload_n 0, 15, 0, 0), (15, .getfield 248, 18, 11, 18), (18, .iaload, 19, 0, 0), (19, .iadd, 20, 0, 0), (20, .invokevirtual 363, 23, 232, 3), (23, .ifCond .eq 10, 26, 33, 0), (26, .iload_n 1, 27, 1, 0), (27, .invokestatic 360, 30, 242, 1),
  (30, .goto 4, 33, 34, 0), (33, .iload_n 1, 34, 1, 0), (34, .ireturn, 35, 0, 0)]
set_option maxRecDepth 20000 in
/-- 248: StoneHomeModel.touch(I)Z -/
def at_X11_touch : List (Nat × am_I) := [(0, .iload_n 1, 1, 1, 0), (1, .iconst 0, 2, 0, 0), (2, .iconst 3, 3, 0, 0), (3, .invokestatic 353, 6, 230, 3), (6, .ifCond .eq 10, 9, 16, 0), (9, .aload_n 0, 10, 0, 0), (10, .invokevirtual 413, 13, 236, 0), (13, .ifCond .eq 5, 16, 18, 0),
  (16, .iconst 0, 17, 0, 0), (17, .ireturn, 18, 0, 0), (18, .aload_n 0, 19, 0, 0), (19, .aload_n 0, 20, 0, 0), (20, .invokevirtual 399, 23, 221, 0), (23, .iload_n 1, 24, 1, 0), (24, .invokevirtual 424, 27, 249, 2), (27, .istore_n 2, 28, 2, 0),
  (28, .iload_n 2, 29, 2, 0), (29, .ifCond .ge 5, 32, 34, 0), (32, .iconst 0, 33, 0, 0), (33, .ireturn, 34, 0, 0), (34, .aload_n 0, 35, 0, 0), (35, .invokevirtual 407, 38, 244, 0), (38, .aload_n 0, 39, 0, 0), (39, .getfield 128, 42, 11, 54),
  (42, .iconst 0, 43, 0, 0), (43, .iload_n 2, 44, 2, 0), (44, .invokestatic 325, 47, 225, 1), (47, .iastore, 48, 0, 0), (48, .aload_n 0, 49, 0, 0), (49, .getfield 128, 52, 11, 54), (52, .iconst 1, 53, 0, 0), (53, .iload_n 2, 54, 2, 0),
  (54, .invokestatic 328, 57, 226, 1), (57, .iastore, 58, 0, 0), (58, .aload_n 0, 59, 0, 0), (59, .getfield 128, 62, 11, 54), (62, .bipush 6, 64, 0, 0), (64, .dup2, 65, 0, 0), (65, .iaload, 66, 0, 0), (66, .iconst 1, 67, 0, 0),
  (67, .iadd, 68, 0, 0), (68, .iastore, 69, 0, 0), (69, .aload_n 0, 70, 0, 0), (70, .invokevirtual 410, 73, 245, 0), (73, .iconst 1, 74, 0, 0), (74, .ireturn, 75, 0, 0)]
set_option maxRecDepth 20000 in
/-- 249: StoneHomeModel.touched(II)I -/
def at_X11_touched : List (Nat × am_I) := [(0, .iload_n 1, 1, 1, 0), (1, .invokestatic 325, 4, 225, 1), (4, .iload_n 2, 5, 2, 0), (5, .ifCond .ne 7, 8, 12, 0), (8, .iconst 1, 9, 0, 0), (9, .goto 13, 12, 22, 0), (12, .iload_n 2, 13, 2, 0), (13, .iconst 1, 14, 0, 0),
  (14, .if_icmp .ne 7, 17, 21, 0), (17, .iconst (-1), 18, 0, 0), (18, .goto 4, 21, 22, 0), (21, .iconst 0, 22, 0, 0), (22, .iadd, 23, 0, 0), (23, .istore_n 3, 24, 3, 0), (24, .iload_n 1, 25, 1, 0), (25, .invokestatic 328, 28, 226, 1),
  (28, .iload_n 2, 29, 2, 0), (29, .iconst 2, 30, 0, 0), (30, .if_icmp .ne 7, 33, 37, 0), (33, .iconst 1, 34, 0, 0), (34, .goto 13, 37, 47, 0), (37, .iload_n 2, 38, 2, 0), (38, .iconst 3, 39, 0, 0), (39, .if_icmp .ne 7, 42, 46, 0),
  (42, .iconst (-1), 43, 0, 0), (43, .goto 4, 46, 47, 0), (46, .iconst 0, 47, 0, 0), (47, .iadd, 48, 0, 0), (48, .istore 4, 50, 4, 0), (50, .aload_n 0, 51, 0, 0), (51, .iload_n 3, 52, 3, 0), (52, .iload 4, 54, 4, 0),
  (54, .invokevirtual 403, 57, 229, 2), (57, .ifCond .eq 25, 60, 82, 0), (60, .aload_n 0, 61, 0, 0), (61, .iload_n 3, 62, 3, 0), (62, .iload 4, 64, 4, 0), (64, .invokevirtual 331, 67, 227, 2), (67, .iconst 4, 68, 0, 0), (68, .if_icmp .eq 14, 71, 82, 0),
  (71, .aload_n 0, 72, 0, 0), (72, .iload_n 3, 73, 3, 0), (73, .iload 4, 75, 4, 0), (75, .invokevirtual 331, 78, 227, 2), (78, .iconst 5, 79, 0, 0), (79, .if_icmp .ne 5, 82, 84, 0), (82, .iconst (-1), 83, 0, 0), (83, .ireturn, 84, 0, 0),
  (84, .iload_n 3, 85, 3, 0), (85, .iload 4, 87, 4, 0), (87, .iload_n 1, 88, 1, 0), (88, .invokestatic 347, 91, 240, 1), (91, .iload_n 1, 92, 1, 0), (92, .iconst 4, 93, 0, 0), (93, .irem, 94, 0, 0), (94, .invokestatic 337, 97, 222, 4),
  (97, .ireturn, 98, 0, 0)]
set_option maxRecDepth 20000 in
/-- 250: StoneHomeModel.undo()Z -/
def at_X11_undo : List (Nat × am_I) := [(0, .aload_n 0, 1, 0, 0), (1, .getfield 270, 4, 11, 58), (4, .ifCond .ne 5, 7, 9, 0), (7, .iconst 0, 8, 0, 0), (8, .ireturn, 9, 0, 0), (9, .aload_n 0, 10, 0, 0), (10, .dup, 11, 0, 0), (11, .getfield 270, 14, 11, 58),
  (14, .iconst 1, 15, 0, 0), (15, .isub, 16, 0, 0), (16, .putfield 270, 19, 11, 464), (19, .iconst 0, 20, 0, 0), (20, .istore_n 1, 21, 1, 0), (21, .iload_n 1, 22, 1, 0), (22, .bipush 10, 24, 0, 0), (24, .if_icmp .ge 29, 27, 53, 0),
  (27, .aload_n 0, 28, 0, 0), (28, .getfield 125, 31, 11, 53), (31, .iload_n 1, 32, 1, 0), (32, .aload_n 0, 33, 0, 0), (33, .getfield 137, 36, 11, 59), (36, .bipush 10, 38, 0, 0), (38, .aload_n 0, 39, 0, 0), (39, .getfield 270, 42, 11, 58),
  (42, .imul, 43, 0, 0), (43, .iload_n 1, 44, 1, 0), (44, .iadd, 45, 0, 0), (45, .iaload, 46, 0, 0), (46, .iastore, 47, 0, 0), (47, .iinc 1 1, 50, 1, 0), (50, .goto (-29), 53, 21, 0), (53, .iconst 1, 54, 0, 0),
  (54, .ireturn, 55, 0, 0)]
set_option maxRecDepth 20000 in
/-- 251: StoneHomeModel.brings(III)I -/
def at_X11_brings : List (Nat × am_I) := [(0, .iload_n 1, 1, 1, 0), (1, .iconst 0, 2, 0, 0), (2, .aload_n 0, 3, 0, 0), (3, .getfield 55, 6, 11, 26), (6, .aload_n 0, 7, 0, 0), (7, .getfield 248, 10, 11, 18), (10, .iaload, 11, 0, 0), (11, .iconst 1, 12, 0, 0),
  (12, .isub, 13, 0, 0), (13, .invokestatic 353, 16, 230, 3), (16, .ifCond .eq 54, 19, 70, 0), (19, .iload_n 2, 20, 2, 0), (20, .iconst 0, 21, 0, 0), (21, .aload_n 0, 22, 0, 0), (22, .getfield 58, 25, 11, 27), (25, .iconst 4, 26, 0, 0),
  (26, .aload_n 0, 27, 0, 0), (27, .getfield 248, 30, 11, 18), (30, .imul, 31, 0, 0), (31, .iload_n 1, 32, 1, 0), (32, .iadd, 33, 0, 0), (33, .iaload, 34, 0, 0), (34, .iconst 1, 35, 0, 0), (35, .isub, 36, 0, 0),
  (36, .invokestatic 353, 39, 230, 3), (39, .ifCond .eq 31, 42, 70, 0), (42, .iload_n 3, 43, 3, 0), (43, .iconst 0, 44, 0, 0), (44, .iconst 3, 45, 0, 0), (45, .invokestatic 353, 48, 230, 3), (48, .ifCond .eq 22, 51, 70, 0), (51, .aload_n 0, 52, 0, 0),
  (52, .invokevirtual 413, 55, 236, 0), (55, .ifCond .ne 15, 58, 70, 0), (58, .aload_n 0, 59, 0, 0), (59, .aload_n 0, 60, 0, 0), (60, .invokevirtual 399, 63, 221, 0), (63, .iload_n 1, 64, 1, 0), (64, .invokevirtual 372, 67, 237, 2), (67, .ifCond .ne 5, 70, 72, 0),
  (70, .iconst (-1), 71, 0, 0), (71, .ireturn, 72, 0, 0), (72, .aload_n 0, 73, 0, 0), (73, .aload_n 0, 74, 0, 0), (74, .invokevirtual 399, 77, 221, 0), (77, .iload_n 1, 78, 1, 0), (78, .iload_n 2, 79, 2, 0), (79, .aload_n 0, 80, 0, 0),
  (80, .getfield 125, 83, 11, 53), (83, .iconst 5, 84, 0, 0), (84, .iaload, 85, 0, 0), (85, .invokevirtual 369, 88, 239, 4), (88, .istore 4, 90, 4, 0), (90, .iload_n 3, 91, 3, 0), (91, .iconst 3, 92, 0, 0), (92, .if_icmp .ne 16, 95, 108, 0),
  (95, .aload_n 0, 96, 0, 0), (96, .getfield 357, 99, 11, 55), (99, .ifCond .eq 7, 102, 106, 0), (102, .iconst 1, 103, 0, 0), (103, .goto 4, 106, 107, 0), (106, .iconst 0, 107, 0, 0), (107, .ireturn, 108, 0, 0), (108, .iload 4, 110, 4, 0),
  (110, .sipush 384, 113, 0, 0), (113, .if_icmp .ne 8, 116, 121, 0), (116, .bipush (-2), 118, 0, 0), (118, .goto 33, 121, 151, 0), (121, .iload_n 3, 122, 3, 0), (122, .ifCond .ne 11, 125, 133, 0), (125, .iload 4, 127, 4, 0), (127, .invokestatic 325, 130, 225, 1),
  (130, .goto 21, 133, 151, 0), (133, .iload_n 3, 134, 3, 0), (134, .iconst 1, 135, 0, 0), (135, .if_icmp .ne 11, 138, 146, 0), (138, .iload 4, 140, 4, 0), (140, .invokestatic 328, 143, 226, 1), (143, .goto 8, 146, 151, 0), (146, .iload 4, 148, 4, 0),
  (148, .invokestatic 347, 151, 240, 1), (151, .ireturn, 152, 0, 0)]
set_option maxRecDepth 20000 in
/-- 252: StoneHomeModel.can()I -/
def at_X11_can : List (Nat × am_I) := [(0, .iconst 0, 1, 0, 0), (1, .istore_n 1, 2, 1, 0), (2, .iconst 0, 3, 0, 0), (3, .istore_n 2, 4, 2, 0), (4, .iload_n 2, 5, 2, 0), (5, .aload_n 0, 6, 0, 0), (6, .getfield 55, 9, 11, 26), (9, .aload_n 0, 10, 0, 0),
  (10, .getfield 248, 13, 11, 18), (13, .iaload, 14, 0, 0), (14, .if_icmp .ge 34, 17, 48, 0), (17, .aload_n 0, 18, 0, 0), (18, .invokevirtual 413, 21, 236, 0), (21, .ifCond .ne 27, 24, 48, 0), (24, .aload_n 0, 25, 0, 0), (25, .aload_n 0, 26, 0, 0),
  (26, .invokevirtual 399, 29, 221, 0), (29, .iload_n 2, 30, 2, 0), (30, .invokevirtual 372, 33, 237, 2), (33, .ifCond .eq 9, 36, 42, 0), (36, .iload_n 1, 37, 1, 0), (37, .iconst 1, 38, 0, 0), (38, .iload_n 2, 39, 2, 0), (39, .ishl, 40, 0, 0),
  (40, .ior, 41, 0, 0), (41, .istore_n 1, 42, 1, 0), (42, .iinc 2 1, 45, 2, 0), (45, .goto (-41), 48, 4, 0), (48, .iload_n 1, 49, 1, 0), (49, .ireturn, 50, 0, 0)]
set_option maxRecDepth 20000 in
/-- 253: StoneHomeModel.home(IZ)I -/
def at_X11_home : List (Nat × am_I) := [(0, .iload_n 1, 1, 1, 0), (1, .invokestatic 430, 4, 254, 1), (4, .ifCond .ne 5, 7, 9, 0), (7, .iconst (-1), 8, 0, 0), (8, .ireturn, 9, 0, 0), (9, .aload_n 0, 10, 0, 0), (10, .iload_n 1, 11, 1, 0), (11, .invokevirtual 433, 14, 255, 1),
  (14, .aload_n 0, 15, 0, 0), (15, .getfield 131, 18, 11, 56), (18, .aload_n 0, 19, 0, 0), (19, .invokevirtual 399, 22, 221, 0), (22, .iaload, 23, 0, 0), (23, .iload_n 1, 24, 1, 0), (24, .invokestatic 388, 27, 258, 1), (27, .iload_n 2, 28, 2, 0),
  (28, .invokestatic 436, 31, 262, 3), (31, .ireturn, 32, 0, 0)]
set_option maxRecDepth 20000 in
/-- 254: StoneHomeModel.isLong(I)Z -/
def at_X11_isLong : List (Nat × am_I) := [(0, .iload_n 0, 1, 0, 0), (1, .iconst 0, 2, 0, 0), (2, .bipush 10, 4, 0, 0), (4, .invokestatic 353, 7, 230, 3), (7, .ireturn, 8, 0, 0)]
set_option maxRecDepth 20000 in
/-- 255: StoneHomeModel.fills(I)V -/
def at_X11_fills : List (Nat × am_I) := [(0, .aload_n 0, 1, 0, 0), (1, .iload_n 1, 2, 1, 0), (2, .iconst 0, 3, 0, 0), (3, .iconst (-1), 4, 0, 0), (4, .aload_n 0, 5, 0, 0), (5, .getfield 125, 8, 11, 53), (8, .iconst 5, 9, 0, 0), (9, .iaload, 10, 0, 0),
  (10, .invokevirtual 395, 13, 256, 4), (13, .return_, 14, 0, 0)]
set_option maxRecDepth 20000 in
/-- 256: StoneHomeModel.fillsFrom(IIII)V -/
def at_X11_fillsFrom : List (Nat × am_I) := [(0, .iconst 0, 1, 0, 0), (1, .istore 5, 3, 5, 0), (3, .iload 5, 5, 5, 0), (5, .sipush 385, 8, 0, 0), (8, .if_icmp .ge 39, 11, 47, 0), (11, .aload_n 0, 12, 0, 0), (12, .getfield 131, 15, 11, 56), (15, .iload 5, 17, 5, 0),
  (17, .aload_n 0, 18, 0, 0), (18, .iload 5, 20, 5, 0), (20, .invokevirtual 385, 23, 223, 1), (23, .ifCond .eq 16, 26, 39, 0), (26, .aload_n 0, 27, 0, 0), (27, .iload 5, 29, 5, 0), (29, .invokevirtual 379, 32, 257, 1), (32, .ifCond .eq 7, 35, 39, 0),
  (35, .iconst 1, 36, 0, 0), (36, .goto 4, 39, 40, 0), (39, .iconst 0, 40, 0, 0), (40, .iastore, 41, 0, 0), (41, .iinc 5 1, 44, 5, 0), (44, .goto (-41), 47, 3, 0), (47, .iload_n 1, 48, 1, 0), (48, .iconst 1, 49, 0, 0),
  (49, .isub, 50, 0, 0), (50, .istore 5, 52, 5, 0), (52, .iload 5, 54, 5, 0), (54, .iload_n 2, 55, 2, 0), (55, .if_icmp .lt 38, 58, 93, 0), (58, .aload_n 0, 59, 0, 0), (59, .iload_n 3, 60, 3, 0), (60, .iload 4, 62, 4, 0),
  (62, .iload 5, 64, 5, 0), (64, .aload_n 0, 65, 0, 0), (65, .getfield 82, 68, 11, 35), (68, .aload_n 0, 69, 0, 0), (69, .getfield 248, 72, 11, 18), (72, .iaload, 73, 0, 0), (73, .imul, 74, 0, 0), (74, .iadd, 75, 0, 0),
  (75, .iload_n 1, 76, 1, 0), (76, .iconst 1, 77, 0, 0), (77, .isub, 78, 0, 0), (78, .iload 5, 80, 5, 0), (80, .isub, 81, 0, 0), (81, .invokestatic 388, 84, 258, 1), (84, .invokevirtual 391, 87, 259, 3), (87, .iinc 5 (-1), 90, 5, 0),
  (90, .goto (-38), 93, 52, 0), (93, .return_, 94, 0, 0)]
set_option maxRecDepth 20000 in
/-- 257: StoneHomeModel.isSquare(I)Z -/
def at_X11_isSquare : List (Nat × am_I) := [(0, .iload_n 1, 1, 1, 0), (1, .invokestatic 325, 4, 225, 1), (4, .aload_n 0, 5, 0, 0), (5, .getfield 46, 8, 11, 23), (8, .aload_n 0, 9, 0, 0), (9, .getfield 248, 12, 11, 18), (12, .iaload, 13, 0, 0), (13, .if_icmp .ge 57, 16, 70, 0),
  (16, .iload_n 1, 17, 1, 0), (17, .invokestatic 328, 20, 226, 1), (20, .aload_n 0, 21, 0, 0), (21, .getfield 43, 24, 11, 22), (24, .aload_n 0, 25, 0, 0), (25, .getfield 248, 28, 11, 18), (28, .iaload, 29, 0, 0), (29, .if_icmp .ge 41, 32, 70, 0),
  (32, .iload_n 1, 33, 1, 0), (33, .invokestatic 347, 36, 240, 1), (36, .aload_n 0, 37, 0, 0), (37, .getfield 52, 40, 11, 25), (40, .aload_n 0, 41, 0, 0), (41, .getfield 248, 44, 11, 18), (44, .iaload, 45, 0, 0), (45, .if_icmp .ge 25, 48, 70, 0),
  (48, .aload_n 0, 49, 0, 0), (49, .iload_n 1, 50, 1, 0), (50, .invokevirtual 334, 53, 224, 1), (53, .iconst 4, 54, 0, 0), (54, .if_icmp .eq 16, 57, 70, 0), (57, .aload_n 0, 58, 0, 0), (58, .iload_n 1, 59, 1, 0), (59, .invokevirtual 334, 62, 224, 1),
  (62, .iconst 5, 63, 0, 0), (63, .if_icmp .eq 7, 66, 70, 0), (66, .iconst 1, 67, 0, 0), (67, .goto 4, 70, 71, 0), (70, .iconst 0, 71, 0, 0), (71, .ireturn, 72, 0, 0)]
set_option maxRecDepth 20000 in
/-- 258: StoneHomeModel.sixes(I)I -/
def at_X11_sixes : List (Nat × am_I) := [(0, .iconst 1, 1, 0, 0), (1, .istore_n 1, 2, 1, 0), (2, .iconst 0, 3, 0, 0), (3, .istore_n 2, 4, 2, 0), (4, .iload_n 2, 5, 2, 0), (5, .iload_n 0, 6, 0, 0), (6, .if_icmp .ge 14, 9, 20, 0), (9, .iload_n 1, 10, 1, 0),
  (10, .bipush 6, 12, 0, 0), (12, .imul, 13, 0, 0), (13, .istore_n 1, 14, 1, 0), (14, .iinc 2 1, 17, 2, 0), (17, .goto (-13), 20, 4, 0), (20, .iload_n 1, 21, 1, 0), (21, .ireturn, 22, 0, 0)]
set_option maxRecDepth 20000 in
/-- 259: StoneHomeModel.earlier(III)V -/
def at_X11_earlier : List (Nat × am_I) := [(0, .iconst 0, 1, 0, 0), (1, .istore 4, 3, 4, 0), (3, .iload 4, 5, 4, 0), (5, .sipush 384, 8, 0, 0), (8, .if_icmp .ge 101, 11, 109, 0), (11, .aload_n 0, 12, 0, 0), (12, .iload 4, 14, 4, 0), (14, .invokevirtual 379, 17, 257, 1),
  (17, .ifCond .ne 6, 20, 23, 0), (20, .goto 83, 23, 103, 0), (23, .aload_n 0, 24, 0, 0), (24, .iload 4, 26, 4, 0), (26, .invokevirtual 334, 29, 224, 1), (29, .bipush 6, 31, 0, 0), (31, .if_icmp .ne 17, 34, 48, 0), (34, .aload_n 0, 35, 0, 0),
  (35, .getfield 134, 38, 11, 57), (38, .iload 4, 40, 4, 0), (40, .bipush 6, 42, 0, 0), (42, .iload_n 3, 43, 3, 0), (43, .imul, 44, 0, 0), (44, .iastore, 45, 0, 0), (45, .goto 58, 48, 103, 0), (48, .iload_n 1, 49, 1, 0),
  (49, .ifCond .ge 13, 52, 62, 0), (52, .aload_n 0, 53, 0, 0), (53, .iload 4, 55, 4, 0), (55, .iload_n 2, 56, 2, 0), (56, .invokevirtual 382, 59, 260, 2), (59, .goto 26, 62, 85, 0), (62, .aload_n 0, 63, 0, 0), (63, .iload 4, 65, 4, 0),
  (65, .iload_n 1, 66, 1, 0), (66, .invokevirtual 372, 69, 237, 2), (69, .ifCond .eq 7, 72, 76, 0), (72, .iload_n 1, 73, 1, 0), (73, .goto 12, 76, 85, 0), (76, .aload_n 0, 77, 0, 0), (77, .getfield 55, 80, 11, 26), (80, .aload_n 0, 81, 0, 0),
  (81, .getfield 248, 84, 11, 18), (84, .iaload, 85, 0, 0), (85, .istore 5, 87, 5, 0), (87, .aload_n 0, 88, 0, 0), (88, .getfield 134, 91, 11, 57), (91, .iload 4, 93, 4, 0), (93, .aload_n 0, 94, 0, 0), (94, .iload 4, 96, 4, 0),
  (96, .iload 5, 98, 5, 0), (98, .iload_n 2, 99, 2, 0), (99, .invokevirtual 376, 102, 261, 3), (102, .iastore, 103, 0, 0), (103, .iinc 4 1, 106, 4, 0), (106, .goto (-103), 109, 3, 0), (109, .iconst 0, 110, 0, 0), (110, .istore 4, 112, 4, 0),
  (112, .iload 4, 114, 4, 0), (114, .sipush 384, 117, 0, 0), (117, .if_icmp .ge 23, 120, 140, 0), (120, .aload_n 0, 121, 0, 0), (121, .getfield 131, 124, 11, 56), (124, .iload 4, 126, 4, 0), (126, .aload_n 0, 127, 0, 0), (127, .getfield 134, 130, 11, 57),
  (130, .iload 4, 132, 4, 0), (132, .iaload, 133, 0, 0), (133, .iastore, 134, 0, 0), (134, .iinc 4 1, 137, 4, 0), (137, .goto (-25), 140, 112, 0), (140, .aload_n 0, 141, 0, 0), (141, .getfield 131, 144, 11, 56), (144, .sipush 384, 147, 0, 0),
  (147, .iconst 0, 148, 0, 0), (148, .iastore, 149, 0, 0), (149, .return_, 150, 0, 0)]
set_option maxRecDepth 20000 in
/-- 260: StoneHomeModel.bestOf(II)I -/
def at_X11_bestOf : List (Nat × am_I) := [(0, .iconst (-1), 1, 0, 0), (1, .istore_n 3, 2, 3, 0), (2, .iconst (-1), 3, 0, 0), (3, .istore 4, 5, 4, 0), (5, .iconst 0, 6, 0, 0), (6, .istore 5, 8, 5, 0), (8, .iload 5, 10, 5, 0), (10, .aload_n 0, 11, 0, 0),
  (11, .getfield 55, 14, 11, 26), (14, .aload_n 0, 15, 0, 0), (15, .getfield 248, 18, 11, 18), (18, .iaload, 19, 0, 0), (19, .if_icmp .gt 63, 22, 82, 0), (22, .iload 5, 24, 5, 0), (24, .aload_n 0, 25, 0, 0), (25, .getfield 55, 28, 11, 26),
  (28, .aload_n 0, 29, 0, 0), (29, .getfield 248, 32, 11, 18), (32, .iaload, 33, 0, 0), (33, .if_icmp .ge 16, 36, 49, 0), (36, .aload_n 0, 37, 0, 0), (37, .iload_n 1, 38, 1, 0), (38, .iload 5, 40, 5, 0), (40, .invokevirtual 372, 43, 237, 2),
  (43, .ifCond .ne 6, 46, 49, 0), (46, .goto 30, 49, 76, 0), (49, .aload_n 0, 50, 0, 0), (50, .iload_n 1, 51, 1, 0), (51, .iload 5, 53, 5, 0), (53, .iload_n 2, 54, 2, 0), (54, .invokevirtual 376, 57, 261, 3), (57, .istore 6, 59, 6, 0),
  (59, .iload 6, 61, 6, 0), (61, .iload 4, 63, 4, 0), (63, .if_icmp .gt 6, 66, 69, 0), (66, .goto 10, 69, 76, 0), (69, .iload 6, 71, 6, 0), (71, .istore 4, 73, 4, 0), (73, .iload 5, 75, 5, 0), (75, .istore_n 3, 76, 3, 0),
  (76, .iinc 5 1, 79, 5, 0), (79, .goto (-71), 82, 8, 0), (82, .iload_n 3, 83, 3, 0), (83, .ireturn, 84, 0, 0)]
set_option maxRecDepth 20000 in
/-- 261: StoneHomeModel.valueOf(III)I -/
def at_X11_valueOf : List (Nat × am_I) := [(0, .iload_n 2, 1, 2, 0), (1, .aload_n 0, 2, 0, 0), (2, .getfield 55, 5, 11, 26), (5, .aload_n 0, 6, 0, 0), (6, .getfield 248, 9, 11, 18), (9, .iaload, 10, 0, 0), (10, .if_icmp .ne 18, 13, 28, 0), (13, .bipush 6, 15, 0, 0),
  (15, .aload_n 0, 16, 0, 0), (16, .getfield 131, 19, 11, 56), (19, .aload_n 0, 20, 0, 0), (20, .iload_n 1, 21, 1, 0), (21, .iload_n 3, 22, 3, 0), (22, .invokevirtual 366, 25, 247, 2), (25, .iaload, 26, 0, 0), (26, .imul, 27, 0, 0),
  (27, .ireturn, 28, 0, 0), (28, .iconst 0, 29, 0, 0), (29, .istore 4, 31, 4, 0), (31, .iconst 0, 32, 0, 0), (32, .istore 5, 34, 5, 0), (34, .iload 5, 36, 5, 0), (36, .aload_n 0, 37, 0, 0), (37, .getfield 58, 40, 11, 27),
  (40, .iconst 4, 41, 0, 0), (41, .aload_n 0, 42, 0, 0), (42, .getfield 248, 45, 11, 18), (45, .imul, 46, 0, 0), (46, .iload_n 2, 47, 2, 0), (47, .iadd, 48, 0, 0), (48, .iaload, 49, 0, 0), (49, .if_icmp .ge 48, 52, 97, 0),
  (52, .iload 4, 54, 4, 0), (54, .aload_n 0, 55, 0, 0), (55, .getfield 61, 58, 11, 28), (58, .bipush 6, 60, 0, 0), (60, .iconst 4, 61, 0, 0), (61, .aload_n 0, 62, 0, 0), (62, .getfield 248, 65, 11, 18), (65, .imul, 66, 0, 0),
  (66, .iload_n 2, 67, 2, 0), (67, .iadd, 68, 0, 0), (68, .imul, 69, 0, 0), (69, .iload 5, 71, 5, 0), (71, .iadd, 72, 0, 0), (72, .iaload, 73, 0, 0), (73, .aload_n 0, 74, 0, 0), (74, .getfield 131, 77, 11, 56),
  (77, .aload_n 0, 78, 0, 0), (78, .iload_n 1, 79, 1, 0), (79, .iload_n 2, 80, 2, 0), (80, .iload 5, 82, 5, 0), (82, .iload_n 3, 83, 3, 0), (83, .invokevirtual 369, 86, 239, 4), (86, .iaload, 87, 0, 0), (87, .imul, 88, 0, 0),
  (88, .iadd, 89, 0, 0), (89, .istore 4, 91, 4, 0), (91, .iinc 5 1, 94, 5, 0), (94, .goto (-60), 97, 34, 0), (97, .iload 4, 99, 4, 0), (99, .ireturn, 100, 0, 0)]
set_option maxRecDepth 20000 in
/-- 262: StoneHomeModel.lineOf(IIZ)I -/
def at_X11_lineOf : List (Nat × am_I) := [(0, .iload_n 0, 1, 0, 0), (1, .iload_n 1, 2, 1, 0), (2, .invokestatic 427, 5, 263, 2), (5, .istore_n 3, 6, 3, 0), (6, .iload_n 2, 7, 2, 0), (7, .ifCond .eq 7, 10, 14, 0), (10, .iload_n 1, 11, 1, 0), (11, .goto 4, 14, 15, 0),
  (14, .iload_n 0, 15, 0, 0), (15, .iload_n 3, 16, 3, 0), (16, .idiv, 17, 0, 0), (17, .ireturn, 18, 0, 0)]
set_option maxRecDepth 20000 in
/-- 263: StoneHomeModel.common(II)I -/
def at_X11_common : List (Nat × am_I) := [(0, .iload_n 0, 1, 0, 0), (1, .istore_n 2, 2, 2, 0), (2, .iload_n 1, 3, 1, 0), (3, .istore_n 3, 4, 3, 0), (4, .iload_n 3, 5, 3, 0), (5, .ifCond .eq 16, 8, 21, 0), (8, .iload_n 2, 9, 2, 0), (9, .iload_n 3, 10, 3, 0),
  (10, .irem, 11, 0, 0), (11, .istore 4, 13, 4, 0), (13, .iload_n 3, 14, 3, 0), (14, .istore_n 2, 15, 2, 0), (15, .iload 4, 17, 4, 0), (17, .istore_n 3, 18, 3, 0), (18, .goto (-14), 21, 4, 0), (21, .iload_n 2, 22, 2, 0),
  (22, .ireturn, 23, 0, 0)]
set_option maxRecDepth 20000 in
/-- 264: StoneHomeModel.best(I)I -/
def at_X11_best : List (Nat × am_I) := [(0, .iload_n 1, 1, 1, 0), (1, .iconst 1, 2, 0, 0), (2, .bipush 10, 4, 0, 0), (4, .invokestatic 353, 7, 230, 3), (7, .ifCond .ne 5, 10, 12, 0), (10, .iconst (-1), 11, 0, 0), (11, .ireturn, 12, 0, 0), (12, .aload_n 0, 13, 0, 0),
  (13, .invokevirtual 413, 16, 236, 0), (16, .ifCond .eq 6, 19, 22, 0), (19, .bipush (-2), 21, 0, 0), (21, .ireturn, 22, 0, 0), (22, .aload_n 0, 23, 0, 0), (23, .iload_n 1, 24, 1, 0), (24, .iconst 1, 25, 0, 0), (25, .iconst (-1), 26, 0, 0),
  (26, .aload_n 0, 27, 0, 0), (27, .getfield 125, 30, 11, 53), (30, .iconst 5, 31, 0, 0), (31, .iaload, 32, 0, 0), (32, .invokevirtual 395, 35, 256, 4), (35, .aload_n 0, 36, 0, 0), (36, .aload_n 0, 37, 0, 0), (37, .invokevirtual 399, 40, 221, 0),
  (40, .aload_n 0, 41, 0, 0), (41, .getfield 125, 44, 11, 53), (44, .iconst 5, 45, 0, 0), (45, .iaload, 46, 0, 0), (46, .invokevirtual 382, 49, 260, 2), (49, .ireturn, 50, 0, 0)]
set_option maxRecDepth 20000 in
/-- 265: StoneHomeModel.sure(I)I -/
def at_X11_sure : List (Nat × am_I) := [(0, .iload_n 1, 1, 1, 0), (1, .invokestatic 430, 4, 254, 1), (4, .ifCond .ne 5, 7, 9, 0), (7, .iconst (-1), 8, 0, 0), (8, .ireturn, 9, 0, 0), (9, .aload_n 0, 10, 0, 0), (10, .iload_n 1, 11, 1, 0), (11, .invokevirtual 433, 14, 255, 1),
  (14, .aload_n 0, 15, 0, 0), (15, .getfield 131, 18, 11, 56), (18, .aload_n 0, 19, 0, 0), (19, .invokevirtual 399, 22, 221, 0), (22, .iaload, 23, 0, 0), (23, .iload_n 1, 24, 1, 0), (24, .invokestatic 388, 27, 258, 1), (27, .if_icmp .ne 7, 30, 34, 0),
  (30, .iconst 1, 31, 0, 0), (31, .goto 4, 34, 35, 0), (34, .iconst 0, 35, 0, 0), (35, .ireturn, 36, 0, 0)]
set_option maxRecDepth 20000 in
/-- 266: StoneHomeModel.least(I)I -/
def at_X11_least : List (Nat × am_I) := [(0, .iload_n 1, 1, 1, 0), (1, .iconst 0, 2, 0, 0), (2, .bipush 100, 4, 0, 0), (4, .invokestatic 353, 7, 230, 3), (7, .ifCond .ne 5, 10, 12, 0), (10, .iconst (-1), 11, 0, 0), (11, .ireturn, 12, 0, 0), (12, .iconst 0, 13, 0, 0),
  (13, .istore_n 2, 14, 2, 0), (14, .iload_n 2, 15, 2, 0), (15, .bipush 10, 17, 0, 0), (17, .if_icmp .gt 44, 20, 61, 0), (20, .aload_n 0, 21, 0, 0), (21, .iload_n 2, 22, 2, 0), (22, .invokevirtual 433, 25, 255, 1), (25, .ldc2_w 440, 28, 0, 100),
  (28, .aload_n 0, 29, 0, 0), (29, .getfield 131, 32, 11, 56), (32, .aload_n 0, 33, 0, 0), (33, .invokevirtual 399, 36, 221, 0), (36, .iaload, 37, 0, 0), (37, .i2l, 38, 0, 0), (38, .lmul, 39, 0, 0), (39, .lstore_n 3, 40, 3, 0),
  (40, .lload_n 3, 41, 3, 0), (41, .iload_n 1, 42, 1, 0), (42, .i2l, 43, 0, 0), (43, .iload_n 2, 44, 2, 0), (44, .invokestatic 388, 47, 258, 1), (47, .i2l, 48, 0, 0), (48, .lmul, 49, 0, 0), (49, .lcmp, 50, 0, 0),
  (50, .ifCond .lt 5, 53, 55, 0), (53, .iload_n 2, 54, 2, 0), (54, .ireturn, 55, 0, 0), (55, .iinc 2 1, 58, 2, 0), (58, .goto (-44), 61, 14, 0), (61, .bipush (-2), 63, 0, 0), (63, .ireturn, 64, 0, 0)]
set_option maxRecDepth 20000 in
/-- 267: StoneHomeModel.rule(IIZ)I -/
def at_X11_rule : List (Nat × am_I) := [(0, .aload_n 0, 1, 0, 0), (1, .iload_n 1, 2, 1, 0), (2, .iload_n 2, 3, 2, 0), (3, .invokevirtual 442, 6, 268, 2), (6, .ifCond .ne 5, 9, 11, 0), (9, .iconst (-1), 10, 0, 0), (10, .ireturn, 11, 0, 0), (11, .aload_n 0, 12, 0, 0),
  (12, .iload_n 2, 13, 2, 0), (13, .iconst 0, 14, 0, 0), (14, .iload_n 1, 15, 1, 0), (15, .aload_n 0, 16, 0, 0), (16, .getfield 125, 19, 11, 53), (19, .iconst 5, 20, 0, 0), (20, .iaload, 21, 0, 0), (21, .invokevirtual 395, 24, 256, 4),
  (24, .aload_n 0, 25, 0, 0), (25, .getfield 131, 28, 11, 56), (28, .aload_n 0, 29, 0, 0), (29, .invokevirtual 399, 32, 221, 0), (32, .iaload, 33, 0, 0), (33, .iload_n 2, 34, 2, 0), (34, .invokestatic 388, 37, 258, 1), (37, .iload_n 3, 38, 3, 0),
  (38, .invokestatic 436, 41, 262, 3), (41, .ireturn, 42, 0, 0)]
set_option maxRecDepth 20000 in
/-- 268: StoneHomeModel.isRule(II)Z -/
def at_X11_isRule : List (Nat × am_I) := [(0, .iload_n 1, 1, 1, 0), (1, .iconst 0, 2, 0, 0), (2, .aload_n 0, 3, 0, 0), (3, .getfield 55, 6, 11, 26), (6, .aload_n 0, 7, 0, 0), (7, .getfield 248, 10, 11, 18), (10, .iaload, 11, 0, 0), (11, .iconst 1, 12, 0, 0),
  (12, .isub, 13, 0, 0), (13, .invokestatic 353, 16, 230, 3), (16, .ifCond .eq 14, 19, 30, 0), (19, .iload_n 2, 20, 2, 0), (20, .invokestatic 430, 23, 254, 1), (23, .ifCond .eq 7, 26, 30, 0), (26, .iconst 1, 27, 0, 0), (27, .goto 4, 30, 31, 0),
  (30, .iconst 0, 31, 0, 0), (31, .ireturn, 32, 0, 0)]
set_option maxRecDepth 20000 in
/-- 269: StoneHomeModel.comes(IIIIZ)I -/
def at_X11_comes : List (Nat × am_I) := [(0, .aload_n 0, 1, 0, 0), (1, .iload_n 1, 2, 1, 0), (2, .iload_n 2, 3, 2, 0), (3, .invokevirtual 442, 6, 268, 2), (6, .ifCond .eq 13, 9, 19, 0), (9, .aload_n 0, 10, 0, 0), (10, .iload_n 3, 11, 3, 0), (11, .iload 4, 13, 4, 0),
  (13, .invokevirtual 403, 16, 229, 2), (16, .ifCond .ne 5, 19, 21, 0), (19, .iconst (-1), 20, 0, 0), (20, .ireturn, 21, 0, 0), (21, .aload_n 0, 22, 0, 0), (22, .iload_n 1, 23, 1, 0), (23, .iload_n 2, 24, 2, 0), (24, .invokevirtual 448, 27, 270, 2),
  (27, .iconst 0, 28, 0, 0), (28, .istore 6, 30, 6, 0), (30, .iconst 0, 31, 0, 0), (31, .istore 7, 33, 7, 0), (33, .iload 7, 35, 7, 0), (35, .bipush 12, 37, 0, 0), (37, .if_icmp .ge 30, 40, 67, 0), (40, .iload 6, 42, 6, 0),
  (42, .aload_n 0, 43, 0, 0), (43, .getfield 131, 46, 11, 56), (46, .iload_n 3, 47, 3, 0), (47, .iload 4, 49, 4, 0), (49, .iconst 0, 50, 0, 0), (50, .iconst 0, 51, 0, 0), (51, .invokestatic 337, 54, 222, 4), (54, .iload 7, 56, 7, 0),
  (56, .iadd, 57, 0, 0), (57, .iaload, 58, 0, 0), (58, .iadd, 59, 0, 0), (59, .istore 6, 61, 6, 0), (61, .iinc 7 1, 64, 7, 0), (64, .goto (-31), 67, 33, 0), (67, .iload 6, 69, 6, 0), (69, .iload_n 2, 70, 2, 0),
  (70, .invokestatic 388, 73, 258, 1), (73, .iload 5, 75, 5, 0), (75, .invokestatic 436, 78, 262, 3), (78, .ireturn, 79, 0, 0)]
set_option maxRecDepth 20000 in
/-- 270: StoneHomeModel.spreads(II)V -/
def at_X11_spreads : List (Nat × am_I) := [(0, .iconst 0, 1, 0, 0), (1, .istore_n 3, 2, 3, 0), (2, .iload_n 3, 3, 3, 0), (3, .sipush 385, 6, 0, 0), (6, .if_icmp .ge 16, 9, 22, 0), (9, .aload_n 0, 10, 0, 0), (10, .getfield 131, 13, 11, 56), (13, .iload_n 3, 14, 3, 0),
  (14, .iconst 0, 15, 0, 0), (15, .iastore, 16, 0, 0), (16, .iinc 3 1, 19, 3, 0), (19, .goto (-17), 22, 2, 0), (22, .aload_n 0, 23, 0, 0), (23, .getfield 131, 26, 11, 56), (26, .aload_n 0, 27, 0, 0), (27, .invokevirtual 399, 30, 221, 0),
  (30, .iconst 1, 31, 0, 0), (31, .iastore, 32, 0, 0), (32, .iconst 0, 33, 0, 0), (33, .istore_n 3, 34, 3, 0), (34, .iload_n 3, 35, 3, 0), (35, .iload_n 2, 36, 2, 0), (36, .if_icmp .ge 121, 39, 157, 0), (39, .aload_n 0, 40, 0, 0),
  (40, .getfield 125, 43, 11, 53), (43, .iconst 5, 44, 0, 0), (44, .iaload, 45, 0, 0), (45, .iload_n 3, 46, 3, 0), (46, .aload_n 0, 47, 0, 0), (47, .getfield 82, 50, 11, 35), (50, .aload_n 0, 51, 0, 0), (51, .getfield 248, 54, 11, 18),
  (54, .iaload, 55, 0, 0), (55, .imul, 56, 0, 0), (56, .iadd, 57, 0, 0), (57, .istore 4, 59, 4, 0), (59, .iconst 0, 60, 0, 0), (60, .istore 5, 62, 5, 0), (62, .iload 5, 64, 5, 0), (64, .sipush 385, 67, 0, 0),
  (67, .if_icmp .ge 17, 70, 84, 0), (70, .aload_n 0, 71, 0, 0), (71, .getfield 134, 74, 11, 57), (74, .iload 5, 76, 5, 0), (76, .iconst 0, 77, 0, 0), (77, .iastore, 78, 0, 0), (78, .iinc 5 1, 81, 5, 0), (81, .goto (-19), 84, 62, 0),
  (84, .iconst 0, 85, 0, 0), (85, .istore 5, 87, 5, 0), (87, .iload 5, 89, 5, 0), (89, .sipush 385, 92, 0, 0), (92, .if_icmp .ge 28, 95, 120, 0), (95, .aload_n 0, 96, 0, 0), (96, .getfield 131, 99, 11, 56), (99, .iload 5, 101, 5, 0),
  (101, .iaload, 102, 0, 0), (102, .ifCond .le 12, 105, 114, 0), (105, .aload_n 0, 106, 0, 0), (106, .iload 5, 108, 5, 0), (108, .iload_n 1, 109, 1, 0), (109, .iload 4, 111, 4, 0), (111, .invokevirtual 445, 114, 271, 3), (114, .iinc 5 1, 117, 5, 0),
  (117, .goto (-30), 120, 87, 0), (120, .iconst 0, 121, 0, 0), (121, .istore 5, 123, 5, 0), (123, .iload 5, 125, 5, 0), (125, .sipush 385, 128, 0, 0), (128, .if_icmp .ge 23, 131, 151, 0), (131, .aload_n 0, 132, 0, 0), (132, .getfield 131, 135, 11, 56),
  (135, .iload 5, 137, 5, 0), (137, .aload_n 0, 138, 0, 0), (138, .getfield 134, 141, 11, 57), (141, .iload 5, 143, 5, 0), (143, .iaload, 144, 0, 0), (144, .iastore, 145, 0, 0), (145, .iinc 5 1, 148, 5, 0), (148, .goto (-25), 151, 123, 0),
  (151, .iinc 3 1, 154, 3, 0), (154, .goto (-120), 157, 34, 0), (157, .return_, 158, 0, 0)]
set_option maxRecDepth 20000 in
/-- 271: StoneHomeModel.spreadsOne(III)V -/
def at_X11_spreadsOne : List (Nat × am_I) := [(0, .iload_n 1, 1, 1, 0), (1, .sipush 384, 4, 0, 0), (4, .if_icmp .eq 13, 7, 17, 0), (7, .aload_n 0, 8, 0, 0), (8, .iload_n 1, 9, 1, 0), (9, .invokevirtual 334, 12, 224, 1), (12, .bipush 6, 14, 0, 0), (14, .if_icmp .ne 24, 17, 38, 0),
  (17, .aload_n 0, 18, 0, 0), (18, .getfield 134, 21, 11, 57), (21, .iload_n 1, 22, 1, 0), (22, .dup2, 23, 0, 0), (23, .iaload, 24, 0, 0), (24, .bipush 6, 26, 0, 0), (26, .aload_n 0, 27, 0, 0), (27, .getfield 131, 30, 11, 56),
  (30, .iload_n 1, 31, 1, 0), (31, .iaload, 32, 0, 0), (32, .imul, 33, 0, 0), (33, .iadd, 34, 0, 0), (34, .iastore, 35, 0, 0), (35, .goto 108, 38, 143, 0), (38, .aload_n 0, 39, 0, 0), (39, .iload_n 1, 40, 1, 0),
  (40, .iload_n 2, 41, 2, 0), (41, .invokevirtual 372, 44, 237, 2), (44, .ifCond .ne 29, 47, 73, 0), (47, .aload_n 0, 48, 0, 0), (48, .getfield 134, 51, 11, 57), (51, .aload_n 0, 52, 0, 0), (52, .iload_n 1, 53, 1, 0), (53, .iload_n 3, 54, 3, 0),
  (54, .invokevirtual 366, 57, 247, 2), (57, .dup2, 58, 0, 0), (58, .iaload, 59, 0, 0), (59, .bipush 6, 61, 0, 0), (61, .aload_n 0, 62, 0, 0), (62, .getfield 131, 65, 11, 56), (65, .iload_n 1, 66, 1, 0), (66, .iaload, 67, 0, 0),
  (67, .imul, 68, 0, 0), (68, .iadd, 69, 0, 0), (69, .iastore, 70, 0, 0), (70, .goto 73, 73, 143, 0), (73, .iconst 0, 74, 0, 0), (74, .istore 4, 76, 4, 0), (76, .iload 4, 78, 4, 0), (78, .aload_n 0, 79, 0, 0),
  (79, .getfield 58, 82, 11, 27), (82, .iconst 4, 83, 0, 0), (83, .aload_n 0, 84, 0, 0), (84, .getfield 248, 87, 11, 18), (87, .imul, 88, 0, 0), (88, .iload_n 2, 89, 2, 0), (89, .iadd, 90, 0, 0), (90, .iaload, 91, 0, 0),
  (91, .if_icmp .ge 52, 94, 143, 0), (94, .aload_n 0, 95, 0, 0), (95, .getfield 134, 98, 11, 57), (98, .aload_n 0, 99, 0, 0), (99, .iload_n 1, 100, 1, 0), (100, .iload_n 2, 101, 2, 0), (101, .iload 4, 103, 4, 0), (103, .iload_n 3, 104, 3, 0),
  (104, .invokevirtual 369, 107, 239, 4), (107, .dup2, 108, 0, 0), (108, .iaload, 109, 0, 0), (109, .aload_n 0, 110, 0, 0), (110, .getfield 61, 113, 11, 28), (113, .bipush 6, 115, 0, 0), (115, .iconst 4, 116, 0, 0), (116, .aload_n 0, 117, 0, 0),
  (117, .getfield 248, 120, 11, 18), (120, .imul, 121, 0, 0), (121, .iload_n 2, 122, 2, 0), (122, .iadd, 123, 0, 0), (123, .imul, 124, 0, 0), (124, .iload 4, 126, 4, 0), (126, .iadd, 127, 0, 0), (127, .iaload, 128, 0, 0),
  (128, .aload_n 0, 129, 0, 0), (129, .getfield 131, 132, 11, 56), (132, .iload_n 1, 133, 1, 0), (133, .iaload, 134, 0, 0), (134, .imul, 135, 0, 0), (135, .iadd, 136, 0, 0), (136, .iastore, 137, 0, 0), (137, .iinc 4 1, 140, 4, 0),
  (140, .goto (-64), 143, 76, 0), (143, .return_, 144, 0, 0)]
set_option maxRecDepth 20000 in
/-- 272: StoneHomeModel.worth(IZZ)I -/
def at_X11_worth : List (Nat × am_I) := [(0, .iload_n 1, 1, 1, 0), (1, .invokestatic 430, 4, 254, 1), (4, .ifCond .ne 5, 7, 9, 0), (7, .iconst (-1), 8, 0, 0), (8, .ireturn, 9, 0, 0), (9, .aload_n 0, 10, 0, 0), (10, .iload_n 1, 11, 1, 0), (11, .invokevirtual 433, 14, 255, 1),
  (14, .aload_n 0, 15, 0, 0), (15, .invokevirtual 413, 18, 236, 0), (18, .ifCond .eq 10, 21, 28, 0), (21, .iconst 0, 22, 0, 0), (22, .iconst 1, 23, 0, 0), (23, .iload_n 3, 24, 3, 0), (24, .invokestatic 436, 27, 262, 3), (27, .ireturn, 28, 0, 0),
  (28, .aload_n 0, 29, 0, 0), (29, .invokevirtual 399, 32, 221, 0), (32, .istore 4, 34, 4, 0), (34, .iload_n 2, 35, 2, 0), (35, .ifCond .eq 15, 38, 50, 0), (38, .aload_n 0, 39, 0, 0), (39, .getfield 131, 42, 11, 56), (42, .iload 4, 44, 4, 0),
  (44, .iconst 1, 45, 0, 0), (45, .iadd, 46, 0, 0), (46, .iaload, 47, 0, 0), (47, .goto 10, 50, 57, 0), (50, .aload_n 0, 51, 0, 0), (51, .getfield 131, 54, 11, 56), (54, .iload 4, 56, 4, 0), (56, .iaload, 57, 0, 0),
  (57, .istore 5, 59, 5, 0), (59, .iconst 0, 60, 0, 0), (60, .istore 6, 62, 6, 0), (62, .iload 6, 64, 6, 0), (64, .iconst 4, 65, 0, 0), (65, .if_icmp .ge 49, 68, 114, 0), (68, .iload_n 2, 69, 2, 0), (69, .ifCond .ne 45, 72, 114, 0),
  (72, .aload_n 0, 73, 0, 0), (73, .iload 4, 75, 4, 0), (75, .iload 6, 77, 6, 0), (77, .invokevirtual 424, 80, 249, 2), (80, .istore 7, 82, 7, 0), (82, .iload 7, 84, 7, 0), (84, .ifCond .lt 24, 87, 108, 0), (87, .aload_n 0, 88, 0, 0),
  (88, .getfield 131, 91, 11, 56), (91, .iload 7, 93, 7, 0), (93, .iaload, 94, 0, 0), (94, .iload 5, 96, 5, 0), (96, .if_icmp .le 12, 99, 108, 0), (99, .aload_n 0, 100, 0, 0), (100, .getfield 131, 103, 11, 56), (103, .iload 7, 105, 7, 0),
  (105, .iaload, 106, 0, 0), (106, .istore 5, 108, 5, 0), (108, .iinc 6 1, 111, 6, 0), (111, .goto (-49), 114, 62, 0), (114, .iload 5, 116, 5, 0), (116, .aload_n 0, 117, 0, 0), (117, .getfield 131, 120, 11, 56), (120, .iload 4, 122, 4, 0),
  (122, .iaload, 123, 0, 0), (123, .isub, 124, 0, 0), (124, .iload_n 1, 125, 1, 0), (125, .invokestatic 388, 128, 258, 1), (128, .iload_n 3, 129, 3, 0), (129, .invokestatic 436, 132, 262, 3), (132, .ireturn, 133, 0, 0)]
set_option maxRecDepth 20000 in
/-- 273: StoneHomeModel.face(I)I -/
def at_X11_face : List (Nat × am_I) := [(0, .iload_n 1, 1, 1, 0), (1, .invokestatic 430, 4, 254, 1), (4, .ifCond .ne 5, 7, 9, 0), (7, .iconst (-1), 8, 0, 0), (8, .ireturn, 9, 0, 0), (9, .aload_n 0, 10, 0, 0), (10, .invokevirtual 413, 13, 236, 0), (13, .ifCond .eq 6, 16, 19, 0),
  (16, .bipush (-2), 18, 0, 0), (18, .ireturn, 19, 0, 0), (19, .aload_n 0, 20, 0, 0), (20, .iload_n 1, 21, 1, 0), (21, .invokevirtual 433, 24, 255, 1), (24, .iconst 0, 25, 0, 0), (25, .istore_n 2, 26, 2, 0), (26, .aload_n 0, 27, 0, 0),
  (27, .getfield 125, 30, 11, 53), (30, .iconst 0, 31, 0, 0), (31, .iaload, 32, 0, 0), (32, .aload_n 0, 33, 0, 0), (33, .getfield 125, 36, 11, 53), (36, .iconst 1, 37, 0, 0), (37, .iaload, 38, 0, 0), (38, .iconst 0, 39, 0, 0),
  (39, .aload_n 0, 40, 0, 0), (40, .getfield 125, 43, 11, 53), (43, .iconst 3, 44, 0, 0), (44, .iaload, 45, 0, 0), (45, .invokestatic 337, 48, 222, 4), (48, .istore_n 3, 49, 3, 0), (49, .iconst 1, 50, 0, 0), (50, .istore 4, 52, 4, 0),
  (52, .iload 4, 54, 4, 0), (54, .aload_n 0, 55, 0, 0), (55, .getfield 52, 58, 11, 25), (58, .aload_n 0, 59, 0, 0), (59, .getfield 248, 62, 11, 18), (62, .iaload, 63, 0, 0), (63, .if_icmp .ge 36, 66, 99, 0), (66, .aload_n 0, 67, 0, 0),
  (67, .getfield 131, 70, 11, 56), (70, .iload_n 3, 71, 3, 0), (71, .iconst 4, 72, 0, 0), (72, .iload 4, 74, 4, 0), (74, .imul, 75, 0, 0), (75, .iadd, 76, 0, 0), (76, .iaload, 77, 0, 0), (77, .aload_n 0, 78, 0, 0),
  (78, .getfield 131, 81, 11, 56), (81, .iload_n 3, 82, 3, 0), (82, .iconst 4, 83, 0, 0), (83, .iload_n 2, 84, 2, 0), (84, .imul, 85, 0, 0), (85, .iadd, 86, 0, 0), (86, .iaload, 87, 0, 0), (87, .if_icmp .le 6, 90, 93, 0),
  (90, .iload 4, 92, 4, 0), (92, .istore_n 2, 93, 2, 0), (93, .iinc 4 1, 96, 4, 0), (96, .goto (-44), 99, 52, 0), (99, .iload_n 2, 100, 2, 0), (100, .ireturn, 101, 0, 0)]
set_option maxRecDepth 20000 in
/-- 274: StoneHomeModel.side(I)I -/
def at_X11_side : List (Nat × am_I) := [(0, .iload_n 1, 1, 1, 0), (1, .invokestatic 430, 4, 254, 1), (4, .ifCond .ne 5, 7, 9, 0), (7, .iconst (-1), 8, 0, 0), (8, .ireturn, 9, 0, 0), (9, .aload_n 0, 10, 0, 0), (10, .invokevirtual 413, 13, 236, 0), (13, .ifCond .eq 6, 16, 19, 0),
  (16, .bipush (-2), 18, 0, 0), (18, .ireturn, 19, 0, 0), (19, .aload_n 0, 20, 0, 0), (20, .iload_n 1, 21, 1, 0), (21, .invokevirtual 433, 24, 255, 1), (24, .bipush (-2), 26, 0, 0), (26, .istore_n 2, 27, 2, 0), (27, .iconst 0, 28, 0, 0),
  (28, .istore_n 3, 29, 3, 0), (29, .iload_n 3, 30, 3, 0), (30, .aload_n 0, 31, 0, 0), (31, .getfield 43, 34, 11, 22), (34, .aload_n 0, 35, 0, 0), (35, .getfield 248, 38, 11, 18), (38, .iaload, 39, 0, 0), (39, .if_icmp .ge 100, 42, 139, 0),
  (42, .aload_n 0, 43, 0, 0), (43, .aload_n 0, 44, 0, 0), (44, .getfield 125, 47, 11, 53), (47, .iconst 0, 48, 0, 0), (48, .iaload, 49, 0, 0), (49, .iload_n 3, 50, 3, 0), (50, .invokevirtual 331, 53, 227, 2), (53, .istore 4, 55, 4, 0),
  (55, .iload 4, 57, 4, 0), (57, .iconst 4, 58, 0, 0), (58, .if_icmp .eq 75, 61, 133, 0), (61, .iload 4, 63, 4, 0), (63, .iconst 5, 64, 0, 0), (64, .if_icmp .ne 6, 67, 70, 0), (67, .goto 66, 70, 133, 0), (70, .iload_n 2, 71, 2, 0),
  (71, .ifCond .lt 60, 74, 131, 0), (74, .aload_n 0, 75, 0, 0), (75, .getfield 131, 78, 11, 56), (78, .aload_n 0, 79, 0, 0), (79, .getfield 125, 82, 11, 53), (82, .iconst 0, 83, 0, 0), (83, .iaload, 84, 0, 0), (84, .iload_n 3, 85, 3, 0),
  (85, .aload_n 0, 86, 0, 0), (86, .getfield 125, 89, 11, 53), (89, .iconst 2, 90, 0, 0), (90, .iaload, 91, 0, 0), (91, .aload_n 0, 92, 0, 0), (92, .getfield 125, 95, 11, 53), (95, .iconst 3, 96, 0, 0), (96, .iaload, 97, 0, 0),
  (97, .invokestatic 337, 100, 222, 4), (100, .iaload, 101, 0, 0), (101, .aload_n 0, 102, 0, 0), (102, .getfield 131, 105, 11, 56), (105, .aload_n 0, 106, 0, 0), (106, .getfield 125, 109, 11, 53), (109, .iconst 0, 110, 0, 0), (110, .iaload, 111, 0, 0),
  (111, .iload_n 2, 112, 2, 0), (112, .aload_n 0, 113, 0, 0), (113, .getfield 125, 116, 11, 53), (116, .iconst 2, 117, 0, 0), (117, .iaload, 118, 0, 0), (118, .aload_n 0, 119, 0, 0), (119, .getfield 125, 122, 11, 53), (122, .iconst 3, 123, 0, 0),
  (123, .iaload, 124, 0, 0), (124, .invokestatic 337, 127, 222, 4), (127, .iaload, 128, 0, 0), (128, .if_icmp .le 5, 131, 133, 0), (131, .iload_n 3, 132, 3, 0), (132, .istore_n 2, 133, 2, 0), (133, .iinc 3 1, 136, 3, 0), (136, .goto (-107), 139, 29, 0),
  (139, .iload_n 2, 140, 2, 0), (140, .ireturn, 141, 0, 0)]
set_option maxRecDepth 20000 in
/-- 275: StoneHomeModel.goBy(I)I -/
def at_X11_goBy : List (Nat × am_I) := [(0, .iload_n 1, 1, 1, 0), (1, .invokestatic 430, 4, 254, 1), (4, .ifCond .ne 5, 7, 9, 0), (7, .iconst (-1), 8, 0, 0), (8, .ireturn, 9, 0, 0), (9, .aload_n 0, 10, 0, 0), (10, .invokevirtual 413, 13, 236, 0), (13, .ifCond .eq 6, 16, 19, 0),
  (16, .bipush (-2), 18, 0, 0), (18, .ireturn, 19, 0, 0), (19, .aload_n 0, 20, 0, 0), (20, .invokevirtual 399, 23, 221, 0), (23, .istore_n 2, 24, 2, 0), (24, .iconst 0, 25, 0, 0), (25, .istore_n 3, 26, 3, 0), (26, .iconst (-1), 27, 0, 0),
  (27, .istore 4, 29, 4, 0), (29, .iconst 0, 30, 0, 0), (30, .istore 5, 32, 5, 0), (32, .iload 5, 34, 5, 0), (34, .iconst 5, 35, 0, 0), (35, .if_icmp .gt 76, 38, 111, 0), (38, .aload_n 0, 39, 0, 0), (39, .getfield 125, 42, 11, 53),
  (42, .iconst 5, 43, 0, 0), (43, .iaload, 44, 0, 0), (44, .iload 5, 46, 5, 0), (46, .aload_n 0, 47, 0, 0), (47, .getfield 82, 50, 11, 35), (50, .aload_n 0, 51, 0, 0), (51, .getfield 248, 54, 11, 18), (54, .iaload, 55, 0, 0),
  (55, .imul, 56, 0, 0), (56, .iadd, 57, 0, 0), (57, .istore 6, 59, 6, 0), (59, .aload_n 0, 60, 0, 0), (60, .iload_n 1, 61, 1, 0), (61, .iconst 0, 62, 0, 0), (62, .iconst (-1), 63, 0, 0), (63, .iload 6, 65, 6, 0),
  (65, .invokevirtual 395, 68, 256, 4), (68, .aload_n 0, 69, 0, 0), (69, .getfield 131, 72, 11, 56), (72, .iload_n 2, 73, 2, 0), (73, .iaload, 74, 0, 0), (74, .iload 4, 76, 4, 0), (76, .if_icmp .le 14, 79, 90, 0), (79, .aload_n 0, 80, 0, 0),
  (80, .getfield 131, 83, 11, 56), (83, .iload_n 2, 84, 2, 0), (84, .iaload, 85, 0, 0), (85, .istore 4, 87, 4, 0), (87, .iload 5, 89, 5, 0), (89, .istore_n 3, 90, 3, 0), (90, .iload_n 2, 91, 2, 0), (91, .sipush 384, 94, 0, 0),
  (94, .if_icmp .eq 11, 97, 105, 0), (97, .aload_n 0, 98, 0, 0), (98, .iload_n 2, 99, 2, 0), (99, .iload 6, 101, 6, 0), (101, .invokevirtual 366, 104, 247, 2), (104, .istore_n 2, 105, 2, 0), (105, .iinc 5 1, 108, 5, 0), (108, .goto (-76), 111, 32, 0),
  (111, .iload_n 3, 112, 3, 0), (112, .ireturn, 113, 0, 0)]
set_option maxRecDepth 20000 in
/-- 276: StoneHomeModel.plan(III)I -/
def at_X11_plan : List (Nat × am_I) := [(0, .iload_n 1, 1, 1, 0), (1, .iconst 1, 2, 0, 0), (2, .bipush 10, 4, 0, 0), (4, .invokestatic 353, 7, 230, 3), (7, .ifCond .eq 12, 10, 19, 0), (10, .aload_n 0, 11, 0, 0), (11, .iload_n 2, 12, 2, 0), (12, .iload_n 3, 13, 3, 0),
  (13, .invokevirtual 403, 16, 229, 2), (16, .ifCond .ne 5, 19, 21, 0), (19, .iconst (-1), 20, 0, 0), (20, .ireturn, 21, 0, 0), (21, .aload_n 0, 22, 0, 0), (22, .iload_n 2, 23, 2, 0), (23, .iload_n 3, 24, 3, 0), (24, .invokevirtual 331, 27, 227, 2),
  (27, .istore 4, 29, 4, 0), (29, .iload 4, 31, 4, 0), (31, .bipush 6, 33, 0, 0), (33, .if_icmp .eq 15, 36, 48, 0), (36, .iload 4, 38, 4, 0), (38, .iconst 4, 39, 0, 0), (39, .if_icmp .eq 9, 42, 48, 0), (42, .iload 4, 44, 4, 0),
  (44, .iconst 5, 45, 0, 0), (45, .if_icmp .ne 6, 48, 51, 0), (48, .bipush (-2), 50, 0, 0), (50, .ireturn, 51, 0, 0), (51, .aload_n 0, 52, 0, 0), (52, .iload_n 1, 53, 1, 0), (53, .iconst 1, 54, 0, 0), (54, .iconst (-1), 55, 0, 0),
  (55, .aload_n 0, 56, 0, 0), (56, .getfield 125, 59, 11, 53), (59, .iconst 5, 60, 0, 0), (60, .iaload, 61, 0, 0), (61, .invokevirtual 395, 64, 256, 4), (64, .aload_n 0, 65, 0, 0), (65, .iload_n 2, 66, 2, 0), (66, .iload_n 3, 67, 3, 0),
  (67, .aload_n 0, 68, 0, 0), (68, .getfield 125, 71, 11, 53), (71, .iconst 2, 72, 0, 0), (72, .iaload, 73, 0, 0), (73, .aload_n 0, 74, 0, 0), (74, .getfield 125, 77, 11, 53), (77, .iconst 3, 78, 0, 0), (78, .iaload, 79, 0, 0),
  (79, .invokestatic 337, 82, 222, 4), (82, .aload_n 0, 83, 0, 0), (83, .getfield 125, 86, 11, 53), (86, .iconst 5, 87, 0, 0), (87, .iaload, 88, 0, 0), (88, .invokevirtual 382, 91, 260, 2), (91, .ireturn, 92, 0, 0)]
set_option maxRecDepth 20000 in
/-- 277: StoneHomeModel.trap(I)I -/
def at_X11_trap : List (Nat × am_I) := [(0, .iload_n 1, 1, 1, 0), (1, .invokestatic 430, 4, 254, 1), (4, .ifCond .ne 5, 7, 9, 0), (7, .iconst (-1), 8, 0, 0), (8, .ireturn, 9, 0, 0), (9, .aload_n 0, 10, 0, 0), (10, .iload_n 1, 11, 1, 0), (11, .invokevirtual 433, 14, 255, 1),
  (14, .iconst 0, 15, 0, 0), (15, .istore_n 2, 16, 2, 0), (16, .iconst 0, 17, 0, 0), (17, .istore_n 3, 18, 3, 0), (18, .iload_n 3, 19, 3, 0), (19, .aload_n 0, 20, 0, 0), (20, .getfield 43, 23, 11, 22), (23, .aload_n 0, 24, 0, 0),
  (24, .getfield 248, 27, 11, 18), (27, .iaload, 28, 0, 0), (28, .if_icmp .ge 121, 31, 149, 0), (31, .iconst 0, 32, 0, 0), (32, .istore 4, 34, 4, 0), (34, .iload 4, 36, 4, 0), (36, .aload_n 0, 37, 0, 0), (37, .getfield 46, 40, 11, 23),
  (40, .aload_n 0, 41, 0, 0), (41, .getfield 248, 44, 11, 18), (44, .iaload, 45, 0, 0), (45, .if_icmp .ge 98, 48, 143, 0), (48, .iload 4, 50, 4, 0), (50, .iload_n 3, 51, 3, 0), (51, .iconst 0, 52, 0, 0), (52, .aload_n 0, 53, 0, 0),
  (53, .getfield 125, 56, 11, 53), (56, .iconst 3, 57, 0, 0), (57, .iaload, 58, 0, 0), (58, .invokestatic 337, 61, 222, 4), (61, .istore 5, 63, 5, 0), (63, .aload_n 0, 64, 0, 0), (64, .iload 5, 66, 5, 0), (66, .invokevirtual 379, 69, 257, 1),
  (69, .ifCond .ne 7, 72, 76, 0), (72, .iconst 1, 73, 0, 0), (73, .goto 4, 76, 77, 0), (76, .iconst 0, 77, 0, 0), (77, .istore 6, 79, 6, 0), (79, .iconst 0, 80, 0, 0), (80, .istore 7, 82, 7, 0), (82, .iload 7, 84, 7, 0),
  (84, .aload_n 0, 85, 0, 0), (85, .getfield 52, 88, 11, 25), (88, .aload_n 0, 89, 0, 0), (89, .getfield 248, 92, 11, 18), (92, .iaload, 93, 0, 0), (93, .if_icmp .ge 36, 96, 129, 0), (96, .iload 6, 98, 6, 0), (98, .ifCond .ne 18, 101, 116, 0),
  (101, .aload_n 0, 102, 0, 0), (102, .getfield 131, 105, 11, 56), (105, .iload 5, 107, 5, 0), (107, .iconst 4, 108, 0, 0), (108, .iload 7, 110, 7, 0), (110, .imul, 111, 0, 0), (111, .iadd, 112, 0, 0), (112, .iaload, 113, 0, 0),
  (113, .ifCond .le 7, 116, 120, 0), (116, .iconst 1, 117, 0, 0), (117, .goto 4, 120, 121, 0), (120, .iconst 0, 121, 0, 0), (121, .istore 6, 123, 6, 0), (123, .iinc 7 1, 126, 7, 0), (126, .goto (-44), 129, 82, 0), (129, .iload 6, 131, 6, 0),
  (131, .ifCond .ne 6, 134, 137, 0), (134, .iinc 2 1, 137, 2, 0), (137, .iinc 4 1, 140, 4, 0), (140, .goto (-106), 143, 34, 0), (143, .iinc 3 1, 146, 3, 0), (146, .goto (-128), 149, 18, 0), (149, .iload_n 2, 150, 2, 0), (150, .ireturn, 151, 0, 0)]
set_option maxRecDepth 20000 in
/-- 278: StoneHomeModel.first(IZ)I -/
def at_X11_first : List (Nat × am_I) := [(0, .iload_n 1, 1, 1, 0), (1, .iconst 1, 2, 0, 0), (2, .iconst 3, 3, 0, 0), (3, .invokestatic 353, 6, 230, 3), (6, .ifCond .ne 5, 9, 11, 0), (9, .iconst (-1), 10, 0, 0), (10, .ireturn, 11, 0, 0), (11, .aload_n 0, 12, 0, 0),
  (12, .invokevirtual 413, 15, 236, 0), (15, .ifCond .eq 6, 18, 21, 0), (18, .bipush (-2), 20, 0, 0), (20, .ireturn, 21, 0, 0), (21, .iconst 0, 22, 0, 0), (22, .istore_n 3, 23, 3, 0), (23, .iload_n 3, 24, 3, 0), (24, .sipush 9409, 27, 0, 0),
  (27, .if_icmp .ge 57, 30, 84, 0), (30, .aload_n 0, 31, 0, 0), (31, .getfield 140, 34, 11, 60), (34, .iload_n 3, 35, 3, 0), (35, .iload_n 3, 36, 3, 0), (36, .bipush 97, 38, 0, 0), (38, .idiv, 39, 0, 0), (39, .bipush 96, 41, 0, 0),
  (41, .if_icmp .ge 35, 44, 76, 0), (44, .aload_n 0, 45, 0, 0), (45, .iconst 4, 46, 0, 0), (46, .iload_n 3, 47, 3, 0), (47, .bipush 97, 49, 0, 0), (49, .idiv, 50, 0, 0), (50, .imul, 51, 0, 0), (51, .invokevirtual 379, 54, 257, 1),
  (54, .ifCond .eq 22, 57, 76, 0), (57, .aload_n 0, 58, 0, 0), (58, .iconst 4, 59, 0, 0), (59, .iload_n 3, 60, 3, 0), (60, .bipush 97, 62, 0, 0), (62, .idiv, 63, 0, 0), (63, .imul, 64, 0, 0), (64, .invokevirtual 334, 67, 224, 1),
  (67, .bipush 6, 69, 0, 0), (69, .if_icmp .ne 7, 72, 76, 0), (72, .iconst 1, 73, 0, 0), (73, .goto 4, 76, 77, 0), (76, .iconst 0, 77, 0, 0), (77, .iastore, 78, 0, 0), (78, .iinc 3 1, 81, 3, 0), (81, .goto (-58), 84, 23, 0),
  (84, .iconst 2, 85, 0, 0), (85, .iload_n 1, 86, 1, 0), (86, .imul, 87, 0, 0), (87, .iconst 1, 88, 0, 0), (88, .isub, 89, 0, 0), (89, .istore_n 3, 90, 3, 0), (90, .iload_n 3, 91, 3, 0), (91, .ifCond .lt 147, 94, 238, 0),
  (94, .aload_n 0, 95, 0, 0), (95, .aload_n 0, 96, 0, 0), (96, .getfield 125, 99, 11, 53), (99, .iconst 5, 100, 0, 0), (100, .iaload, 101, 0, 0), (101, .iload_n 3, 102, 3, 0), (102, .aload_n 0, 103, 0, 0), (103, .getfield 82, 106, 11, 35),
  (106, .aload_n 0, 107, 0, 0), (107, .getfield 248, 110, 11, 18), (110, .iaload, 111, 0, 0), (111, .imul, 112, 0, 0), (112, .iadd, 113, 0, 0), (113, .invokevirtual 455, 116, 279, 1), (116, .iconst 0, 117, 0, 0), (117, .istore 4, 119, 4, 0),
  (119, .iload 4, 121, 4, 0), (121, .sipush 9409, 124, 0, 0), (124, .if_icmp .ge 77, 127, 201, 0), (127, .aload_n 0, 128, 0, 0), (128, .getfield 143, 131, 11, 61), (131, .iload 4, 133, 4, 0), (133, .aload_n 0, 134, 0, 0), (134, .iload 4, 136, 4, 0),
  (136, .bipush 97, 138, 0, 0), (138, .idiv, 139, 0, 0), (139, .invokevirtual 458, 142, 280, 1), (142, .ifCond .eq 51, 145, 193, 0), (145, .aload_n 0, 146, 0, 0), (146, .iload 4, 148, 4, 0), (148, .bipush 97, 150, 0, 0), (150, .irem, 151, 0, 0),
  (151, .invokevirtual 458, 154, 280, 1), (154, .ifCond .eq 39, 157, 193, 0), (157, .aload_n 0, 158, 0, 0), (158, .iload 4, 160, 4, 0), (160, .bipush 97, 162, 0, 0), (162, .idiv, 163, 0, 0), (163, .iload 4, 165, 4, 0), (165, .bipush 97, 167, 0, 0),
  (167, .irem, 168, 0, 0), (168, .iload_n 3, 169, 3, 0), (169, .iconst 2, 170, 0, 0), (170, .irem, 171, 0, 0), (171, .ifCond .ne 7, 174, 178, 0), (174, .iconst 1, 175, 0, 0), (175, .goto 4, 178, 179, 0), (178, .iconst 0, 179, 0, 0),
  (179, .iconst 2, 180, 0, 0), (180, .iload_n 1, 181, 1, 0), (181, .imul, 182, 0, 0), (182, .iload_n 3, 183, 3, 0), (183, .isub, 184, 0, 0), (184, .invokestatic 388, 187, 258, 1), (187, .invokevirtual 461, 190, 281, 4), (190, .goto 4, 193, 194, 0),
  (193, .iconst 0, 194, 0, 0), (194, .iastore, 195, 0, 0), (195, .iinc 4 1, 198, 4, 0), (198, .goto (-79), 201, 119, 0), (201, .iconst 0, 202, 0, 0), (202, .istore 4, 204, 4, 0), (204, .iload 4, 206, 4, 0), (206, .sipush 9409, 209, 0, 0),
  (209, .if_icmp .ge 23, 212, 232, 0), (212, .aload_n 0, 213, 0, 0), (213, .getfield 140, 216, 11, 60), (216, .iload 4, 218, 4, 0), (218, .aload_n 0, 219, 0, 0), (219, .getfield 143, 222, 11, 61), (222, .iload 4, 224, 4, 0), (224, .iaload, 225, 0, 0),
  (225, .iastore, 226, 0, 0), (226, .iinc 4 1, 229, 4, 0), (229, .goto (-25), 232, 204, 0), (232, .iinc 3 (-1), 235, 3, 0), (235, .goto (-145), 238, 90, 0), (238, .aload_n 0, 239, 0, 0), (239, .getfield 125, 242, 11, 53), (242, .iconst 0, 243, 0, 0),
  (243, .iaload, 244, 0, 0), (244, .aload_n 0, 245, 0, 0), (245, .getfield 125, 248, 11, 53), (248, .iconst 1, 249, 0, 0), (249, .iaload, 250, 0, 0), (250, .aload_n 0, 251, 0, 0), (251, .getfield 125, 254, 11, 53), (254, .iconst 2, 255, 0, 0),
  (255, .iaload, 256, 0, 0), (256, .iconst 0, 257, 0, 0), (257, .invokestatic 337, 260, 222, 4), (260, .iconst 4, 261, 0, 0), (261, .idiv, 262, 0, 0), (262, .istore_n 3, 263, 3, 0), (263, .aload_n 0, 264, 0, 0), (264, .getfield 76, 267, 11, 33),
  (267, .iconst 3, 268, 0, 0), (268, .aload_n 0, 269, 0, 0), (269, .getfield 248, 272, 11, 18), (272, .imul, 273, 0, 0), (273, .iaload, 274, 0, 0), (274, .aload_n 0, 275, 0, 0), (275, .getfield 76, 278, 11, 33), (278, .iconst 3, 279, 0, 0),
  (279, .aload_n 0, 280, 0, 0), (280, .getfield 248, 283, 11, 18), (283, .imul, 284, 0, 0), (284, .iconst 1, 285, 0, 0), (285, .iadd, 286, 0, 0), (286, .iaload, 287, 0, 0), (287, .aload_n 0, 288, 0, 0), (288, .getfield 76, 291, 11, 33),
  (291, .iconst 3, 292, 0, 0), (292, .aload_n 0, 293, 0, 0), (293, .getfield 248, 296, 11, 18), (296, .imul, 297, 0, 0), (297, .iconst 2, 298, 0, 0), (298, .iadd, 299, 0, 0), (299, .iaload, 300, 0, 0), (300, .iconst 0, 301, 0, 0),
  (301, .invokestatic 337, 304, 222, 4), (304, .iconst 4, 305, 0, 0), (305, .idiv, 306, 0, 0), (306, .istore 4, 308, 4, 0), (308, .aload_n 0, 309, 0, 0), (309, .getfield 140, 312, 11, 60), (312, .bipush 97, 314, 0, 0), (314, .iload_n 3, 315, 3, 0),
  (315, .imul, 316, 0, 0), (316, .iload 4, 318, 4, 0), (318, .iadd, 319, 0, 0), (319, .iaload, 320, 0, 0), (320, .iconst 2, 321, 0, 0), (321, .iload_n 1, 322, 1, 0), (322, .imul, 323, 0, 0), (323, .invokestatic 388, 326, 258, 1),
  (326, .iload_n 2, 327, 2, 0), (327, .invokestatic 436, 330, 262, 3), (330, .ireturn, 331, 0, 0)]
set_option maxRecDepth 20000 in
/-- 279: StoneHomeModel.fillsCameTo(I)V -/
def at_X11_fillsCameTo : List (Nat × am_I) := [(0, .iconst 0, 1, 0, 0), (1, .istore_n 2, 2, 2, 0), (2, .iload_n 2, 3, 2, 0), (3, .bipush 96, 5, 0, 0), (5, .if_icmp .ge 159, 8, 164, 0), (8, .iconst 4, 9, 0, 0), (9, .iload_n 2, 10, 2, 0), (10, .imul, 11, 0, 0),
  (11, .istore_n 3, 12, 3, 0), (12, .aload_n 0, 13, 0, 0), (13, .iload_n 3, 14, 3, 0), (14, .invokevirtual 379, 17, 257, 1), (17, .ifCond .eq 141, 20, 158, 0), (20, .aload_n 0, 21, 0, 0), (21, .iload_n 3, 22, 3, 0), (22, .invokevirtual 334, 25, 224, 1),
  (25, .bipush 6, 27, 0, 0), (27, .if_icmp .ne 6, 30, 33, 0), (30, .goto 128, 33, 158, 0), (33, .iconst 0, 34, 0, 0), (34, .istore 4, 36, 4, 0), (36, .iload 4, 38, 4, 0), (38, .aload_n 0, 39, 0, 0), (39, .getfield 55, 42, 11, 26),
  (42, .aload_n 0, 43, 0, 0), (43, .getfield 248, 46, 11, 18), (46, .iaload, 47, 0, 0), (47, .if_icmp .ge 81, 50, 128, 0), (50, .iconst 0, 51, 0, 0), (51, .istore 5, 53, 5, 0), (53, .iload 5, 55, 5, 0), (55, .aload_n 0, 56, 0, 0),
  (56, .getfield 58, 59, 11, 27), (59, .iconst 4, 60, 0, 0), (60, .aload_n 0, 61, 0, 0), (61, .getfield 248, 64, 11, 18), (64, .imul, 65, 0, 0), (65, .iload 4, 67, 4, 0), (67, .iadd, 68, 0, 0), (68, .iaload, 69, 0, 0),
  (69, .if_icmp .ge 53, 72, 122, 0), (72, .aload_n 0, 73, 0, 0), (73, .getfield 146, 76, 11, 62), (76, .bipush 30, 78, 0, 0), (78, .iload_n 2, 79, 2, 0), (79, .imul, 80, 0, 0), (80, .bipush 6, 82, 0, 0), (82, .iload 4, 84, 4, 0),
  (84, .imul, 85, 0, 0), (85, .iadd, 86, 0, 0), (86, .iload 5, 88, 5, 0), (88, .iadd, 89, 0, 0), (89, .aload_n 0, 90, 0, 0), (90, .iload_n 3, 91, 3, 0), (91, .iload 4, 93, 4, 0), (93, .invokevirtual 372, 96, 237, 2),
  (96, .ifCond .eq 18, 99, 114, 0), (99, .aload_n 0, 100, 0, 0), (100, .iload_n 3, 101, 3, 0), (101, .iload 4, 103, 4, 0), (103, .iload 5, 105, 5, 0), (105, .iload_n 1, 106, 1, 0), (106, .invokevirtual 369, 109, 239, 4), (109, .iconst 4, 110, 0, 0),
  (110, .idiv, 111, 0, 0), (111, .goto 4, 114, 115, 0), (114, .iconst (-1), 115, 0, 0), (115, .iastore, 116, 0, 0), (116, .iinc 5 1, 119, 5, 0), (119, .goto (-66), 122, 53, 0), (122, .iinc 4 1, 125, 4, 0), (125, .goto (-89), 128, 36, 0),
  (128, .aload_n 0, 129, 0, 0), (129, .getfield 146, 132, 11, 62), (132, .bipush 30, 134, 0, 0), (134, .iload_n 2, 135, 2, 0), (135, .imul, 136, 0, 0), (136, .bipush 6, 138, 0, 0), (138, .aload_n 0, 139, 0, 0), (139, .getfield 55, 142, 11, 26),
  (142, .aload_n 0, 143, 0, 0), (143, .getfield 248, 146, 11, 18), (146, .iaload, 147, 0, 0), (147, .imul, 148, 0, 0), (148, .iadd, 149, 0, 0), (149, .aload_n 0, 150, 0, 0), (150, .iload_n 3, 151, 3, 0), (151, .iload_n 1, 152, 1, 0),
  (152, .invokevirtual 366, 155, 247, 2), (155, .iconst 4, 156, 0, 0), (156, .idiv, 157, 0, 0), (157, .iastore, 158, 0, 0), (158, .iinc 2 1, 161, 2, 0), (161, .goto (-159), 164, 2, 0), (164, .return_, 165, 0, 0)]
set_option maxRecDepth 20000 in
/-- 280: StoneHomeModel.isLone(I)Z -/
def at_X11_isLone : List (Nat × am_I) := [(0, .iload_n 1, 1, 1, 0), (1, .bipush 96, 3, 0, 0), (3, .if_icmp .eq 13, 6, 16, 0), (6, .aload_n 0, 7, 0, 0), (7, .iconst 4, 8, 0, 0), (8, .iload_n 1, 9, 1, 0), (9, .imul, 10, 0, 0), (10, .invokevirtual 379, 13, 257, 1),
  (13, .ifCond .eq 7, 16, 20, 0), (16, .iconst 1, 17, 0, 0), (17, .goto 4, 20, 21, 0), (20, .iconst 0, 21, 0, 0), (21, .ireturn, 22, 0, 0)]
set_option maxRecDepth 20000 in
/-- 281: StoneHomeModel.pairOf(IIZI)I -/
def at_X11_pairOf : List (Nat × am_I) := [(0, .iload_n 1, 1, 1, 0), (1, .bipush 96, 3, 0, 0), (3, .if_icmp .ne 5, 6, 8, 0), (6, .iconst 0, 7, 0, 0), (7, .ireturn, 8, 0, 0), (8, .aload_n 0, 9, 0, 0), (9, .iconst 4, 10, 0, 0), (10, .iload_n 1, 11, 1, 0),
  (11, .imul, 12, 0, 0), (12, .invokevirtual 334, 15, 224, 1), (15, .bipush 6, 17, 0, 0), (17, .if_icmp .ne 6, 20, 23, 0), (20, .iload 4, 22, 4, 0), (22, .ireturn, 23, 0, 0), (23, .iload_n 2, 24, 2, 0), (24, .bipush 96, 26, 0, 0),
  (26, .if_icmp .ge 17, 29, 43, 0), (29, .aload_n 0, 30, 0, 0), (30, .iconst 4, 31, 0, 0), (31, .iload_n 2, 32, 2, 0), (32, .imul, 33, 0, 0), (33, .invokevirtual 334, 36, 224, 1), (36, .bipush 6, 38, 0, 0), (38, .if_icmp .ne 5, 41, 43, 0),
  (41, .iconst 0, 42, 0, 0), (42, .ireturn, 43, 0, 0), (43, .iload_n 3, 44, 3, 0), (44, .ifCond .ne 24, 47, 68, 0), (47, .iload_n 2, 48, 2, 0), (48, .bipush 96, 50, 0, 0), (50, .if_icmp .ne 18, 53, 68, 0), (53, .bipush 6, 55, 0, 0),
  (55, .aload_n 0, 56, 0, 0), (56, .getfield 140, 59, 11, 60), (59, .bipush 97, 61, 0, 0), (61, .iload_n 1, 62, 1, 0), (62, .imul, 63, 0, 0), (63, .iload_n 2, 64, 2, 0), (64, .iadd, 65, 0, 0), (65, .iaload, 66, 0, 0),
  (66, .imul, 67, 0, 0), (67, .ireturn, 68, 0, 0), (68, .iconst (-1), 69, 0, 0), (69, .istore 5, 71, 5, 0), (71, .iconst 0, 72, 0, 0), (72, .istore 6, 74, 6, 0), (74, .iload 6, 76, 6, 0), (76, .aload_n 0, 77, 0, 0),
  (77, .getfield 55, 80, 11, 26), (80, .aload_n 0, 81, 0, 0), (81, .getfield 248, 84, 11, 18), (84, .iaload, 85, 0, 0), (85, .if_icmp .gt 87, 88, 172, 0), (88, .iload 6, 90, 6, 0), (90, .aload_n 0, 91, 0, 0), (91, .getfield 55, 94, 11, 26),
  (94, .aload_n 0, 95, 0, 0), (95, .getfield 248, 98, 11, 18), (98, .iaload, 99, 0, 0), (99, .if_icmp .ge 26, 102, 125, 0), (102, .aload_n 0, 103, 0, 0), (103, .iconst 4, 104, 0, 0), (104, .iload_n 3, 105, 3, 0), (105, .ifCond .eq 7, 108, 112, 0),
  (108, .iload_n 1, 109, 1, 0), (109, .goto 4, 112, 113, 0), (112, .iload_n 2, 113, 2, 0), (113, .imul, 114, 0, 0), (114, .iload 6, 116, 6, 0), (116, .invokevirtual 372, 119, 237, 2), (119, .ifCond .ne 6, 122, 125, 0), (122, .goto 44, 125, 166, 0),
  (125, .aload_n 0, 126, 0, 0), (126, .iload_n 1, 127, 1, 0), (127, .iload_n 2, 128, 2, 0), (128, .iload_n 3, 129, 3, 0), (129, .iload 6, 131, 6, 0), (131, .invokevirtual 451, 134, 282, 4), (134, .istore 7, 136, 7, 0), (136, .iload 5, 138, 5, 0),
  (138, .ifCond .lt 24, 141, 162, 0), (141, .iload_n 3, 142, 3, 0), (142, .ifCond .eq 13, 145, 155, 0), (145, .iload 7, 147, 7, 0), (147, .iload 5, 149, 5, 0), (149, .if_icmp .le 17, 152, 166, 0), (152, .goto 10, 155, 162, 0), (155, .iload 7, 157, 7, 0),
  (157, .iload 5, 159, 5, 0), (159, .if_icmp .ge 7, 162, 166, 0), (162, .iload 7, 164, 7, 0), (164, .istore 5, 166, 5, 0), (166, .iinc 6 1, 169, 6, 0), (169, .goto (-95), 172, 74, 0), (172, .iload 5, 174, 5, 0), (174, .ireturn, 175, 0, 0)]
set_option maxRecDepth 20000 in
/-- 282: StoneHomeModel.pairBy(IIZI)I -/
def at_X11_pairBy : List (Nat × am_I) := [(0, .iload_n 3, 1, 3, 0), (1, .ifCond .eq 7, 4, 8, 0), (4, .iload_n 1, 5, 1, 0), (5, .goto 4, 8, 9, 0), (8, .iload_n 2, 9, 2, 0), (9, .istore 5, 11, 5, 0), (11, .iload 4, 13, 4, 0), (13, .aload_n 0, 14, 0, 0),
  (14, .getfield 55, 17, 11, 26), (17, .aload_n 0, 18, 0, 0), (18, .getfield 248, 21, 11, 18), (21, .iaload, 22, 0, 0), (22, .if_icmp .ne 56, 25, 78, 0), (25, .aload_n 0, 26, 0, 0), (26, .getfield 146, 29, 11, 62), (29, .bipush 30, 31, 0, 0),
  (31, .iload 5, 33, 5, 0), (33, .imul, 34, 0, 0), (34, .bipush 6, 36, 0, 0), (36, .iload 4, 38, 4, 0), (38, .imul, 39, 0, 0), (39, .iadd, 40, 0, 0), (40, .iaload, 41, 0, 0), (41, .istore 6, 43, 6, 0),
  (43, .bipush 6, 45, 0, 0), (45, .iload_n 3, 46, 3, 0), (46, .ifCond .eq 18, 49, 64, 0), (49, .aload_n 0, 50, 0, 0), (50, .getfield 140, 53, 11, 60), (53, .bipush 97, 55, 0, 0), (55, .iload 6, 57, 6, 0), (57, .imul, 58, 0, 0),
  (58, .iload_n 2, 59, 2, 0), (59, .iadd, 60, 0, 0), (60, .iaload, 61, 0, 0), (61, .goto 15, 64, 76, 0), (64, .aload_n 0, 65, 0, 0), (65, .getfield 140, 68, 11, 60), (68, .bipush 97, 70, 0, 0), (70, .iload_n 1, 71, 1, 0),
  (71, .imul, 72, 0, 0), (72, .iload 6, 74, 6, 0), (74, .iadd, 75, 0, 0), (75, .iaload, 76, 0, 0), (76, .imul, 77, 0, 0), (77, .ireturn, 78, 0, 0), (78, .iconst 0, 79, 0, 0), (79, .istore 6, 81, 6, 0),
  (81, .iconst 0, 82, 0, 0), (82, .istore 7, 84, 7, 0), (84, .iload 7, 86, 7, 0), (86, .aload_n 0, 87, 0, 0), (87, .getfield 58, 90, 11, 27), (90, .iconst 4, 91, 0, 0), (91, .aload_n 0, 92, 0, 0), (92, .getfield 248, 95, 11, 18),
  (95, .imul, 96, 0, 0), (96, .iload 4, 98, 4, 0), (98, .iadd, 99, 0, 0), (99, .iaload, 100, 0, 0), (100, .if_icmp .ge 87, 103, 187, 0), (103, .aload_n 0, 104, 0, 0), (104, .getfield 146, 107, 11, 62), (107, .bipush 30, 109, 0, 0),
  (109, .iload 5, 111, 5, 0), (111, .imul, 112, 0, 0), (112, .bipush 6, 114, 0, 0), (114, .iload 4, 116, 4, 0), (116, .imul, 117, 0, 0), (117, .iadd, 118, 0, 0), (118, .iload 7, 120, 7, 0), (120, .iadd, 121, 0, 0),
  (121, .iaload, 122, 0, 0), (122, .istore 8, 124, 8, 0), (124, .iload 6, 126, 6, 0), (126, .aload_n 0, 127, 0, 0), (127, .getfield 61, 130, 11, 28), (130, .bipush 6, 132, 0, 0), (132, .iconst 4, 133, 0, 0), (133, .aload_n 0, 134, 0, 0),
  (134, .getfield 248, 137, 11, 18), (137, .imul, 138, 0, 0), (138, .iload 4, 140, 4, 0), (140, .iadd, 141, 0, 0), (141, .imul, 142, 0, 0), (142, .iload 7, 144, 7, 0), (144, .iadd, 145, 0, 0), (145, .iaload, 146, 0, 0),
  (146, .iload_n 3, 147, 3, 0), (147, .ifCond .eq 18, 150, 165, 0), (150, .aload_n 0, 151, 0, 0), (151, .getfield 140, 154, 11, 60), (154, .bipush 97, 156, 0, 0), (156, .iload 8, 158, 8, 0), (158, .imul, 159, 0, 0), (159, .iload_n 2, 160, 2, 0),
  (160, .iadd, 161, 0, 0), (161, .iaload, 162, 0, 0), (162, .goto 15, 165, 177, 0), (165, .aload_n 0, 166, 0, 0), (166, .getfield 140, 169, 11, 60), (169, .bipush 97, 171, 0, 0), (171, .iload_n 1, 172, 1, 0), (172, .imul, 173, 0, 0),
  (173, .iload 8, 175, 8, 0), (175, .iadd, 176, 0, 0), (176, .iaload, 177, 0, 0), (177, .imul, 178, 0, 0), (178, .iadd, 179, 0, 0), (179, .istore 6, 181, 6, 0), (181, .iinc 7 1, 184, 7, 0), (184, .goto (-100), 187, 84, 0),
  (187, .iload 6, 189, 6, 0), (189, .ireturn, 190, 0, 0)]
set_option maxRecDepth 20000 in
/-- 283: StoneHomeModel.tell(II)I -/
def at_X11_tell : List (Nat × am_I) := [(0, .aload_n 0, 1, 0, 0), (1, .getfield 273, 4, 11, 63), (4, .iconst 5, 5, 0, 0), (5, .if_icmp .eq 12, 8, 17, 0), (8, .aload_n 0, 9, 0, 0), (9, .iload_n 1, 10, 1, 0), (10, .iload_n 2, 11, 2, 0), (11, .invokevirtual 403, 14, 229, 2),
  (14, .ifCond .ne 5, 17, 19, 0), (17, .iconst (-1), 18, 0, 0), (18, .ireturn, 19, 0, 0), (19, .aload_n 0, 20, 0, 0), (20, .getfield 149, 23, 11, 64), (23, .aload_n 0, 24, 0, 0), (24, .getfield 273, 27, 11, 63), (27, .iload_n 1, 28, 1, 0),
  (28, .iastore, 29, 0, 0), (29, .aload_n 0, 30, 0, 0), (30, .getfield 152, 33, 11, 65), (33, .aload_n 0, 34, 0, 0), (34, .getfield 273, 37, 11, 63), (37, .iload_n 2, 38, 2, 0), (38, .iastore, 39, 0, 0), (39, .aload_n 0, 40, 0, 0),
  (40, .dup, 41, 0, 0), (41, .getfield 273, 44, 11, 63), (44, .iconst 1, 45, 0, 0), (45, .iadd, 46, 0, 0), (46, .putfield 273, 49, 11, 504), (49, .aload_n 0, 50, 0, 0), (50, .getfield 273, 53, 11, 63), (53, .iconst 1, 54, 0, 0),
  (54, .isub, 55, 0, 0), (55, .ireturn, 56, 0, 0)]
set_option maxRecDepth 20000 in
/-- 284: StoneHomeModel.forget()I -/
def at_X11_forget : List (Nat × am_I) := [(0, .aload_n 0, 1, 0, 0), (1, .getfield 273, 4, 11, 63), (4, .istore_n 1, 5, 1, 0), (5, .aload_n 0, 6, 0, 0), (6, .iconst 0, 7, 0, 0), (7, .putfield 273, 10, 11, 504), (10, .iload_n 1, 11, 1, 0), (11, .ireturn, 12, 0, 0)]
set_option maxRecDepth 20000 in
/-- 285: StoneHomeModel.fits(II)I -/
def at_X11_fits : List (Nat × am_I) := [(0, .iload_n 1, 1, 1, 0), (1, .iconst 0, 2, 0, 0), (2, .aload_n 0, 3, 0, 0), (3, .getfield 273, 6, 11, 63), (6, .invokestatic 353, 9, 230, 3), (9, .ifCond .eq 8, 12, 17, 0), (12, .iload_n 2, 13, 2, 0), (13, .iconst (-1), 14, 0, 0),
  (14, .if_icmp .ge 5, 17, 19, 0), (17, .iconst (-1), 18, 0, 0), (18, .ireturn, 19, 0, 0), (19, .aload_n 0, 20, 0, 0), (20, .iload_n 1, 21, 1, 0), (21, .iload_n 2, 22, 2, 0), (22, .invokevirtual 470, 25, 286, 2), (25, .istore_n 3, 26, 3, 0),
  (26, .iload_n 2, 27, 2, 0), (27, .iconst (-1), 28, 0, 0), (28, .if_icmp .ne 9, 31, 37, 0), (31, .iconst (-1), 32, 0, 0), (32, .iload_n 3, 33, 3, 0), (33, .isub, 34, 0, 0), (34, .goto 12, 37, 46, 0), (37, .iload_n 3, 38, 3, 0),
  (38, .ifCond .ge 7, 41, 45, 0), (41, .iconst (-1), 42, 0, 0), (42, .goto 4, 45, 46, 0), (45, .iload_n 3, 46, 3, 0), (46, .ireturn, 47, 0, 0)]
set_option maxRecDepth 20000 in
/-- 286: StoneHomeModel.fitting(II)I -/
def at_X11_fitting : List (Nat × am_I) := [(0, .iconst 0, 1, 0, 0), (1, .istore_n 3, 2, 3, 0), (2, .iconst 0, 3, 0, 0), (3, .istore 4, 5, 4, 0), (5, .iload 4, 7, 4, 0), (7, .iconst 1, 8, 0, 0), (8, .iconst 2, 9, 0, 0), (9, .iload_n 1, 10, 1, 0),
  (10, .imul, 11, 0, 0), (11, .ishl, 12, 0, 0), (12, .if_icmp .ge 33, 15, 45, 0), (15, .aload_n 0, 16, 0, 0), (16, .iload_n 1, 17, 1, 0), (17, .iload 4, 19, 4, 0), (19, .invokevirtual 467, 22, 287, 2), (22, .ifCond .ne 6, 25, 28, 0),
  (25, .goto 14, 28, 39, 0), (28, .iload_n 3, 29, 3, 0), (29, .iload_n 2, 30, 2, 0), (30, .if_icmp .ne 6, 33, 36, 0), (33, .iload 4, 35, 4, 0), (35, .ireturn, 36, 0, 0), (36, .iinc 3 1, 39, 3, 0), (39, .iinc 4 1, 42, 4, 0),
  (42, .goto (-37), 45, 5, 0), (45, .iconst (-1), 46, 0, 0), (46, .iload_n 3, 47, 3, 0), (47, .isub, 48, 0, 0), (48, .ireturn, 49, 0, 0)]
set_option maxRecDepth 20000 in
/-- 287: StoneHomeModel.oftenBy(II)I -/
def at_X11_oftenBy : List (Nat × am_I) := [(0, .iconst 0, 1, 0, 0), (1, .istore_n 3, 2, 3, 0), (2, .iload_n 3, 3, 3, 0), (3, .iconst 3, 4, 0, 0), (4, .if_icmp .ge 37, 7, 41, 0), (7, .aload_n 0, 8, 0, 0), (8, .getfield 155, 11, 11, 66), (11, .iload_n 3, 12, 3, 0),
  (12, .iload_n 3, 13, 3, 0), (13, .aload_n 0, 14, 0, 0), (14, .getfield 73, 17, 11, 32), (17, .iconst 3, 18, 0, 0), (18, .aload_n 0, 19, 0, 0), (19, .getfield 248, 22, 11, 18), (22, .imul, 23, 0, 0), (23, .iconst 2, 24, 0, 0),
  (24, .iadd, 25, 0, 0), (25, .iaload, 26, 0, 0), (26, .if_icmp .ne 7, 29, 33, 0), (29, .iconst 1, 30, 0, 0), (30, .goto 4, 33, 34, 0), (33, .iconst 0, 34, 0, 0), (34, .iastore, 35, 0, 0), (35, .iinc 3 1, 38, 3, 0),
  (38, .goto (-36), 41, 2, 0), (41, .iconst 1, 42, 0, 0), (42, .iconst 2, 43, 0, 0), (43, .iload_n 1, 44, 1, 0), (44, .imul, 45, 0, 0), (45, .ishl, 46, 0, 0), (46, .istore_n 3, 47, 3, 0), (47, .iconst 0, 48, 0, 0),
  (48, .istore 4, 50, 4, 0), (50, .iload 4, 52, 4, 0), (52, .iload_n 1, 53, 1, 0), (53, .if_icmp .ge 44, 56, 97, 0), (56, .iload_n 3, 57, 3, 0), (57, .iconst 4, 58, 0, 0), (58, .idiv, 59, 0, 0), (59, .istore_n 3, 60, 3, 0),
  (60, .iload_n 2, 61, 2, 0), (61, .iload_n 3, 62, 3, 0), (62, .idiv, 63, 0, 0), (63, .iconst 4, 64, 0, 0), (64, .irem, 65, 0, 0), (65, .istore 5, 67, 5, 0), (67, .iload 5, 69, 5, 0), (69, .aload_n 0, 70, 0, 0),
  (70, .getfield 55, 73, 11, 26), (73, .aload_n 0, 74, 0, 0), (74, .getfield 248, 77, 11, 18), (77, .iaload, 78, 0, 0), (78, .if_icmp .lt 5, 81, 83, 0), (81, .iconst 0, 82, 0, 0), (82, .ireturn, 83, 0, 0), (83, .aload_n 0, 84, 0, 0),
  (84, .iload 5, 86, 5, 0), (86, .iload 4, 88, 4, 0), (88, .invokevirtual 464, 91, 288, 2), (91, .iinc 4 1, 94, 4, 0), (94, .goto (-44), 97, 50, 0), (97, .aload_n 0, 98, 0, 0), (98, .getfield 155, 101, 11, 66), (101, .iconst 0, 102, 0, 0),
  (102, .iaload, 103, 0, 0), (103, .aload_n 0, 104, 0, 0), (104, .getfield 155, 107, 11, 66), (107, .iconst 1, 108, 0, 0), (108, .iaload, 109, 0, 0), (109, .iadd, 110, 0, 0), (110, .aload_n 0, 111, 0, 0), (111, .getfield 155, 114, 11, 66),
  (114, .iconst 2, 115, 0, 0), (115, .iaload, 116, 0, 0), (116, .iadd, 117, 0, 0), (117, .ireturn, 118, 0, 0)]
set_option maxRecDepth 20000 in
/-- 288: StoneHomeModel.scratches(II)V -/
def at_X11_scratches : List (Nat × am_I) := [(0, .iload_n 2, 1, 2, 0), (1, .ifCond .ne 17, 4, 18, 0), (4, .aload_n 0, 5, 0, 0), (5, .getfield 73, 8, 11, 32), (8, .iconst 3, 9, 0, 0), (9, .aload_n 0, 10, 0, 0), (10, .getfield 248, 13, 11, 18), (13, .imul, 14, 0, 0),
  (14, .iaload, 15, 0, 0), (15, .goto 11, 18, 26, 0), (18, .aload_n 0, 19, 0, 0), (19, .getfield 149, 22, 11, 64), (22, .iload_n 2, 23, 2, 0), (23, .iconst 1, 24, 0, 0), (24, .isub, 25, 0, 0), (25, .iaload, 26, 0, 0),
  (26, .istore_n 3, 27, 3, 0), (27, .iload_n 2, 28, 2, 0), (28, .ifCond .ne 19, 31, 47, 0), (31, .aload_n 0, 32, 0, 0), (32, .getfield 73, 35, 11, 32), (35, .iconst 3, 36, 0, 0), (36, .aload_n 0, 37, 0, 0), (37, .getfield 248, 40, 11, 18),
  (40, .imul, 41, 0, 0), (41, .iconst 1, 42, 0, 0), (42, .iadd, 43, 0, 0), (43, .iaload, 44, 0, 0), (44, .goto 11, 47, 55, 0), (47, .aload_n 0, 48, 0, 0), (48, .getfield 152, 51, 11, 65), (51, .iload_n 2, 52, 2, 0),
  (52, .iconst 1, 53, 0, 0), (53, .isub, 54, 0, 0), (54, .iaload, 55, 0, 0), (55, .istore 4, 57, 4, 0), (57, .iconst 0, 58, 0, 0), (58, .istore 5, 60, 5, 0), (60, .iload 5, 62, 5, 0), (62, .iconst 3, 63, 0, 0),
  (63, .if_icmp .ge 17, 66, 80, 0), (66, .aload_n 0, 67, 0, 0), (67, .getfield 158, 70, 11, 67), (70, .iload 5, 72, 5, 0), (72, .iconst 0, 73, 0, 0), (73, .iastore, 74, 0, 0), (74, .iinc 5 1, 77, 5, 0), (77, .goto (-17), 80, 60, 0),
  (80, .iconst 0, 81, 0, 0), (81, .istore 5, 83, 5, 0), (83, .iload 5, 85, 5, 0), (85, .iconst 3, 86, 0, 0), (86, .if_icmp .ge 186, 89, 272, 0), (89, .iload_n 3, 90, 3, 0), (90, .iload 4, 92, 4, 0), (92, .iload 5, 94, 5, 0),
  (94, .aload_n 0, 95, 0, 0), (95, .getfield 79, 98, 11, 34), (98, .aload_n 0, 99, 0, 0), (99, .getfield 248, 102, 11, 18), (102, .iaload, 103, 0, 0), (103, .invokestatic 337, 106, 222, 4), (106, .istore 6, 108, 6, 0), (108, .aload_n 0, 109, 0, 0),
  (109, .getfield 155, 112, 11, 66), (112, .iload 5, 114, 5, 0), (114, .iaload, 115, 0, 0), (115, .ifCond .eq 151, 118, 266, 0), (118, .aload_n 0, 119, 0, 0), (119, .iload 6, 121, 6, 0), (121, .invokevirtual 334, 124, 224, 1), (124, .bipush 6, 126, 0, 0),
  (126, .if_icmp .eq 140, 129, 266, 0), (129, .aload_n 0, 130, 0, 0), (130, .iload 6, 132, 6, 0), (132, .iload_n 1, 133, 1, 0), (133, .invokevirtual 372, 136, 237, 2), (136, .ifCond .ne 6, 139, 142, 0), (139, .goto 127, 142, 266, 0), (142, .iconst 0, 143, 0, 0),
  (143, .istore 7, 145, 7, 0), (145, .iload 7, 147, 7, 0), (147, .aload_n 0, 148, 0, 0), (148, .getfield 58, 151, 11, 27), (151, .iconst 4, 152, 0, 0), (152, .aload_n 0, 153, 0, 0), (153, .getfield 248, 156, 11, 18), (156, .imul, 157, 0, 0),
  (157, .iload_n 1, 158, 1, 0), (158, .iadd, 159, 0, 0), (159, .iaload, 160, 0, 0), (160, .if_icmp .ge 106, 163, 266, 0), (163, .aload_n 0, 164, 0, 0), (164, .iload 6, 166, 6, 0), (166, .iload_n 1, 167, 1, 0), (167, .iload 7, 169, 7, 0),
  (169, .iload_n 2, 170, 2, 0), (170, .aload_n 0, 171, 0, 0), (171, .getfield 82, 174, 11, 35), (174, .aload_n 0, 175, 0, 0), (175, .getfield 248, 178, 11, 18), (178, .iaload, 179, 0, 0), (179, .imul, 180, 0, 0), (180, .invokevirtual 369, 183, 239, 4),
  (183, .istore 8, 185, 8, 0), (185, .aload_n 0, 186, 0, 0), (186, .getfield 357, 189, 11, 55), (189, .ifCond .ne 71, 192, 260, 0), (192, .iload 8, 194, 8, 0), (194, .invokestatic 325, 197, 225, 1), (197, .aload_n 0, 198, 0, 0), (198, .getfield 149, 201, 11, 64),
  (201, .iload_n 2, 202, 2, 0), (202, .iaload, 203, 0, 0), (203, .if_icmp .ne 57, 206, 260, 0), (206, .iload 8, 208, 8, 0), (208, .invokestatic 328, 211, 226, 1), (211, .aload_n 0, 212, 0, 0), (212, .getfield 152, 215, 11, 65), (215, .iload_n 2, 216, 2, 0),
  (216, .iaload, 217, 0, 0), (217, .if_icmp .ne 43, 220, 260, 0), (220, .aload_n 0, 221, 0, 0), (221, .getfield 158, 224, 11, 67), (224, .iload 8, 226, 8, 0), (226, .invokestatic 347, 229, 240, 1), (229, .dup2, 230, 0, 0), (230, .iaload, 231, 0, 0),
  (231, .aload_n 0, 232, 0, 0), (232, .getfield 61, 235, 11, 28), (235, .bipush 6, 237, 0, 0), (237, .iconst 4, 238, 0, 0), (238, .aload_n 0, 239, 0, 0), (239, .getfield 248, 242, 11, 18), (242, .imul, 243, 0, 0), (243, .iload_n 1, 244, 1, 0),
  (244, .iadd, 245, 0, 0), (245, .imul, 246, 0, 0), (246, .iload 7, 248, 7, 0), (248, .iadd, 249, 0, 0), (249, .iaload, 250, 0, 0), (250, .aload_n 0, 251, 0, 0), (251, .getfield 155, 254, 11, 66), (254, .iload 5, 256, 5, 0),
  (256, .iaload, 257, 0, 0), (257, .imul, 258, 0, 0), (258, .iadd, 259, 0, 0), (259, .iastore, 260, 0, 0), (260, .iinc 7 1, 263, 7, 0), (263, .goto (-118), 266, 145, 0), (266, .iinc 5 1, 269, 5, 0), (269, .goto (-186), 272, 83, 0),
  (272, .iconst 0, 273, 0, 0), (273, .istore 5, 275, 5, 0), (275, .iload 5, 277, 5, 0), (277, .iconst 3, 278, 0, 0), (278, .if_icmp .ge 23, 281, 301, 0), (281, .aload_n 0, 282, 0, 0), (282, .getfield 155, 285, 11, 66), (285, .iload 5, 287, 5, 0),
  (287, .aload_n 0, 288, 0, 0), (288, .getfield 158, 291, 11, 67), (291, .iload 5, 293, 5, 0), (293, .iaload, 294, 0, 0), (294, .iastore, 295, 0, 0), (295, .iinc 5 1, 298, 5, 0), (298, .goto (-23), 301, 275, 0), (301, .return_, 302, 0, 0)]
set_option maxRecDepth 20000 in
/-- 289: StoneHomeModel.often(II)I -/
def at_X11_often : List (Nat × am_I) := [(0, .iload_n 1, 1, 1, 0), (1, .iconst 0, 2, 0, 0), (2, .aload_n 0, 3, 0, 0), (3, .getfield 273, 6, 11, 63), (6, .invokestatic 353, 9, 230, 3), (9, .ifCond .eq 7, 12, 16, 0), (12, .iload_n 2, 13, 2, 0), (13, .ifCond .ge 5, 16, 18, 0),
  (16, .iconst (-1), 17, 0, 0), (17, .ireturn, 18, 0, 0), (18, .aload_n 0, 19, 0, 0), (19, .iload_n 1, 20, 1, 0), (20, .iload_n 2, 21, 2, 0), (21, .invokevirtual 470, 24, 286, 2), (24, .istore_n 3, 25, 3, 0), (25, .iload_n 3, 26, 3, 0),
  (26, .ifCond .ge 7, 29, 33, 0), (29, .iconst (-1), 30, 0, 0), (30, .goto 9, 33, 39, 0), (33, .aload_n 0, 34, 0, 0), (34, .iload_n 1, 35, 1, 0), (35, .iload_n 3, 36, 3, 0), (36, .invokevirtual 467, 39, 287, 2), (39, .ireturn, 40, 0, 0)]
set_option maxRecDepth 20000 in
/-- 290: StoneHomeModel.hold(I)Z -/
def at_X11_hold : List (Nat × am_I) := [(0, .iload_n 1, 1, 1, 0), (1, .iconst 0, 2, 0, 0), (2, .iconst 2, 3, 0, 0), (3, .invokestatic 353, 6, 230, 3), (6, .ifCond .ne 5, 9, 11, 0), (9, .iconst 0, 10, 0, 0), (10, .ireturn, 11, 0, 0), (11, .aload_n 0, 12, 0, 0),
  (12, .getfield 161, 15, 11, 68), (15, .iload_n 1, 16, 1, 0), (16, .iconst 1, 17, 0, 0), (17, .bastore, 18, 2, 0), (18, .iconst 0, 19, 0, 0), (19, .istore_n 2, 20, 2, 0), (20, .iload_n 2, 21, 2, 0), (21, .bipush 10, 23, 0, 0),
  (23, .if_icmp .ge 26, 26, 49, 0), (26, .aload_n 0, 27, 0, 0), (27, .getfield 164, 30, 11, 69), (30, .bipush 10, 32, 0, 0), (32, .iload_n 1, 33, 1, 0), (33, .imul, 34, 0, 0), (34, .iload_n 2, 35, 2, 0), (35, .iadd, 36, 0, 0),
  (36, .aload_n 0, 37, 0, 0), (37, .getfield 125, 40, 11, 53), (40, .iload_n 2, 41, 2, 0), (41, .iaload, 42, 0, 0), (42, .iastore, 43, 0, 0), (43, .iinc 2 1, 46, 2, 0), (46, .goto (-26), 49, 20, 0), (49, .iconst 1, 50, 0, 0),
  (50, .ireturn, 51, 0, 0)]
set_option maxRecDepth 20000 in
/-- 291: StoneHomeModel.restore(I)Z -/
def at_X11_restore : List (Nat × am_I) := [(0, .iload_n 1, 1, 1, 0), (1, .iconst 0, 2, 0, 0), (2, .iconst 2, 3, 0, 0), (3, .invokestatic 353, 6, 230, 3), (6, .ifCond .eq 12, 9, 18, 0), (9, .aload_n 0, 10, 0, 0), (10, .getfield 161, 13, 11, 68), (13, .iload_n 1, 14, 1, 0),
  (14, .baload, 15, 2, 0), (15, .ifCond .ne 5, 18, 20, 0), (18, .iconst 0, 19, 0, 0), (19, .ireturn, 20, 0, 0), (20, .iconst 0, 21, 0, 0), (21, .istore_n 2, 22, 2, 0), (22, .iload_n 2, 23, 2, 0), (23, .bipush 10, 25, 0, 0),
  (25, .if_icmp .ge 26, 28, 51, 0), (28, .aload_n 0, 29, 0, 0), (29, .getfield 125, 32, 11, 53), (32, .iload_n 2, 33, 2, 0), (33, .aload_n 0, 34, 0, 0), (34, .getfield 164, 37, 11, 69), (37, .bipush 10, 39, 0, 0), (39, .iload_n 1, 40, 1, 0),
  (40, .imul, 41, 0, 0), (41, .iload_n 2, 42, 2, 0), (42, .iadd, 43, 0, 0), (43, .iaload, 44, 0, 0), (44, .iastore, 45, 0, 0), (45, .iinc 2 1, 48, 2, 0), (48, .goto (-26), 51, 22, 0), (51, .aload_n 0, 52, 0, 0),
  (52, .iconst 0, 53, 0, 0), (53, .putfield 270, 56, 11, 464), (56, .iconst 1, 57, 0, 0), (57, .ireturn, 58, 0, 0)]
set_option maxRecDepth 20000 in
/-- 292: StoneHomeModel.count(I)I -/
def at_X11_count : List (Nat × am_I) := [(0, .iload_n 1, 1, 1, 0), (1, .tableswitch 273 0 10 #[59, 69, 79, 89, 99, 109, 172, 177, 182, 187, 232], 60, 274, 0), (60, .aload_n 0, 61, 0, 0), (61, .getfield 46, 64, 11, 23), (64, .aload_n 0, 65, 0, 0), (65, .getfield 248, 68, 11, 18), (68, .iaload, 69, 0, 0), (69, .ireturn, 70, 0, 0),
  (70, .aload_n 0, 71, 0, 0), (71, .getfield 43, 74, 11, 22), (74, .aload_n 0, 75, 0, 0), (75, .getfield 248, 78, 11, 18), (78, .iaload, 79, 0, 0), (79, .ireturn, 80, 0, 0), (80, .aload_n 0, 81, 0, 0), (81, .getfield 52, 84, 11, 25),
  (84, .aload_n 0, 85, 0, 0), (85, .getfield 248, 88, 11, 18), (88, .iaload, 89, 0, 0), (89, .ireturn, 90, 0, 0), (90, .aload_n 0, 91, 0, 0), (91, .getfield 55, 94, 11, 26), (94, .aload_n 0, 95, 0, 0), (95, .getfield 248, 98, 11, 18),
  (98, .iaload, 99, 0, 0), (99, .ireturn, 100, 0, 0), (100, .aload_n 0, 101, 0, 0), (101, .getfield 82, 104, 11, 35), (104, .aload_n 0, 105, 0, 0), (105, .getfield 248, 108, 11, 18), (108, .iaload, 109, 0, 0), (109, .ireturn, 110, 0, 0),
  (110, .iconst 0, 111, 0, 0), (111, .istore_n 2, 112, 2, 0), (112, .iconst 0, 113, 0, 0), (113, .istore_n 3, 114, 3, 0), (114, .iload_n 3, 115, 3, 0), (115, .aload_n 0, 116, 0, 0), (116, .getfield 43, 119, 11, 22), (119, .aload_n 0, 120, 0, 0),
  (120, .getfield 248, 123, 11, 18), (123, .iaload, 124, 0, 0), (124, .if_icmp .ge 47, 127, 171, 0), (127, .iconst 0, 128, 0, 0), (128, .istore 4, 130, 4, 0), (130, .iload 4, 132, 4, 0), (132, .aload_n 0, 133, 0, 0), (133, .getfield 46, 136, 11, 23),
  (136, .aload_n 0, 137, 0, 0), (137, .getfield 248, 140, 11, 18), (140, .iaload, 141, 0, 0), (141, .if_icmp .ge 24, 144, 165, 0), (144, .aload_n 0, 145, 0, 0), (145, .iload 4, 147, 4, 0), (147, .iload_n 3, 148, 3, 0), (148, .invokevirtual 331, 151, 227, 2),
  (151, .bipush 6, 153, 0, 0), (153, .if_icmp .ne 6, 156, 159, 0), (156, .iinc 2 1, 159, 2, 0), (159, .iinc 4 1, 162, 4, 0), (162, .goto (-32), 165, 130, 0), (165, .iinc 3 1, 168, 3, 0), (168, .goto (-54), 171, 114, 0), (171, .iload_n 2, 172, 2, 0),
  (172, .ireturn, 173, 0, 0), (173, .aload_n 0, 174, 0, 0), (174, .getfield 181, 177, 11, 2), (177, .ireturn, 178, 0, 0), (178, .aload_n 0, 179, 0, 0), (179, .getfield 270, 182, 11, 58), (182, .ireturn, 183, 0, 0), (183, .aload_n 0, 184, 0, 0),
  (184, .getfield 273, 187, 11, 63), (187, .ireturn, 188, 0, 0), (188, .aload_n 0, 189, 0, 0), (189, .getfield 161, 192, 11, 68), (192, .iconst 0, 193, 0, 0), (193, .baload, 194, 2, 0), (194, .ifCond .eq 7, 197, 201, 0), (197, .iconst 1, 198, 0, 0),
  (198, .goto 4, 201, 202, 0), (201, .iconst 0, 202, 0, 0), (202, .aload_n 0, 203, 0, 0), (203, .getfield 161, 206, 11, 68), (206, .iconst 1, 207, 0, 0), (207, .baload, 208, 2, 0), (208, .ifCond .eq 7, 211, 215, 0), (211, .iconst 1, 212, 0, 0),
  (212, .goto 4, 215, 216, 0), (215, .iconst 0, 216, 0, 0), (216, .iadd, 217, 0, 0), (217, .aload_n 0, 218, 0, 0), (218, .getfield 161, 221, 11, 68), (221, .iconst 2, 222, 0, 0), (222, .baload, 223, 2, 0), (223, .ifCond .eq 7, 226, 230, 0),
  (226, .iconst 1, 227, 0, 0), (227, .goto 4, 230, 231, 0), (230, .iconst 0, 231, 0, 0), (231, .iadd, 232, 0, 0), (232, .ireturn, 233, 0, 0), (233, .iconst 0, 234, 0, 0), (234, .istore_n 2, 235, 2, 0), (235, .iconst 0, 236, 0, 0),
  (236, .istore_n 3, 237, 3, 0), (237, .iload_n 3, 238, 3, 0), (238, .aload_n 0, 239, 0, 0), (239, .getfield 55, 242, 11, 26), (242, .aload_n 0, 243, 0, 0), (243, .getfield 248, 246, 11, 18), (246, .iaload, 247, 0, 0), (247, .if_icmp .ge 25, 250, 272, 0),
  (250, .iload_n 2, 251, 2, 0), (251, .aload_n 0, 252, 0, 0), (252, .getfield 58, 255, 11, 27), (255, .iconst 4, 256, 0, 0), (256, .aload_n 0, 257, 0, 0), (257, .getfield 248, 260, 11, 18), (260, .imul, 261, 0, 0), (261, .iload_n 3, 262, 3, 0),
  (262, .iadd, 263, 0, 0), (263, .iaload, 264, 0, 0), (264, .iadd, 265, 0, 0), (265, .istore_n 2, 266, 2, 0), (266, .iinc 3 1, 269, 3, 0), (269, .goto (-32), 272, 237, 0), (272, .iload_n 2, 273, 2, 0), (273, .ireturn, 274, 0, 0),
  (274, .iconst (-1), 275, 0, 0), (275, .ireturn, 276, 0, 0)]
set_option maxRecDepth 20000 in
/-- 293: java/util/Arrays.fill([II)V -/
def at_X13_fill : List (Nat × am_I) := [(0, .iconst 0, 1, 0, 0), (1, .istore_n 2, 2, 2, 0), (2, .aload_n 0, 3, 0, 0), (3, .arraylength, 4, 0, 0), (4, .istore_n 3, 5, 3, 0), (5, .iload_n 2, 6, 2, 0), (6, .iload_n 3, 7, 3, 0), (7, .if_icmp .ge 13, 10, 20, 0),
  (10, .aload_n 0, 11, 0, 0), (11, .iload_n 2, 12, 2, 0), (12, .iload_n 1, 13, 1, 0), (13, .iastore, 14, 0, 0), (14, .iinc 2 1, 17, 2, 0), (17, .goto (-12), 20, 5, 0), (20, .return_, 21, 0, 0)]
set_option maxRecDepth 20000 in
/-- 294: java/lang/String.length()I -/
def at_X15_length : List (Nat × am_I) := [(0, .aload_n 0, 1, 0, 0), (1, .getfield 9, 4, 15, 0), (4, .arraylength, 5, 0, 0), (5, .aload_n 0, 6, 0, 0), (6, .invokevirtual 335, 9, 295, 0), (9, .ishr, 10, 0, 0), (10, .ireturn, 11, 0, 0)]
set_option maxRecDepth 20000 in
/-- 295: java/lang/String.coder()B -/
def at_X15_coder : List (Nat × am_I) := [(0, .getstatic 38, 3, 1, 0), (3, .ifCond .eq 10, 6, 13, 0), (6, .aload_n 0, 7, 0, 0), (7, .getfield 15, 10, 15, 1), (10, .goto 4, 13, 14, 0), (13, .iconst 1, 14, 0, 0), (14, .ireturn, 15, 0, 0)]
set_option maxRecDepth 20000 in
/-- 296: java/lang/String.charAt(I)C -/
def at_X15_charAt : List (Nat × am_I) := [(0, .aload_n 0, 1, 0, 0), (1, .invokevirtual 492, 4, 297, 0), (4, .ifCond .eq 12, 7, 16, 0), (7, .aload_n 0, 8, 0, 0), (8, .getfield 9, 11, 15, 0), (11, .iload_n 1, 12, 1, 0), (12, .invokestatic 495, 15, 300, 2), (15, .ireturn, 16, 0, 0),
  (16, .aload_n 0, 17, 0, 0), (17, .getfield 9, 20, 15, 0), (20, .iload_n 1, 21, 1, 0)]
set_option maxRecDepth 20000 in
/-- 297: java/lang/String.isLatin1()Z -/
def at_X15_isLatin1 : List (Nat × am_I) := [(0, .getstatic 38, 3, 1, 0), (3, .ifCond .eq 14, 6, 17, 0), (6, .aload_n 0, 7, 0, 0), (7, .getfield 15, 10, 15, 1), (10, .ifCond .ne 7, 13, 17, 0), (13, .iconst 1, 14, 0, 0), (14, .goto 4, 17, 18, 0), (17, .iconst 0, 18, 0, 0),
  (18, .ireturn, 19, 0, 0)]
set_option maxRecDepth 20000 in
/-- 298: java/lang/String.indexOf(I)I -/
def at_X15_indexOf_0 : List (Nat × am_I) := [(0, .aload_n 0, 1, 0, 0), (1, .iload_n 1, 2, 1, 0), (2, .iconst 0, 3, 0, 0), (3, .invokevirtual 633, 6, 299, 2), (6, .ireturn, 7, 0, 0)]
set_option maxRecDepth 20000 in
/-- 299: java/lang/String.indexOf(II)I -/
def at_X15_indexOf_1 : List (Nat × am_I) := [(0, .aload_n 0, 1, 0, 0), (1, .invokevirtual 492, 4, 297, 0), (4, .ifCond .eq 19, 7, 23, 0), (7, .aload_n 0, 8, 0, 0), (8, .getfield 9, 11, 15, 0), (11, .iload_n 1, 12, 1, 0), (12, .iload_n 2, 13, 2, 0), (13, .aload_n 0, 14, 0, 0),
  (14, .invokevirtual 505, 17, 294, 0), (17, .invokestatic 637, 20, 301, 4), (20, .goto 16, 23, 36, 0), (23, .aload_n 0, 24, 0, 0), (24, .getfield 9, 27, 15, 0), (27, .iload_n 1, 28, 1, 0), (28, .iload_n 2, 29, 2, 0), (29, .aload_n 0, 30, 0, 0),
  (30, .invokevirtual 505, 33, 294, 0), (36, .ireturn, 37, 0, 0)]
set_option maxRecDepth 20000 in
/-- 300: java/lang/StringLatin1.charAt([BI)C -/
def at_X16_charAt : List (Nat × am_I) := [(0, .iload_n 1, 1, 1, 0), (1, .aload_n 0, 2, 0, 0), (2, .arraylength, 3, 0, 0), (3, .invokestatic 9, 6, 994, 2), (6, .aload_n 0, 7, 0, 0), (7, .iload_n 1, 8, 1, 0), (8, .baload, 9, 1, 0), (9, .sipush 255, 12, 0, 0),
  (12, .iand, 13, 0, 0), (13, .i2c, 14, 0, 0), (14, .ireturn, 15, 0, 0)]
set_option maxRecDepth 20000 in
/-- 301: java/lang/StringLatin1.indexOf([BIII)I -/
def at_X16_indexOf : List (Nat × am_I) := [(0, .iload_n 1, 1, 1, 0), (1, .invokestatic 88, 4, 302, 1), (4, .ifCond .ne 5, 7, 9, 0), (7, .iconst (-1), 8, 0, 0), (8, .ireturn, 9, 0, 0), (9, .iload_n 2, 10, 2, 0), (10, .iconst 0, 11, 0, 0), (11, .invokestatic 92, 14, 996, 2),
  (14, .istore_n 2, 15, 2, 0), (15, .iload_n 3, 16, 3, 0), (16, .aload_n 0, 17, 0, 0), (17, .arraylength, 18, 0, 0), (18, .invokestatic 38, 21, 997, 2), (21, .istore_n 3, 22, 3, 0), (22, .iload_n 2, 23, 2, 0), (23, .iload_n 3, 24, 3, 0),
  (24, .if_icmp .lt 5, 27, 29, 0), (27, .iconst (-1), 28, 0, 0), (28, .ireturn, 29, 0, 0), (29, .aload_n 0, 30, 0, 0), (30, .iload_n 1, 31, 1, 0), (31, .iload_n 2, 32, 2, 0), (32, .iload_n 3, 33, 3, 0), (33, .invokestatic 95, 36, 303, 4),
  (36, .ireturn, 37, 0, 0)]
set_option maxRecDepth 20000 in
/-- 302: java/lang/StringLatin1.canEncode(I)Z -/
def at_X16_canEncode : List (Nat × am_I) := [(0, .iload_n 0, 1, 0, 0), (1, .ifCond .lt 14, 4, 15, 0), (4, .iload_n 0, 5, 0, 0), (5, .sipush 255, 8, 0, 0), (8, .if_icmp .gt 7, 11, 15, 0), (11, .iconst 1, 12, 0, 0), (12, .goto 4, 15, 16, 0), (15, .iconst 0, 16, 0, 0),
  (16, .ireturn, 17, 0, 0)]
set_option maxRecDepth 20000 in
/-- 303: java/lang/StringLatin1.indexOfChar([BIII)I -/
def at_X16_indexOfChar : List (Nat × am_I) := [(0, .iload_n 1, 1, 1, 0), (1, .i2b, 2, 0, 0), (2, .istore 4, 4, 4, 0), (4, .iload_n 2, 5, 2, 0), (5, .istore 5, 7, 5, 0), (7, .iload 5, 9, 5, 0), (9, .iload_n 3, 10, 3, 0), (10, .if_icmp .ge 21, 13, 31, 0),
  (13, .aload_n 0, 14, 0, 0), (14, .iload 5, 16, 5, 0), (16, .baload, 17, 1, 0), (17, .iload 4, 19, 4, 0), (19, .if_icmp .ne 6, 22, 25, 0), (22, .iload 5, 24, 5, 0), (24, .ireturn, 25, 0, 0), (25, .iinc 5 1, 28, 5, 0),
  (28, .goto (-21), 31, 7, 0), (31, .iconst (-1), 32, 0, 0), (32, .ireturn, 33, 0, 0)]
set_option maxRecDepth 20000 in
/-- 304: StoneHomeLaw.law([I)Z -/
def at_L_law : List (Nat × am_I) := [(0, .new 7, 3, 10, 0), (3, .dup, 4, 0, 0), (4, .invokespecial 9, 7, 128, 0), (7, .astore_n 1, 8, 1, 0), (8, .new 10, 11, 11, 0), (11, .dup, 12, 0, 0), (12, .invokespecial 12, 15, 185, 0), (15, .astore_n 2, 16, 2, 0),
  (16, .iconst 0, 17, 0, 0), (17, .istore_n 3, 18, 3, 0), (18, .iload_n 3, 19, 3, 0), (19, .aload_n 0, 20, 0, 0), (20, .arraylength, 21, 0, 0), (21, .bipush 6, 23, 0, 0), (23, .isub, 24, 0, 0), (24, .if_icmp .gt 1197, 27, 1221, 0),
  (27, .aload_n 0, 28, 0, 0), (28, .iload_n 3, 29, 3, 0), (29, .iaload, 30, 0, 0), (30, .bipush 63, 32, 0, 0), (32, .iand, 33, 0, 0), (33, .tableswitch 1182 0 32 #[147, 210, 233, 246, 259, 282, 315, 358, 381, 394, 417, 430, 473, 522, 545, 568, 591, 650, 729, 804, 827, 850, 873, 916, 939, 988, 1001, 1034, 1047, 1080, 1113, 1136, 1159], 180, 1215, 0), (180, .aload_n 1, 181, 1, 0), (181, .aload_n 0, 182, 0, 0),
  (182, .iload_n 3, 183, 3, 0), (183, .iconst 1, 184, 0, 0), (184, .iadd, 185, 0, 0), (185, .iaload, 186, 0, 0), (186, .aload_n 0, 187, 0, 0), (187, .iload_n 3, 188, 3, 0), (188, .iconst 2, 189, 0, 0), (189, .iadd, 190, 0, 0),
  (190, .iaload, 191, 0, 0), (191, .aload_n 0, 192, 0, 0), (192, .iload_n 3, 193, 3, 0), (193, .iconst 3, 194, 0, 0), (194, .iadd, 195, 0, 0), (195, .iaload, 196, 0, 0), (196, .aload_n 0, 197, 0, 0), (197, .iload_n 3, 198, 3, 0),
  (198, .iconst 4, 199, 0, 0), (199, .iadd, 200, 0, 0), (200, .iaload, 201, 0, 0), (201, .aload_n 0, 202, 0, 0), (202, .iload_n 3, 203, 3, 0), (203, .iconst 5, 204, 0, 0), (204, .iadd, 205, 0, 0), (205, .iaload, 206, 0, 0),
  (206, .invokevirtual 13, 209, 132, 5), (209, .aload_n 2, 210, 2, 0), (210, .aload_n 0, 211, 0, 0), (211, .iload_n 3, 212, 3, 0), (212, .iconst 1, 213, 0, 0), (213, .iadd, 214, 0, 0), (214, .iaload, 215, 0, 0), (215, .aload_n 0, 216, 0, 0),
  (216, .iload_n 3, 217, 3, 0), (217, .iconst 2, 218, 0, 0), (218, .iadd, 219, 0, 0), (219, .iaload, 220, 0, 0), (220, .aload_n 0, 221, 0, 0), (221, .iload_n 3, 222, 3, 0), (222, .iconst 3, 223, 0, 0), (223, .iadd, 224, 0, 0),
  (224, .iaload, 225, 0, 0), (225, .aload_n 0, 226, 0, 0), (226, .iload_n 3, 227, 3, 0), (227, .iconst 4, 228, 0, 0), (228, .iadd, 229, 0, 0), (229, .iaload, 230, 0, 0), (230, .aload_n 0, 231, 0, 0), (231, .iload_n 3, 232, 3, 0),
  (232, .iconst 5, 233, 0, 0), (233, .iadd, 234, 0, 0), (234, .iaload, 235, 0, 0), (235, .invokevirtual 17, 238, 191, 5), (238, .if_icmp .eq 977, 241, 1215, 0), (241, .iconst 0, 242, 0, 0), (242, .ireturn, 243, 0, 0), (243, .aload_n 1, 244, 1, 0),
  (244, .aload_n 0, 245, 0, 0), (245, .iload_n 3, 246, 3, 0), (246, .iconst 1, 247, 0, 0), (247, .iadd, 248, 0, 0), (248, .iaload, 249, 0, 0), (249, .invokevirtual 18, 252, 134, 1), (252, .aload_n 2, 253, 2, 0), (253, .aload_n 0, 254, 0, 0),
  (254, .iload_n 3, 255, 3, 0), (255, .iconst 1, 256, 0, 0), (256, .iadd, 257, 0, 0), (257, .iaload, 258, 0, 0), (258, .invokevirtual 22, 261, 193, 1), (261, .if_icmp .eq 954, 264, 1215, 0), (264, .iconst 0, 265, 0, 0), (265, .ireturn, 266, 0, 0),
  (266, .aload_n 1, 267, 1, 0), (267, .invokevirtual 23, 270, 135, 0), (270, .aload_n 2, 271, 2, 0), (271, .invokevirtual 27, 274, 194, 0), (274, .if_icmp .eq 941, 277, 1215, 0), (277, .iconst 0, 278, 0, 0), (278, .ireturn, 279, 0, 0), (279, .aload_n 1, 280, 1, 0),
  (280, .invokevirtual 28, 283, 136, 0), (283, .aload_n 2, 284, 2, 0), (284, .invokevirtual 31, 287, 219, 0), (287, .if_icmp .eq 928, 290, 1215, 0), (290, .iconst 0, 291, 0, 0), (291, .ireturn, 292, 0, 0), (292, .aload_n 1, 293, 1, 0), (293, .aload_n 0, 294, 0, 0),
  (294, .iload_n 3, 295, 3, 0), (295, .iconst 1, 296, 0, 0), (296, .iadd, 297, 0, 0), (297, .iaload, 298, 0, 0), (298, .invokevirtual 32, 301, 137, 1), (301, .aload_n 2, 302, 2, 0), (302, .aload_n 0, 303, 0, 0), (303, .iload_n 3, 304, 3, 0),
  (304, .iconst 1, 305, 0, 0), (305, .iadd, 306, 0, 0), (306, .iaload, 307, 0, 0), (307, .invokevirtual 35, 310, 220, 1), (310, .if_icmp .eq 905, 313, 1215, 0), (313, .iconst 0, 314, 0, 0), (314, .ireturn, 315, 0, 0), (315, .aload_n 1, 316, 1, 0),
  (316, .aload_n 0, 317, 0, 0), (317, .iload_n 3, 318, 3, 0), (318, .iconst 1, 319, 0, 0), (319, .iadd, 320, 0, 0), (320, .iaload, 321, 0, 0), (321, .aload_n 0, 322, 0, 0), (322, .iload_n 3, 323, 3, 0), (323, .iconst 2, 324, 0, 0),
  (324, .iadd, 325, 0, 0), (325, .iaload, 326, 0, 0), (326, .invokevirtual 36, 329, 140, 2), (329, .aload_n 2, 330, 2, 0), (330, .aload_n 0, 331, 0, 0), (331, .iload_n 3, 332, 3, 0), (332, .iconst 1, 333, 0, 0), (333, .iadd, 334, 0, 0),
  (334, .iaload, 335, 0, 0), (335, .aload_n 0, 336, 0, 0), (336, .iload_n 3, 337, 3, 0), (337, .iconst 2, 338, 0, 0), (338, .iadd, 339, 0, 0), (339, .iaload, 340, 0, 0), (340, .invokevirtual 40, 343, 228, 2), (343, .if_icmp .eq 872, 346, 1215, 0),
  (346, .iconst 0, 347, 0, 0), (347, .ireturn, 348, 0, 0), (348, .aload_n 1, 349, 1, 0), (349, .aload_n 0, 350, 0, 0), (350, .iload_n 3, 351, 3, 0), (351, .iconst 1, 352, 0, 0), (352, .iadd, 353, 0, 0), (353, .iaload, 354, 0, 0),
  (354, .aload_n 0, 355, 0, 0), (355, .iload_n 3, 356, 3, 0), (356, .iconst 2, 357, 0, 0), (357, .iadd, 358, 0, 0), (358, .iaload, 359, 0, 0), (359, .aload_n 0, 360, 0, 0), (360, .iload_n 3, 361, 3, 0), (361, .iconst 3, 362, 0, 0),
  (362, .iadd, 363, 0, 0), (363, .iaload, 364, 0, 0), (364, .invokevirtual 41, 367, 141, 3), (367, .aload_n 2, 368, 2, 0), (368, .aload_n 0, 369, 0, 0), (369, .iload_n 3, 370, 3, 0), (370, .iconst 1, 371, 0, 0), (371, .iadd, 372, 0, 0),
  (372, .iaload, 373, 0, 0), (373, .aload_n 0, 374, 0, 0), (374, .iload_n 3, 375, 3, 0), (375, .iconst 2, 376, 0, 0), (376, .iadd, 377, 0, 0), (377, .iaload, 378, 0, 0), (378, .aload_n 0, 379, 0, 0), (379, .iload_n 3, 380, 3, 0),
  (380, .iconst 3, 381, 0, 0), (381, .iadd, 382, 0, 0), (382, .iaload, 383, 0, 0), (383, .invokevirtual 45, 386, 231, 3), (386, .if_icmp .eq 829, 389, 1215, 0), (389, .iconst 0, 390, 0, 0), (390, .ireturn, 391, 0, 0), (391, .aload_n 1, 392, 1, 0),
  (392, .aload_n 0, 393, 0, 0), (393, .iload_n 3, 394, 3, 0), (394, .iconst 1, 395, 0, 0), (395, .iadd, 396, 0, 0), (396, .iaload, 397, 0, 0), (397, .invokevirtual 46, 400, 142, 1), (400, .aload_n 2, 401, 2, 0), (401, .aload_n 0, 402, 0, 0),
  (402, .iload_n 3, 403, 3, 0), (403, .iconst 1, 404, 0, 0), (404, .iadd, 405, 0, 0), (405, .iaload, 406, 0, 0), (406, .invokevirtual 49, 409, 235, 1), (409, .if_icmp .eq 806, 412, 1215, 0), (412, .iconst 0, 413, 0, 0), (413, .ireturn, 414, 0, 0),
  (414, .aload_n 1, 415, 1, 0), (415, .invokevirtual 50, 418, 148, 0), (418, .aload_n 2, 419, 2, 0), (419, .invokevirtual 53, 422, 246, 0), (422, .if_icmp .eq 793, 425, 1215, 0), (425, .iconst 0, 426, 0, 0), (426, .ireturn, 427, 0, 0), (427, .aload_n 1, 428, 1, 0),
  (428, .aload_n 0, 429, 0, 0), (429, .iload_n 3, 430, 3, 0), (430, .iconst 1, 431, 0, 0), (431, .iadd, 432, 0, 0), (432, .iaload, 433, 0, 0), (433, .invokevirtual 54, 436, 149, 1), (436, .aload_n 2, 437, 2, 0), (437, .aload_n 0, 438, 0, 0),
  (438, .iload_n 3, 439, 3, 0), (439, .iconst 1, 440, 0, 0), (440, .iadd, 441, 0, 0), (441, .iaload, 442, 0, 0), (442, .invokevirtual 58, 445, 248, 1), (445, .if_icmp .eq 770, 448, 1215, 0), (448, .iconst 0, 449, 0, 0), (449, .ireturn, 450, 0, 0),
  (450, .aload_n 1, 451, 1, 0), (451, .invokevirtual 59, 454, 151, 0), (454, .aload_n 2, 455, 2, 0), (455, .invokevirtual 63, 458, 250, 0), (458, .if_icmp .eq 757, 461, 1215, 0), (461, .iconst 0, 462, 0, 0), (462, .ireturn, 463, 0, 0), (463, .aload_n 1, 464, 1, 0),
  (464, .aload_n 0, 465, 0, 0), (465, .iload_n 3, 466, 3, 0), (466, .iconst 1, 467, 0, 0), (467, .iadd, 468, 0, 0), (468, .iaload, 469, 0, 0), (469, .aload_n 0, 470, 0, 0), (470, .iload_n 3, 471, 3, 0), (471, .iconst 2, 472, 0, 0),
  (472, .iadd, 473, 0, 0), (473, .iaload, 474, 0, 0), (474, .aload_n 0, 475, 0, 0), (475, .iload_n 3, 476, 3, 0), (476, .iconst 3, 477, 0, 0), (477, .iadd, 478, 0, 0), (478, .iaload, 479, 0, 0), (479, .invokevirtual 64, 482, 152, 3),
  (482, .aload_n 2, 483, 2, 0), (483, .aload_n 0, 484, 0, 0), (484, .iload_n 3, 485, 3, 0), (485, .iconst 1, 486, 0, 0), (486, .iadd, 487, 0, 0), (487, .iaload, 488, 0, 0), (488, .aload_n 0, 489, 0, 0), (489, .iload_n 3, 490, 3, 0),
  (490, .iconst 2, 491, 0, 0), (491, .iadd, 492, 0, 0), (492, .iaload, 493, 0, 0), (493, .aload_n 0, 494, 0, 0), (494, .iload_n 3, 495, 3, 0), (495, .iconst 3, 496, 0, 0), (496, .iadd, 497, 0, 0), (497, .iaload, 498, 0, 0),
  (498, .invokevirtual 67, 501, 251, 3), (501, .if_icmp .eq 714, 504, 1215, 0), (504, .iconst 0, 505, 0, 0), (505, .ireturn, 506, 0, 0), (506, .aload_n 1, 507, 1, 0), (507, .aload_n 0, 508, 0, 0), (508, .iload_n 3, 509, 3, 0), (509, .iconst 1, 510, 0, 0),
  (510, .iadd, 511, 0, 0), (511, .iaload, 512, 0, 0), (512, .aload_n 0, 513, 0, 0), (513, .iload_n 3, 514, 3, 0), (514, .iconst 2, 515, 0, 0), (515, .iadd, 516, 0, 0), (516, .iaload, 517, 0, 0), (517, .ifCond .eq 7, 520, 524, 0),
  (520, .iconst 1, 521, 0, 0), (521, .goto 4, 524, 525, 0), (524, .iconst 0, 525, 0, 0), (525, .invokevirtual 68, 528, 153, 2), (528, .aload_n 2, 529, 2, 0), (529, .aload_n 0, 530, 0, 0), (530, .iload_n 3, 531, 3, 0), (531, .iconst 1, 532, 0, 0),
  (532, .iadd, 533, 0, 0), (533, .iaload, 534, 0, 0), (534, .aload_n 0, 535, 0, 0), (535, .iload_n 3, 536, 3, 0), (536, .iconst 2, 537, 0, 0), (537, .iadd, 538, 0, 0), (538, .iaload, 539, 0, 0), (539, .ifCond .eq 7, 542, 546, 0),
  (542, .iconst 1, 543, 0, 0), (543, .goto 4, 546, 547, 0), (546, .iconst 0, 547, 0, 0), (547, .invokevirtual 72, 550, 253, 2), (550, .if_icmp .eq 665, 553, 1215, 0), (553, .iconst 0, 554, 0, 0), (554, .ireturn, 555, 0, 0), (555, .aload_n 1, 556, 1, 0),
  (556, .aload_n 0, 557, 0, 0), (557, .iload_n 3, 558, 3, 0), (558, .iconst 1, 559, 0, 0), (559, .iadd, 560, 0, 0), (560, .iaload, 561, 0, 0), (561, .invokevirtual 73, 564, 159, 1), (564, .aload_n 2, 565, 2, 0), (565, .aload_n 0, 566, 0, 0),
  (566, .iload_n 3, 567, 3, 0), (567, .iconst 1, 568, 0, 0), (568, .iadd, 569, 0, 0), (569, .iaload, 570, 0, 0), (570, .invokevirtual 76, 573, 264, 1), (573, .if_icmp .eq 642, 576, 1215, 0), (576, .iconst 0, 577, 0, 0), (577, .ireturn, 578, 0, 0),
  (578, .aload_n 1, 579, 1, 0), (579, .aload_n 0, 580, 0, 0), (580, .iload_n 3, 581, 3, 0), (581, .iconst 1, 582, 0, 0), (582, .iadd, 583, 0, 0), (583, .iaload, 584, 0, 0), (584, .invokevirtual 77, 587, 161, 1), (587, .aload_n 2, 588, 2, 0),
  (588, .aload_n 0, 589, 0, 0), (589, .iload_n 3, 590, 3, 0), (590, .iconst 1, 591, 0, 0), (591, .iadd, 592, 0, 0), (592, .iaload, 593, 0, 0), (593, .invokevirtual 80, 596, 265, 1), (596, .if_icmp .eq 619, 599, 1215, 0), (599, .iconst 0, 600, 0, 0),
  (600, .ireturn, 601, 0, 0), (601, .aload_n 1, 602, 1, 0), (602, .aload_n 0, 603, 0, 0), (603, .iload_n 3, 604, 3, 0), (604, .iconst 1, 605, 0, 0), (605, .iadd, 606, 0, 0), (606, .iaload, 607, 0, 0), (607, .invokevirtual 81, 610, 162, 1),
  (610, .aload_n 2, 611, 2, 0), (611, .aload_n 0, 612, 0, 0), (612, .iload_n 3, 613, 3, 0), (613, .iconst 1, 614, 0, 0), (614, .iadd, 615, 0, 0), (615, .iaload, 616, 0, 0), (616, .invokevirtual 84, 619, 266, 1), (619, .if_icmp .eq 596, 622, 1215, 0),
  (622, .iconst 0, 623, 0, 0), (623, .ireturn, 624, 0, 0), (624, .aload_n 1, 625, 1, 0), (625, .aload_n 0, 626, 0, 0), (626, .iload_n 3, 627, 3, 0), (627, .iconst 1, 628, 0, 0), (628, .iadd, 629, 0, 0), (629, .iaload, 630, 0, 0),
  (630, .aload_n 0, 631, 0, 0), (631, .iload_n 3, 632, 3, 0), (632, .iconst 2, 633, 0, 0), (633, .iadd, 634, 0, 0), (634, .iaload, 635, 0, 0), (635, .aload_n 0, 636, 0, 0), (636, .iload_n 3, 637, 3, 0), (637, .iconst 3, 638, 0, 0),
  (638, .iadd, 639, 0, 0), (639, .iaload, 640, 0, 0), (640, .ifCond .eq 7, 643, 647, 0), (643, .iconst 1, 644, 0, 0), (644, .goto 4, 647, 648, 0), (647, .iconst 0, 648, 0, 0), (648, .invokevirtual 85, 651, 163, 3), (651, .aload_n 2, 652, 2, 0),
  (652, .aload_n 0, 653, 0, 0), (653, .iload_n 3, 654, 3, 0), (654, .iconst 1, 655, 0, 0), (655, .iadd, 656, 0, 0), (656, .iaload, 657, 0, 0), (657, .aload_n 0, 658, 0, 0), (658, .iload_n 3, 659, 3, 0), (659, .iconst 2, 660, 0, 0),
  (660, .iadd, 661, 0, 0), (661, .iaload, 662, 0, 0), (662, .aload_n 0, 663, 0, 0), (663, .iload_n 3, 664, 3, 0), (664, .iconst 3, 665, 0, 0), (665, .iadd, 666, 0, 0), (666, .iaload, 667, 0, 0), (667, .ifCond .eq 7, 670, 674, 0),
  (670, .iconst 1, 671, 0, 0), (671, .goto 4, 674, 675, 0), (674, .iconst 0, 675, 0, 0), (675, .invokevirtual 89, 678, 267, 3), (678, .if_icmp .eq 537, 681, 1215, 0), (681, .iconst 0, 682, 0, 0), (682, .ireturn, 683, 0, 0), (683, .aload_n 1, 684, 1, 0),
  (684, .aload_n 0, 685, 0, 0), (685, .iload_n 3, 686, 3, 0), (686, .iconst 1, 687, 0, 0), (687, .iadd, 688, 0, 0), (688, .iaload, 689, 0, 0), (689, .aload_n 0, 690, 0, 0), (690, .iload_n 3, 691, 3, 0), (691, .iconst 2, 692, 0, 0),
  (692, .iadd, 693, 0, 0), (693, .iaload, 694, 0, 0), (694, .aload_n 0, 695, 0, 0), (695, .iload_n 3, 696, 3, 0), (696, .iconst 3, 697, 0, 0), (697, .iadd, 698, 0, 0), (698, .iaload, 699, 0, 0), (699, .aload_n 0, 700, 0, 0),
  (700, .iload_n 3, 701, 3, 0), (701, .iconst 4, 702, 0, 0), (702, .iadd, 703, 0, 0), (703, .iaload, 704, 0, 0), (704, .aload_n 0, 705, 0, 0), (705, .iload_n 3, 706, 3, 0), (706, .iconst 5, 707, 0, 0), (707, .iadd, 708, 0, 0),
  (708, .iaload, 709, 0, 0), (709, .ifCond .eq 7, 712, 716, 0), (712, .iconst 1, 713, 0, 0), (713, .goto 4, 716, 717, 0), (716, .iconst 0, 717, 0, 0), (717, .invokevirtual 90, 720, 165, 5), (720, .aload_n 2, 721, 2, 0), (721, .aload_n 0, 722, 0, 0),
  (722, .iload_n 3, 723, 3, 0), (723, .iconst 1, 724, 0, 0), (724, .iadd, 725, 0, 0), (725, .iaload, 726, 0, 0), (726, .aload_n 0, 727, 0, 0), (727, .iload_n 3, 728, 3, 0), (728, .iconst 2, 729, 0, 0), (729, .iadd, 730, 0, 0),
  (730, .iaload, 731, 0, 0), (731, .aload_n 0, 732, 0, 0), (732, .iload_n 3, 733, 3, 0), (733, .iconst 3, 734, 0, 0), (734, .iadd, 735, 0, 0), (735, .iaload, 736, 0, 0), (736, .aload_n 0, 737, 0, 0), (737, .iload_n 3, 738, 3, 0),
  (738, .iconst 4, 739, 0, 0), (739, .iadd, 740, 0, 0), (740, .iaload, 741, 0, 0), (741, .aload_n 0, 742, 0, 0), (742, .iload_n 3, 743, 3, 0), (743, .iconst 5, 744, 0, 0), (744, .iadd, 745, 0, 0), (745, .iaload, 746, 0, 0),
  (746, .ifCond .eq 7, 749, 753, 0), (749, .iconst 1, 750, 0, 0), (750, .goto 4, 753, 754, 0), (753, .iconst 0, 754, 0, 0), (754, .invokevirtual 94, 757, 269, 5), (757, .if_icmp .eq 458, 760, 1215, 0), (760, .iconst 0, 761, 0, 0), (761, .ireturn, 762, 0, 0),
  (762, .aload_n 1, 763, 1, 0), (763, .aload_n 0, 764, 0, 0), (764, .iload_n 3, 765, 3, 0), (765, .iconst 1, 766, 0, 0), (766, .iadd, 767, 0, 0), (767, .iaload, 768, 0, 0), (768, .aload_n 0, 769, 0, 0), (769, .iload_n 3, 770, 3, 0),
  (770, .iconst 2, 771, 0, 0), (771, .iadd, 772, 0, 0), (772, .iaload, 773, 0, 0), (773, .ifCond .eq 7, 776, 780, 0), (776, .iconst 1, 777, 0, 0), (777, .goto 4, 780, 781, 0), (780, .iconst 0, 781, 0, 0), (781, .aload_n 0, 782, 0, 0),
  (782, .iload_n 3, 783, 3, 0), (783, .iconst 3, 784, 0, 0), (784, .iadd, 785, 0, 0), (785, .iaload, 786, 0, 0), (786, .ifCond .eq 7, 789, 793, 0), (789, .iconst 1, 790, 0, 0), (790, .goto 4, 793, 794, 0), (793, .iconst 0, 794, 0, 0),
  (794, .invokevirtual 95, 797, 166, 3), (797, .aload_n 2, 798, 2, 0), (798, .aload_n 0, 799, 0, 0), (799, .iload_n 3, 800, 3, 0), (800, .iconst 1, 801, 0, 0), (801, .iadd, 802, 0, 0), (802, .iaload, 803, 0, 0), (803, .aload_n 0, 804, 0, 0),
  (804, .iload_n 3, 805, 3, 0), (805, .iconst 2, 806, 0, 0), (806, .iadd, 807, 0, 0), (807, .iaload, 808, 0, 0), (808, .ifCond .eq 7, 811, 815, 0), (811, .iconst 1, 812, 0, 0), (812, .goto 4, 815, 816, 0), (815, .iconst 0, 816, 0, 0),
  (816, .aload_n 0, 817, 0, 0), (817, .iload_n 3, 818, 3, 0), (818, .iconst 3, 819, 0, 0), (819, .iadd, 820, 0, 0), (820, .iaload, 821, 0, 0), (821, .ifCond .eq 7, 824, 828, 0), (824, .iconst 1, 825, 0, 0), (825, .goto 4, 828, 829, 0),
  (828, .iconst 0, 829, 0, 0), (829, .invokevirtual 99, 832, 272, 3), (832, .if_icmp .eq 383, 835, 1215, 0), (835, .iconst 0, 836, 0, 0), (836, .ireturn, 837, 0, 0), (837, .aload_n 1, 838, 1, 0), (838, .aload_n 0, 839, 0, 0), (839, .iload_n 3, 840, 3, 0),
  (840, .iconst 1, 841, 0, 0), (841, .iadd, 842, 0, 0), (842, .iaload, 843, 0, 0), (843, .invokevirtual 100, 846, 168, 1), (846, .aload_n 2, 847, 2, 0), (847, .aload_n 0, 848, 0, 0), (848, .iload_n 3, 849, 3, 0), (849, .iconst 1, 850, 0, 0),
  (850, .iadd, 851, 0, 0), (851, .iaload, 852, 0, 0), (852, .invokevirtual 103, 855, 273, 1), (855, .if_icmp .eq 360, 858, 1215, 0), (858, .iconst 0, 859, 0, 0), (859, .ireturn, 860, 0, 0), (860, .aload_n 1, 861, 1, 0), (861, .aload_n 0, 862, 0, 0),
  (862, .iload_n 3, 863, 3, 0), (863, .iconst 1, 864, 0, 0), (864, .iadd, 865, 0, 0), (865, .iaload, 866, 0, 0), (866, .invokevirtual 104, 869, 169, 1), (869, .aload_n 2, 870, 2, 0), (870, .aload_n 0, 871, 0, 0), (871, .iload_n 3, 872, 3, 0),
  (872, .iconst 1, 873, 0, 0), (873, .iadd, 874, 0, 0), (874, .iaload, 875, 0, 0), (875, .invokevirtual 107, 878, 274, 1), (878, .if_icmp .eq 337, 881, 1215, 0), (881, .iconst 0, 882, 0, 0), (882, .ireturn, 883, 0, 0), (883, .aload_n 1, 884, 1, 0),
  (884, .aload_n 0, 885, 0, 0), (885, .iload_n 3, 886, 3, 0), (886, .iconst 1, 887, 0, 0), (887, .iadd, 888, 0, 0), (888, .iaload, 889, 0, 0), (889, .invokevirtual 108, 892, 170, 1), (892, .aload_n 2, 893, 2, 0), (893, .aload_n 0, 894, 0, 0),
  (894, .iload_n 3, 895, 3, 0), (895, .iconst 1, 896, 0, 0), (896, .iadd, 897, 0, 0), (897, .iaload, 898, 0, 0), (898, .invokevirtual 111, 901, 275, 1), (901, .if_icmp .eq 314, 904, 1215, 0), (904, .iconst 0, 905, 0, 0), (905, .ireturn, 906, 0, 0),
  (906, .aload_n 1, 907, 1, 0), (907, .aload_n 0, 908, 0, 0), (908, .iload_n 3, 909, 3, 0), (909, .iconst 1, 910, 0, 0), (910, .iadd, 911, 0, 0), (911, .iaload, 912, 0, 0), (912, .aload_n 0, 913, 0, 0), (913, .iload_n 3, 914, 3, 0),
  (914, .iconst 2, 915, 0, 0), (915, .iadd, 916, 0, 0), (916, .iaload, 917, 0, 0), (917, .aload_n 0, 918, 0, 0), (918, .iload_n 3, 919, 3, 0), (919, .iconst 3, 920, 0, 0), (920, .iadd, 921, 0, 0), (921, .iaload, 922, 0, 0),
  (922, .invokevirtual 112, 925, 172, 3), (925, .aload_n 2, 926, 2, 0), (926, .aload_n 0, 927, 0, 0), (927, .iload_n 3, 928, 3, 0), (928, .iconst 1, 929, 0, 0), (929, .iadd, 930, 0, 0), (930, .iaload, 931, 0, 0), (931, .aload_n 0, 932, 0, 0),
  (932, .iload_n 3, 933, 3, 0), (933, .iconst 2, 934, 0, 0), (934, .iadd, 935, 0, 0), (935, .iaload, 936, 0, 0), (936, .aload_n 0, 937, 0, 0), (937, .iload_n 3, 938, 3, 0), (938, .iconst 3, 939, 0, 0), (939, .iadd, 940, 0, 0),
  (940, .iaload, 941, 0, 0), (941, .invokevirtual 115, 944, 276, 3), (944, .if_icmp .eq 271, 947, 1215, 0), (947, .iconst 0, 948, 0, 0), (948, .ireturn, 949, 0, 0), (949, .aload_n 1, 950, 1, 0), (950, .aload_n 0, 951, 0, 0), (951, .iload_n 3, 952, 3, 0),
  (952, .iconst 1, 953, 0, 0), (953, .iadd, 954, 0, 0), (954, .iaload, 955, 0, 0), (955, .invokevirtual 116, 958, 173, 1), (958, .aload_n 2, 959, 2, 0), (959, .aload_n 0, 960, 0, 0), (960, .iload_n 3, 961, 3, 0), (961, .iconst 1, 962, 0, 0),
  (962, .iadd, 963, 0, 0), (963, .iaload, 964, 0, 0), (964, .invokevirtual 119, 967, 277, 1), (967, .if_icmp .eq 248, 970, 1215, 0), (970, .iconst 0, 971, 0, 0), (971, .ireturn, 972, 0, 0), (972, .aload_n 1, 973, 1, 0), (973, .aload_n 0, 974, 0, 0),
  (974, .iload_n 3, 975, 3, 0), (975, .iconst 1, 976, 0, 0), (976, .iadd, 977, 0, 0), (977, .iaload, 978, 0, 0), (978, .aload_n 0, 979, 0, 0), (979, .iload_n 3, 980, 3, 0), (980, .iconst 2, 981, 0, 0), (981, .iadd, 982, 0, 0),
  (982, .iaload, 983, 0, 0), (983, .ifCond .eq 7, 986, 990, 0), (986, .iconst 1, 987, 0, 0), (987, .goto 4, 990, 991, 0), (990, .iconst 0, 991, 0, 0), (991, .invokevirtual 120, 994, 175, 2), (994, .aload_n 2, 995, 2, 0), (995, .aload_n 0, 996, 0, 0),
  (996, .iload_n 3, 997, 3, 0), (997, .iconst 1, 998, 0, 0), (998, .iadd, 999, 0, 0), (999, .iaload, 1000, 0, 0), (1000, .aload_n 0, 1001, 0, 0), (1001, .iload_n 3, 1002, 3, 0), (1002, .iconst 2, 1003, 0, 0), (1003, .iadd, 1004, 0, 0),
  (1004, .iaload, 1005, 0, 0), (1005, .ifCond .eq 7, 1008, 1012, 0), (1008, .iconst 1, 1009, 0, 0), (1009, .goto 4, 1012, 1013, 0), (1012, .iconst 0, 1013, 0, 0), (1013, .invokevirtual 123, 1016, 278, 2), (1016, .if_icmp .eq 199, 1019, 1215, 0), (1019, .iconst 0, 1020, 0, 0),
  (1020, .ireturn, 1021, 0, 0), (1021, .aload_n 1, 1022, 1, 0), (1022, .invokevirtual 124, 1025, 176, 0), (1025, .aload_n 2, 1026, 2, 0), (1026, .invokevirtual 127, 1029, 252, 0), (1029, .if_icmp .eq 186, 1032, 1215, 0), (1032, .iconst 0, 1033, 0, 0), (1033, .ireturn, 1034, 0, 0),
  (1034, .aload_n 1, 1035, 1, 0), (1035, .aload_n 0, 1036, 0, 0), (1036, .iload_n 3, 1037, 3, 0), (1037, .iconst 1, 1038, 0, 0), (1038, .iadd, 1039, 0, 0), (1039, .iaload, 1040, 0, 0), (1040, .aload_n 0, 1041, 0, 0), (1041, .iload_n 3, 1042, 3, 0),
  (1042, .iconst 2, 1043, 0, 0), (1043, .iadd, 1044, 0, 0), (1044, .iaload, 1045, 0, 0), (1045, .invokevirtual 128, 1048, 177, 2), (1048, .aload_n 2, 1049, 2, 0), (1049, .aload_n 0, 1050, 0, 0), (1050, .iload_n 3, 1051, 3, 0), (1051, .iconst 1, 1052, 0, 0),
  (1052, .iadd, 1053, 0, 0), (1053, .iaload, 1054, 0, 0), (1054, .aload_n 0, 1055, 0, 0), (1055, .iload_n 3, 1056, 3, 0), (1056, .iconst 2, 1057, 0, 0), (1057, .iadd, 1058, 0, 0), (1058, .iaload, 1059, 0, 0), (1059, .invokevirtual 131, 1062, 283, 2),
  (1062, .if_icmp .eq 153, 1065, 1215, 0), (1065, .iconst 0, 1066, 0, 0), (1066, .ireturn, 1067, 0, 0), (1067, .aload_n 1, 1068, 1, 0), (1068, .invokevirtual 132, 1071, 178, 0), (1071, .aload_n 2, 1072, 2, 0), (1072, .invokevirtual 135, 1075, 284, 0), (1075, .if_icmp .eq 140, 1078, 1215, 0),
  (1078, .iconst 0, 1079, 0, 0), (1079, .ireturn, 1080, 0, 0), (1080, .aload_n 1, 1081, 1, 0), (1081, .aload_n 0, 1082, 0, 0), (1082, .iload_n 3, 1083, 3, 0), (1083, .iconst 1, 1084, 0, 0), (1084, .iadd, 1085, 0, 0), (1085, .iaload, 1086, 0, 0),
  (1086, .aload_n 0, 1087, 0, 0), (1087, .iload_n 3, 1088, 3, 0), (1088, .iconst 2, 1089, 0, 0), (1089, .iadd, 1090, 0, 0), (1090, .iaload, 1091, 0, 0), (1091, .invokevirtual 136, 1094, 179, 2), (1094, .aload_n 2, 1095, 2, 0), (1095, .aload_n 0, 1096, 0, 0),
  (1096, .iload_n 3, 1097, 3, 0), (1097, .iconst 1, 1098, 0, 0), (1098, .iadd, 1099, 0, 0), (1099, .iaload, 1100, 0, 0), (1100, .aload_n 0, 1101, 0, 0), (1101, .iload_n 3, 1102, 3, 0), (1102, .iconst 2, 1103, 0, 0), (1103, .iadd, 1104, 0, 0),
  (1104, .iaload, 1105, 0, 0), (1105, .invokevirtual 139, 1108, 285, 2), (1108, .if_icmp .eq 107, 1111, 1215, 0), (1111, .iconst 0, 1112, 0, 0), (1112, .ireturn, 1113, 0, 0), (1113, .aload_n 1, 1114, 1, 0), (1114, .aload_n 0, 1115, 0, 0), (1115, .iload_n 3, 1116, 3, 0),
  (1116, .iconst 1, 1117, 0, 0), (1117, .iadd, 1118, 0, 0), (1118, .iaload, 1119, 0, 0), (1119, .aload_n 0, 1120, 0, 0), (1120, .iload_n 3, 1121, 3, 0), (1121, .iconst 2, 1122, 0, 0), (1122, .iadd, 1123, 0, 0), (1123, .iaload, 1124, 0, 0),
  (1124, .invokevirtual 140, 1127, 180, 2), (1127, .aload_n 2, 1128, 2, 0), (1128, .aload_n 0, 1129, 0, 0), (1129, .iload_n 3, 1130, 3, 0), (1130, .iconst 1, 1131, 0, 0), (1131, .iadd, 1132, 0, 0), (1132, .iaload, 1133, 0, 0), (1133, .aload_n 0, 1134, 0, 0),
  (1134, .iload_n 3, 1135, 3, 0), (1135, .iconst 2, 1136, 0, 0), (1136, .iadd, 1137, 0, 0), (1137, .iaload, 1138, 0, 0), (1138, .invokevirtual 143, 1141, 289, 2), (1141, .if_icmp .eq 74, 1144, 1215, 0), (1144, .iconst 0, 1145, 0, 0), (1145, .ireturn, 1146, 0, 0),
  (1146, .aload_n 1, 1147, 1, 0), (1147, .aload_n 0, 1148, 0, 0), (1148, .iload_n 3, 1149, 3, 0), (1149, .iconst 1, 1150, 0, 0), (1150, .iadd, 1151, 0, 0), (1151, .iaload, 1152, 0, 0), (1152, .invokevirtual 144, 1155, 181, 1), (1155, .aload_n 2, 1156, 2, 0),
  (1156, .aload_n 0, 1157, 0, 0), (1157, .iload_n 3, 1158, 3, 0), (1158, .iconst 1, 1159, 0, 0), (1159, .iadd, 1160, 0, 0), (1160, .iaload, 1161, 0, 0), (1161, .invokevirtual 147, 1164, 290, 1), (1164, .if_icmp .eq 51, 1167, 1215, 0), (1167, .iconst 0, 1168, 0, 0),
  (1168, .ireturn, 1169, 0, 0), (1169, .aload_n 1, 1170, 1, 0), (1170, .aload_n 0, 1171, 0, 0), (1171, .iload_n 3, 1172, 3, 0), (1172, .iconst 1, 1173, 0, 0), (1173, .iadd, 1174, 0, 0), (1174, .iaload, 1175, 0, 0), (1175, .invokevirtual 148, 1178, 182, 1),
  (1178, .aload_n 2, 1179, 2, 0), (1179, .aload_n 0, 1180, 0, 0), (1180, .iload_n 3, 1181, 3, 0), (1181, .iconst 1, 1182, 0, 0), (1182, .iadd, 1183, 0, 0), (1183, .iaload, 1184, 0, 0), (1184, .invokevirtual 151, 1187, 291, 1), (1187, .if_icmp .eq 28, 1190, 1215, 0),
  (1190, .iconst 0, 1191, 0, 0), (1191, .ireturn, 1192, 0, 0), (1192, .aload_n 1, 1193, 1, 0), (1193, .aload_n 0, 1194, 0, 0), (1194, .iload_n 3, 1195, 3, 0), (1195, .iconst 1, 1196, 0, 0), (1196, .iadd, 1197, 0, 0), (1197, .iaload, 1198, 0, 0),
  (1198, .invokevirtual 152, 1201, 183, 1), (1201, .aload_n 2, 1202, 2, 0), (1202, .aload_n 0, 1203, 0, 0), (1203, .iload_n 3, 1204, 3, 0), (1204, .iconst 1, 1205, 0, 0), (1205, .iadd, 1206, 0, 0), (1206, .iaload, 1207, 0, 0), (1207, .invokevirtual 155, 1210, 292, 1),
  (1210, .if_icmp .eq 5, 1213, 1215, 0), (1213, .iconst 0, 1214, 0, 0), (1214, .ireturn, 1215, 0, 0), (1215, .iinc 3 6, 1218, 3, 0), (1218, .goto (-1200), 1221, 18, 0), (1221, .iconst 1, 1222, 0, 0), (1222, .ireturn, 1223, 0, 0)]
def am_pb0 : List am_M := [(0, 3, 0, at_X0_init), (0, 2, 0, at_X0_follow), (0, 7, 0, at_X0_look), (0, 2, 0, at_X0_swap),
  (0, 7, 0, at_X0_fillLayer), (0, 5, 1, at_X0_chanceThere), (0, 9, 1, at_X0_chanceBy), (0, 4, 1, at_X0_laterChance),
  (0, 3, 1, at_X0_placeFor), (0, 4, 1, at_X0_chanceAtRest), (0, 4, 1, at_X0_chance), (0, 8, 1, at_X0_bestAction),
  (1, 1, 0, at_X1_init), (1, 1, 0, at_X1_clear), (1, 2, 0, at_X1_start), (1, 2, 0, at_X1_push)]
def am_yb0 : List MethodName := [⟨"StoneHome$Forecast", "<init>", "(LStoneHome$Table;LStoneHome$Street;)V"⟩, ⟨"StoneHome$Forecast", "follow", "(LStoneHome$Street;)V"⟩,
  ⟨"StoneHome$Forecast", "look", "(IIII)V"⟩, ⟨"StoneHome$Forecast", "swap", "()V"⟩,
  ⟨"StoneHome$Forecast", "fillLayer", "(I)V"⟩, ⟨"StoneHome$Forecast", "chanceThere", "(II)I"⟩,
  ⟨"StoneHome$Forecast", "chanceBy", "(III)I"⟩, ⟨"StoneHome$Forecast", "laterChance", "(II)I"⟩,
  ⟨"StoneHome$Forecast", "placeFor", "(II)I"⟩, ⟨"StoneHome$Forecast", "chanceAtRest", "(II)I"⟩,
  ⟨"StoneHome$Forecast", "chance", "(II)I"⟩, ⟨"StoneHome$Forecast", "bestAction", "(III)I"⟩,
  ⟨"StoneHome$Laws", "<init>", "()V"⟩, ⟨"StoneHome$Laws", "clear", "()V"⟩,
  ⟨"StoneHome$Laws", "start", "(I)V"⟩, ⟨"StoneHome$Laws", "push", "(I)V"⟩]
def am_cb0 : List ByteArray := [prog_2_method_1_code, prog_2_method_2_code, prog_2_method_3_code, prog_2_method_6_code, prog_2_method_7_code, prog_2_method_9_code, prog_2_method_10_code, prog_2_method_11_code,
  prog_2_method_12_code, prog_2_method_8_code, prog_2_method_4_code, prog_2_method_5_code, prog_3_method_1_code, prog_3_method_2_code, prog_3_method_3_code, prog_3_method_8_code]
def am_pb1 : List am_M := [(1, 3, 1, at_X1_add), (1, 2, 0, at_X1_markTimed), (1, 2, 0, at_X1_close), (1, 1, 1, at_X1_lastWaiting),
  (1, 3, 0, at_X1_addOperator), (1, 2, 0, at_X1_aim), (1, 5, 0, at_X1_setWhere), (1, 4, 0, at_X1_setHow),
  (1, 7, 1, at_X1_value), (1, 2, 1, at_X1_factAt), (1, 3, 1, at_X1_joined), (1, 1, 2, at_X1_areTimed),
  (2, 2, 0, at_X2_init), (2, 1, 0, at_X2_clear), (2, 2, 0, at_X2_keep), (2, 2, 2, at_X2_takeBack)]
def am_yb1 : List MethodName := [⟨"StoneHome$Laws", "add", "(II)I"⟩, ⟨"StoneHome$Laws", "markTimed", "(I)V"⟩,
  ⟨"StoneHome$Laws", "close", "()V"⟩, ⟨"StoneHome$Laws", "lastWaiting", "()I"⟩,
  ⟨"StoneHome$Laws", "addOperator", "(I)V"⟩, ⟨"StoneHome$Laws", "aim", "(I)V"⟩,
  ⟨"StoneHome$Laws", "setWhere", "(IIII)V"⟩, ⟨"StoneHome$Laws", "setHow", "(III)V"⟩,
  ⟨"StoneHome$Laws", "value", "(I)I"⟩, ⟨"StoneHome$Laws", "factAt", "(I)I"⟩,
  ⟨"StoneHome$Laws", "joined", "(III)I"⟩, ⟨"StoneHome$Laws", "areTimed", "()Z"⟩,
  ⟨"StoneHome$Past", "<init>", "()V"⟩, ⟨"StoneHome$Past", "clear", "()V"⟩,
  ⟨"StoneHome$Past", "keep", "(LStoneHome$Stone;)V"⟩, ⟨"StoneHome$Past", "takeBack", "(LStoneHome$Stone;)Z"⟩]
def am_cb1 : List ByteArray := [prog_3_method_4_code, prog_3_method_5_code, prog_3_method_7_code, prog_3_method_9_code, prog_3_method_6_code, prog_3_method_10_code, prog_3_method_12_code, prog_3_method_13_code,
  prog_3_method_14_code, prog_3_method_15_code, prog_3_method_16_code, prog_3_method_11_code, prog_4_method_1_code, prog_4_method_2_code, prog_4_method_3_code, prog_4_method_4_code]
def am_pb2 : List am_M := [(3, 3, 0, at_X3_init), (3, 2, 0, at_X3_follow), (3, 7, 1, at_X3_chance), (3, 9, 0, at_X3_reach),
  (3, 8, 0, at_X3_reachBy), (3, 6, 0, at_X3_takeMyTurn), (3, 5, 1, at_X3_myBest), (3, 10, 1, at_X3_chanceBy),
  (3, 5, 0, at_X3_takeHisTurn), (3, 4, 1, at_X3_hisBest), (4, 3, 0, at_X4_init), (4, 4, 1, at_X4_readText),
  (4, 1, 0, at_X4_take), (4, 1, 0, at_X4_takeTell), (4, 1, 0, at_X4_takeRow), (4, 2, 0, at_X4_fail)]
def am_yb2 : List MethodName := [⟨"StoneHome$Race", "<init>", "(LStoneHome$Table;LStoneHome$Street;)V"⟩, ⟨"StoneHome$Race", "follow", "(LStoneHome$Street;)V"⟩,
  ⟨"StoneHome$Race", "chance", "(IIII)I"⟩, ⟨"StoneHome$Race", "reach", "([IIII)V"⟩,
  ⟨"StoneHome$Race", "reachBy", "(II[II)V"⟩, ⟨"StoneHome$Race", "takeMyTurn", "(II)V"⟩,
  ⟨"StoneHome$Race", "myBest", "(II)I"⟩, ⟨"StoneHome$Race", "chanceBy", "(IIII)I"⟩,
  ⟨"StoneHome$Race", "takeHisTurn", "(I)V"⟩, ⟨"StoneHome$Race", "hisBest", "(I)I"⟩,
  ⟨"StoneHome$Reader", "<init>", "([BLStoneHome$Street;)V"⟩, ⟨"StoneHome$Reader", "readText", "(LStoneHome$Street;I)I"⟩,
  ⟨"StoneHome$Reader", "take", "()V"⟩, ⟨"StoneHome$Reader", "takeTell", "()V"⟩,
  ⟨"StoneHome$Reader", "takeRow", "()V"⟩, ⟨"StoneHome$Reader", "fail", "(I)V"⟩]
def am_cb2 : List ByteArray := [prog_5_method_1_code, prog_5_method_2_code, prog_5_method_3_code, prog_5_method_4_code, prog_5_method_5_code, prog_5_method_6_code, prog_5_method_8_code, prog_5_method_10_code,
  prog_5_method_7_code, prog_5_method_9_code, prog_6_method_1_code, prog_6_method_2_code, prog_6_method_25_code, prog_6_method_5_code, prog_6_method_7_code, prog_6_method_26_code]
def am_pb3 : List am_M := [(4, 4, 2, at_X4_layRow), (4, 3, 0, at_X4_failLate), (4, 5, 0, at_X4_takeKick), (4, 4, 2, at_X4_isToldKick),
  (4, 5, 1, at_X4_takeOutcomes), (4, 7, 1, at_X4_takeOutcome), (4, 4, 1, at_X4_takeInt), (4, 2, 0, at_X4_takeWord),
  (4, 2, 2, at_X4_isWord), (4, 2, 2, at_X4_isSign), (4, 3, 0, at_X4_takeLaw), (4, 2, 0, at_X4_takeSign),
  (4, 2, 0, at_X4_takeBranch), (4, 5, 0, at_X4_takeFormula), (4, 1, 1, at_X4_operatorNext), (4, 2, 0, at_X4_takeOpening)]
def am_yb3 : List MethodName := [⟨"StoneHome$Reader", "layRow", "()Z"⟩, ⟨"StoneHome$Reader", "failLate", "(II)V"⟩,
  ⟨"StoneHome$Reader", "takeKick", "()V"⟩, ⟨"StoneHome$Reader", "isToldKick", "(J)Z"⟩,
  ⟨"StoneHome$Reader", "takeOutcomes", "(I)I"⟩, ⟨"StoneHome$Reader", "takeOutcome", "(I)I"⟩,
  ⟨"StoneHome$Reader", "takeInt", "(II)I"⟩, ⟨"StoneHome$Reader", "takeWord", "(I)V"⟩,
  ⟨"StoneHome$Reader", "isWord", "(I)Z"⟩, ⟨"StoneHome$Reader", "isSign", "(C)Z"⟩,
  ⟨"StoneHome$Reader", "takeLaw", "(I)V"⟩, ⟨"StoneHome$Reader", "takeSign", "(C)V"⟩,
  ⟨"StoneHome$Reader", "takeBranch", "()V"⟩, ⟨"StoneHome$Reader", "takeFormula", "()V"⟩,
  ⟨"StoneHome$Reader", "operatorNext", "()I"⟩, ⟨"StoneHome$Reader", "takeOpening", "(I)V"⟩]
def am_cb3 : List ByteArray := [prog_6_method_8_code, prog_6_method_27_code, prog_6_method_9_code, prog_6_method_10_code, prog_6_method_11_code, prog_6_method_12_code, prog_6_method_20_code, prog_6_method_21_code,
  prog_6_method_23_code, prog_6_method_24_code, prog_6_method_14_code, prog_6_method_22_code, prog_6_method_15_code, prog_6_method_16_code, prog_6_method_19_code, prog_6_method_17_code]
def am_pb4 : List am_M := [(4, 1, 0, at_X4_takeUnit), (4, 3, 0, at_X4_takeSpot), (4, 1, 0, at_X4_takeSetting), (4, 2, 0, at_X4_judge),
  (4, 1, 1, at_X4_placeOfFault), (5, 1, 0, at_X5_init), (5, 2, 1, at_X5_clear), (5, 2, 1, at_X5_add),
  (5, 2, 2, at_X5_knows), (5, 6, 0, at_X5_weigh), (5, 10, 0, at_X5_weighKick), (5, 4, 1, at_X5_placeFor),
  (5, 4, 1, at_X5_howMany), (5, 6, 1, at_X5_weight), (5, 7, 1, at_X5_pass), (5, 5, 1, at_X5_codeOf)]
def am_yb4 : List MethodName := [⟨"StoneHome$Reader", "takeUnit", "()V"⟩, ⟨"StoneHome$Reader", "takeSpot", "([I)V"⟩,
  ⟨"StoneHome$Reader", "takeSetting", "()V"⟩, ⟨"StoneHome$Reader", "judge", "(I)V"⟩,
  ⟨"StoneHome$Reader", "placeOfFault", "()I"⟩, ⟨"StoneHome$Scratches", "<init>", "()V"⟩,
  ⟨"StoneHome$Scratches", "clear", "()I"⟩, ⟨"StoneHome$Scratches", "add", "(I)I"⟩,
  ⟨"StoneHome$Scratches", "knows", "(I)Z"⟩, ⟨"StoneHome$Scratches", "weigh", "(LStoneHome$Street;I)V"⟩,
  ⟨"StoneHome$Scratches", "weighKick", "(LStoneHome$Street;III)V"⟩, ⟨"StoneHome$Scratches", "placeFor", "(IIII)I"⟩,
  ⟨"StoneHome$Scratches", "howMany", "(I)I"⟩, ⟨"StoneHome$Scratches", "weight", "(II)I"⟩,
  ⟨"StoneHome$Scratches", "pass", "(II)I"⟩, ⟨"StoneHome$Scratches", "codeOf", "(II)I"⟩]
def am_cb4 : List ByteArray := [prog_6_method_18_code, prog_6_method_13_code, prog_6_method_6_code, prog_6_method_4_code, prog_6_method_3_code, prog_7_method_1_code, prog_7_method_2_code, prog_7_method_3_code,
  prog_7_method_4_code, prog_7_method_5_code, prog_7_method_6_code, prog_7_method_11_code, prog_7_method_7_code, prog_7_method_9_code, prog_7_method_10_code, prog_7_method_8_code]
def am_pb5 : List am_M := [(6, 1, 0, at_X6_init), (6, 3, 0, at_X6_beginOn), (6, 2, 0, at_X6_copyFrom), (6, 1, 1, at_X6_lie),
  (7, 1, 0, at_X7_init), (7, 1, 0, at_X7_layAhead), (7, 1, 0, at_X7_clear), (7, 1, 1, at_X7_stoneLie),
  (7, 2, 1, at_X7_sortOf), (7, 3, 2, at_X7_canLie), (7, 2, 2, at_X7_isHomeLie), (7, 4, 0, at_X7_setSort),
  (7, 1, 2, at_X7_isWhole), (7, 2, 2, at_X7_isSpot), (7, 4, 1, at_X7_sortAt), (7, 3, 2, at_X7_carsCome)]
def am_yb5 : List MethodName := [⟨"StoneHome$Stone", "<init>", "()V"⟩, ⟨"StoneHome$Stone", "beginOn", "(LStoneHome$Street;)V"⟩,
  ⟨"StoneHome$Stone", "copyFrom", "(LStoneHome$Stone;)V"⟩, ⟨"StoneHome$Stone", "lie", "()I"⟩,
  ⟨"StoneHome$Street", "<init>", "()V"⟩, ⟨"StoneHome$Street", "layAhead", "()V"⟩,
  ⟨"StoneHome$Street", "clear", "()V"⟩, ⟨"StoneHome$Street", "stoneLie", "()I"⟩,
  ⟨"StoneHome$Street", "sortOf", "(I)I"⟩, ⟨"StoneHome$Street", "canLie", "(I)Z"⟩,
  ⟨"StoneHome$Street", "isHomeLie", "(I)Z"⟩, ⟨"StoneHome$Street", "setSort", "(III)V"⟩,
  ⟨"StoneHome$Street", "isWhole", "()Z"⟩, ⟨"StoneHome$Street", "isSpot", "([I)Z"⟩,
  ⟨"StoneHome$Street", "sortAt", "(II)I"⟩, ⟨"StoneHome$Street", "carsCome", "(II)Z"⟩]
def am_cb5 : List ByteArray := [prog_8_method_1_code, prog_8_method_3_code, prog_8_method_4_code, prog_8_method_2_code, prog_9_method_1_code, prog_9_method_3_code, prog_9_method_2_code, prog_9_method_16_code,
  prog_9_method_6_code, prog_9_method_7_code, prog_9_method_8_code, prog_9_method_4_code, prog_9_method_19_code, prog_9_method_18_code, prog_9_method_5_code, prog_9_method_22_code]
def am_pb6 : List am_M := [(7, 2, 2, at_X7_hasKick), (7, 3, 2, at_X7_canKickFrom), (7, 8, 1, at_X7_drawnWay), (7, 3, 1, at_X7_lotOfSix),
  (7, 3, 1, at_X7_mix), (7, 2, 1, at_X7_firstWay), (7, 2, 1, at_X7_endOfWays), (7, 2, 1, at_X7_sixthsOf),
  (7, 11, 1, at_X7_landing), (7, 3, 2, at_X7_hasOutcome), (7, 3, 2, at_X7_canDoFrom), (7, 1, 1, at_X7_friendLie),
  (7, 3, 1, at_X7_homeSquares), (7, 3, 1, at_X7_allOutcomes), (8, 2, 0, at_X8_init), (8, 2, 0, at_X8_follow)]
def am_yb6 : List MethodName := [⟨"StoneHome$Street", "hasKick", "(I)Z"⟩, ⟨"StoneHome$Street", "canKickFrom", "(II)Z"⟩,
  ⟨"StoneHome$Street", "drawnWay", "(II)I"⟩, ⟨"StoneHome$Street", "lotOfSix", "(I)I"⟩,
  ⟨"StoneHome$Street", "mix", "(II)I"⟩, ⟨"StoneHome$Street", "firstWay", "(I)I"⟩,
  ⟨"StoneHome$Street", "endOfWays", "(I)I"⟩, ⟨"StoneHome$Street", "sixthsOf", "(I)I"⟩,
  ⟨"StoneHome$Street", "landing", "(III)I"⟩, ⟨"StoneHome$Street", "hasOutcome", "(II)Z"⟩,
  ⟨"StoneHome$Street", "canDoFrom", "(II)Z"⟩, ⟨"StoneHome$Street", "friendLie", "()I"⟩,
  ⟨"StoneHome$Street", "homeSquares", "()I"⟩, ⟨"StoneHome$Street", "allOutcomes", "()I"⟩,
  ⟨"StoneHome$Table", "<init>", "(LStoneHome$Street;)V"⟩, ⟨"StoneHome$Table", "follow", "(LStoneHome$Street;)V"⟩]
def am_cb6 : List ByteArray := [prog_9_method_9_code, prog_9_method_11_code, prog_9_method_24_code, prog_9_method_25_code, prog_9_method_26_code, prog_9_method_13_code, prog_9_method_14_code, prog_9_method_15_code,
  prog_9_method_23_code, prog_9_method_10_code, prog_9_method_12_code, prog_9_method_17_code, prog_9_method_20_code, prog_9_method_21_code, prog_10_method_1_code, prog_10_method_2_code]
def am_pb7 : List am_M := [(8, 3, 0, at_X8_listLies), (8, 2, 1, at_X8_stepThatCounts), (8, 10, 0, at_X8_turnTo), (8, 4, 1, at_X8_landing),
  (9, 2, 0, at_X9_init), (9, 3, 0, at_X9_scan), (9, 1, 0, at_X9_skipBlanks), (9, 1, 2, at_X9_isBlank),
  (9, 1, 0, at_X9_scanOne), (9, 1, 2, at_X9_isLetter), (9, 3, 0, at_X9_scanWord), (9, 7, 1, at_X9_wordNumber),
  (9, 1, 2, at_X9_isDigit), (9, 2, 0, at_X9_scanInt), (9, 2, 3, at_X9_letterAt), (9, 6, 4, at_X9_nameAt)]
def am_yb7 : List MethodName := [⟨"StoneHome$Table", "listLies", "(Z)V"⟩, ⟨"StoneHome$Table", "stepThatCounts", "(I)I"⟩,
  ⟨"StoneHome$Table", "turnTo", "(I)V"⟩, ⟨"StoneHome$Table", "landing", "(II)I"⟩,
  ⟨"StoneHome$Tokens", "<init>", "([B)V"⟩, ⟨"StoneHome$Tokens", "scan", "(I)V"⟩,
  ⟨"StoneHome$Tokens", "skipBlanks", "()V"⟩, ⟨"StoneHome$Tokens", "isBlank", "(I)Z"⟩,
  ⟨"StoneHome$Tokens", "scanOne", "()V"⟩, ⟨"StoneHome$Tokens", "isLetter", "(I)Z"⟩,
  ⟨"StoneHome$Tokens", "scanWord", "()V"⟩, ⟨"StoneHome$Tokens", "wordNumber", "(I)I"⟩,
  ⟨"StoneHome$Tokens", "isDigit", "(I)Z"⟩, ⟨"StoneHome$Tokens", "scanInt", "()V"⟩,
  ⟨"StoneHome$Tokens", "letterAt", "(I)C"⟩, ⟨"StoneHome$Tokens", "nameAt", "(II)J"⟩]
def am_cb7 : List ByteArray := [prog_10_method_3_code, prog_10_method_4_code, prog_10_method_5_code, prog_10_method_6_code, prog_11_method_1_code, prog_11_method_2_code, prog_11_method_5_code, prog_11_method_10_code,
  prog_11_method_6_code, prog_11_method_11_code, prog_11_method_7_code, prog_11_method_9_code, prog_11_method_12_code, prog_11_method_8_code, prog_11_method_3_code, prog_11_method_4_code]
def am_pb8 : List am_M := [(10, 2, 0, at_X10_init), (10, 2, 0, at_X10_begin), (10, 2, 1, at_X10_squareOf), (10, 2, 1, at_X10_lieOf),
  (10, 6, 1, at_X10_feed), (10, 3, 0, at_X10_putBytes), (10, 2, 1, at_X10_back), (10, 3, 1, at_X10_read),
  (10, 1, 1, at_X10_place), (10, 2, 1, at_X10_now), (10, 1, 1, at_X10_alongOf), (10, 1, 1, at_X10_acrossOf),
  (10, 3, 1, at_X10_square), (10, 4, 1, at_X10_cars), (10, 2, 1, at_X10_kick), (10, 2, 2, at_X10_canBeKicked)]
def am_yb8 : List MethodName := [⟨"StoneHome", "<init>", "()V"⟩, ⟨"StoneHome", "begin", "()V"⟩,
  ⟨"StoneHome", "squareOf", "(II)I"⟩, ⟨"StoneHome", "lieOf", "(II)I"⟩,
  ⟨"StoneHome", "feed", "(IIIII)I"⟩, ⟨"StoneHome", "putBytes", "(I)V"⟩,
  ⟨"StoneHome", "back", "(I)I"⟩, ⟨"StoneHome", "read", "()I"⟩,
  ⟨"StoneHome", "place", "()I"⟩, ⟨"StoneHome", "now", "(I)I"⟩,
  ⟨"StoneHome", "alongOf", "(I)I"⟩, ⟨"StoneHome", "acrossOf", "(I)I"⟩,
  ⟨"StoneHome", "square", "(II)I"⟩, ⟨"StoneHome", "cars", "(III)I"⟩,
  ⟨"StoneHome", "kick", "(I)I"⟩, ⟨"StoneHome", "canBeKicked", "(I)Z"⟩]
def am_cb8 : List ByteArray := [prog_1_method_1_code, prog_1_method_35_code, prog_1_method_54_code, prog_1_method_57_code, prog_1_method_2_code, prog_1_method_36_code, prog_1_method_3_code, prog_1_method_4_code,
  prog_1_method_5_code, prog_1_method_6_code, prog_1_method_55_code, prog_1_method_56_code, prog_1_method_7_code, prog_1_method_8_code, prog_1_method_9_code, prog_1_method_37_code]
def am_pb9 : List am_M := [(10, 3, 1, at_X10_comeBy), (10, 2, 1, at_X10_held), (10, 2, 1, at_X10_settle), (10, 1, 1, at_X10_lose),
  (10, 1, 1, at_X10_waits), (10, 3, 2, at_X10_touch), (10, 5, 1, at_X10_touched), (10, 1, 2, at_X10_undo),
  (10, 7, 1, at_X10_brings), (10, 3, 1, at_X10_home), (10, 1, 2, at_X10_isSpan), (10, 2, 1, at_X10_homeChance),
  (10, 1, 1, at_X10_sixesOf), (10, 5, 1, at_X10_fraction), (10, 6, 1, at_X10_commonDivisor), (10, 2, 1, at_X10_best)]
def am_yb9 : List MethodName := [⟨"StoneHome", "comeBy", "(I)I"⟩, ⟨"StoneHome", "held", "(II)I"⟩,
  ⟨"StoneHome", "settle", "(I)I"⟩, ⟨"StoneHome", "lose", "()I"⟩,
  ⟨"StoneHome", "waits", "()I"⟩, ⟨"StoneHome", "touch", "(I)Z"⟩,
  ⟨"StoneHome", "touched", "(I)I"⟩, ⟨"StoneHome", "undo", "()Z"⟩,
  ⟨"StoneHome", "brings", "(III)I"⟩, ⟨"StoneHome", "home", "(IZ)I"⟩,
  ⟨"StoneHome", "isSpan", "(I)Z"⟩, ⟨"StoneHome", "homeChance", "(I)I"⟩,
  ⟨"StoneHome", "sixesOf", "(I)I"⟩, ⟨"StoneHome", "fraction", "(IIZ)I"⟩,
  ⟨"StoneHome", "commonDivisor", "(II)I"⟩, ⟨"StoneHome", "best", "(I)I"⟩]
def am_cb9 : List ByteArray := [prog_1_method_38_code, prog_1_method_53_code, prog_1_method_39_code, prog_1_method_40_code, prog_1_method_10_code, prog_1_method_11_code, prog_1_method_41_code, prog_1_method_12_code,
  prog_1_method_13_code, prog_1_method_14_code, prog_1_method_49_code, prog_1_method_43_code, prog_1_method_50_code, prog_1_method_51_code, prog_1_method_52_code, prog_1_method_15_code]
def am_pb10 : List am_M := [(10, 3, 1, at_X10_bestFrom), (10, 2, 1, at_X10_sure), (10, 3, 1, at_X10_least), (10, 4, 1, at_X10_rule),
  (10, 4, 1, at_X10_ruledChance), (10, 6, 1, at_X10_comes), (10, 6, 1, at_X10_worth), (10, 5, 1, at_X10_touchedChance),
  (10, 6, 1, at_X10_face), (10, 7, 1, at_X10_side), (10, 6, 1, at_X10_goBy), (10, 5, 1, at_X10_chanceBehind),
  (10, 5, 1, at_X10_plan), (10, 4, 1, at_X10_trap), (10, 3, 2, at_X10_isTrap), (10, 4, 1, at_X10_first)]
def am_yb10 : List MethodName := [⟨"StoneHome", "bestFrom", "(II)I"⟩, ⟨"StoneHome", "sure", "(I)I"⟩,
  ⟨"StoneHome", "least", "(I)I"⟩, ⟨"StoneHome", "rule", "(IIZ)I"⟩,
  ⟨"StoneHome", "ruledChance", "(III)I"⟩, ⟨"StoneHome", "comes", "(IIIIZ)I"⟩,
  ⟨"StoneHome", "worth", "(IZZ)I"⟩, ⟨"StoneHome", "touchedChance", "(I)I"⟩,
  ⟨"StoneHome", "face", "(I)I"⟩, ⟨"StoneHome", "side", "(I)I"⟩,
  ⟨"StoneHome", "goBy", "(I)I"⟩, ⟨"StoneHome", "chanceBehind", "(II)I"⟩,
  ⟨"StoneHome", "plan", "(III)I"⟩, ⟨"StoneHome", "trap", "(I)I"⟩,
  ⟨"StoneHome", "isTrap", "(I)Z"⟩, ⟨"StoneHome", "first", "(IZ)I"⟩]
def am_cb10 : List ByteArray := [prog_1_method_45_code, prog_1_method_16_code, prog_1_method_17_code, prog_1_method_18_code, prog_1_method_44_code, prog_1_method_19_code, prog_1_method_20_code, prog_1_method_42_code,
  prog_1_method_21_code, prog_1_method_22_code, prog_1_method_23_code, prog_1_method_46_code, prog_1_method_24_code, prog_1_method_25_code, prog_1_method_47_code, prog_1_method_26_code]
def am_pb11 : List am_M := [(10, 3, 1, at_X10_can), (10, 3, 1, at_X10_tell), (10, 1, 1, at_X10_forget), (10, 3, 1, at_X10_fits),
  (10, 4, 1, at_X10_often), (10, 2, 2, at_X10_hold), (10, 2, 2, at_X10_restore), (10, 2, 1, at_X10_count),
  (10, 3, 1, at_X10_heldSlots), (11, 1, 0, at_X11_init), (11, 3, 0, at_X11_plain), (11, 7, 4, at_X11_word),
  (11, 3, 4, at_X11_appends), (11, 2, 0, at_X11_begins), (11, 2, 0, at_X11_keepsRow), (11, 6, 1, at_X11_feed)]
def am_yb11 : List MethodName := [⟨"StoneHome", "can", "()I"⟩, ⟨"StoneHome", "tell", "(II)I"⟩,
  ⟨"StoneHome", "forget", "()I"⟩, ⟨"StoneHome", "fits", "(II)I"⟩,
  ⟨"StoneHome", "often", "(II)I"⟩, ⟨"StoneHome", "hold", "(I)Z"⟩,
  ⟨"StoneHome", "restore", "(I)Z"⟩, ⟨"StoneHome", "count", "(I)I"⟩,
  ⟨"StoneHome", "heldSlots", "()I"⟩, ⟨"StoneHomeModel", "<init>", "()V"⟩,
  ⟨"StoneHomeModel", "plain", "(I)V"⟩, ⟨"StoneHomeModel", "word", "(IIIIIII)J"⟩,
  ⟨"StoneHomeModel", "appends", "(JI)J"⟩, ⟨"StoneHomeModel", "begins", "()V"⟩,
  ⟨"StoneHomeModel", "keepsRow", "()V"⟩, ⟨"StoneHomeModel", "feed", "(IIIII)I"⟩]
def am_cb11 : List ByteArray := [prog_1_method_27_code, prog_1_method_28_code, prog_1_method_29_code, prog_1_method_30_code, prog_1_method_31_code, prog_1_method_32_code, prog_1_method_33_code, prog_1_method_34_code,
  prog_1_method_48_code, prog_13_method_2_code, prog_13_method_19_code, prog_13_method_10_code, prog_13_method_9_code, prog_13_method_37_code, prog_13_method_38_code, prog_13_method_3_code]
def am_pb12 : List am_M := [(11, 3, 0, at_X11_put), (11, 2, 1, at_X11_back), (11, 2, 1, at_X11_read), (11, 8, 0, at_X11_cut),
  (11, 2, 1, at_X11_byteAt), (11, 6, 0, at_X11_token), (11, 1, 2, at_X11_isLetter), (11, 1, 2, at_X11_isDigit),
  (11, 5, 1, at_X11_sign), (11, 2, 2, at_X11_is), (11, 2, 0, at_X11_tellOne), (11, 2, 0, at_X11_fail),
  (11, 7, 0, at_X11_tellRow), (11, 1, 0, at_X11_goesOn), (11, 2, 0, at_X11_must), (11, 4, 0, at_X11_wrong)]
def am_yb12 : List MethodName := [⟨"StoneHomeModel", "put", "(I)V"⟩, ⟨"StoneHomeModel", "back", "(I)I"⟩,
  ⟨"StoneHomeModel", "read", "()I"⟩, ⟨"StoneHomeModel", "cut", "()V"⟩,
  ⟨"StoneHomeModel", "byteAt", "(I)I"⟩, ⟨"StoneHomeModel", "token", "(IIIJ)V"⟩,
  ⟨"StoneHomeModel", "isLetter", "(I)Z"⟩, ⟨"StoneHomeModel", "isDigit", "(I)Z"⟩,
  ⟨"StoneHomeModel", "sign", "(III)I"⟩, ⟨"StoneHomeModel", "is", "(I)Z"⟩,
  ⟨"StoneHomeModel", "tellOne", "()V"⟩, ⟨"StoneHomeModel", "fail", "(I)V"⟩,
  ⟨"StoneHomeModel", "tellRow", "()V"⟩, ⟨"StoneHomeModel", "goesOn", "()V"⟩,
  ⟨"StoneHomeModel", "must", "(I)V"⟩, ⟨"StoneHomeModel", "wrong", "(II)V"⟩]
def am_cb12 : List ByteArray := [prog_13_method_4_code, prog_13_method_5_code, prog_13_method_20_code, prog_13_method_12_code, prog_13_method_6_code, prog_13_method_11_code, prog_13_method_8_code, prog_13_method_7_code,
  prog_13_method_13_code, prog_13_method_14_code, prog_13_method_23_code, prog_13_method_15_code, prog_13_method_26_code, prog_13_method_17_code, prog_13_method_18_code, prog_13_method_16_code]
def am_pb13 : List am_M := [(11, 1, 1, at_X11_sortBy), (11, 4, 1, at_X11_bounded), (11, 5, 0, at_X11_tellKick), (11, 4, 0, at_X11_tellOutcome),
  (11, 4, 0, at_X11_tellLaw), (11, 3, 0, at_X11_expression), (11, 1, 0, at_X11_unit), (11, 3, 0, at_X11_emit),
  (11, 3, 0, at_X11_comesOut), (11, 1, 0, at_X11_term), (11, 5, 2, at_X11_isThere), (11, 1, 1, at_X11_place),
  (11, 2, 1, at_X11_now), (11, 1, 1, at_X11_stateNow), (11, 4, 1, at_X11_numberOf), (11, 2, 2, at_X11_isHome)]
def am_yb13 : List MethodName := [⟨"StoneHomeModel", "sortBy", "(I)I"⟩, ⟨"StoneHomeModel", "bounded", "(II)I"⟩,
  ⟨"StoneHomeModel", "tellKick", "()V"⟩, ⟨"StoneHomeModel", "tellOutcome", "(I)V"⟩,
  ⟨"StoneHomeModel", "tellLaw", "(I)V"⟩, ⟨"StoneHomeModel", "expression", "()V"⟩,
  ⟨"StoneHomeModel", "unit", "()V"⟩, ⟨"StoneHomeModel", "emit", "(II)V"⟩,
  ⟨"StoneHomeModel", "comesOut", "(Z)V"⟩, ⟨"StoneHomeModel", "term", "()V"⟩,
  ⟨"StoneHomeModel", "isThere", "([I)Z"⟩, ⟨"StoneHomeModel", "place", "()I"⟩,
  ⟨"StoneHomeModel", "now", "(I)I"⟩, ⟨"StoneHomeModel", "stateNow", "()I"⟩,
  ⟨"StoneHomeModel", "numberOf", "(IIII)I"⟩, ⟨"StoneHomeModel", "isHome", "(I)Z"⟩]
def am_cb13 : List ByteArray := [prog_13_method_25_code, prog_13_method_24_code, prog_13_method_27_code, prog_13_method_28_code, prog_13_method_29_code, prog_13_method_33_code, prog_13_method_34_code, prog_13_method_31_code,
  prog_13_method_32_code, prog_13_method_30_code, prog_13_method_22_code, prog_13_method_21_code, prog_13_method_62_code, prog_13_method_47_code, prog_13_method_40_code, prog_13_method_46_code]
def am_pb14 : List am_M := [(11, 2, 1, at_X11_sortOf), (11, 1, 1, at_X11_alongOf), (11, 1, 1, at_X11_acrossOf), (11, 3, 1, at_X11_sortAt),
  (11, 3, 1, at_X11_square), (11, 3, 2, at_X11_isPlace), (11, 3, 2, at_X11_in), (11, 4, 1, at_X11_cars),
  (11, 4, 2, at_X11_isBarred), (11, 6, 1, at_X11_asks), (11, 8, 1, at_X11_termOf), (11, 6, 1, at_X11_kick),
  (11, 1, 2, at_X11_isOver), (11, 3, 2, at_X11_canKick), (11, 3, 1, at_X11_mixed), (11, 13, 1, at_X11_brought)]
def am_yb14 : List MethodName := [⟨"StoneHomeModel", "sortOf", "(I)I"⟩, ⟨"StoneHomeModel", "alongOf", "(I)I"⟩,
  ⟨"StoneHomeModel", "acrossOf", "(I)I"⟩, ⟨"StoneHomeModel", "sortAt", "(II)I"⟩,
  ⟨"StoneHomeModel", "square", "(II)I"⟩, ⟨"StoneHomeModel", "isPlace", "(II)Z"⟩,
  ⟨"StoneHomeModel", "in", "(III)Z"⟩, ⟨"StoneHomeModel", "cars", "(III)I"⟩,
  ⟨"StoneHomeModel", "isBarred", "(III)Z"⟩, ⟨"StoneHomeModel", "asks", "(I)I"⟩,
  ⟨"StoneHomeModel", "termOf", "(II)I"⟩, ⟨"StoneHomeModel", "kick", "(I)I"⟩,
  ⟨"StoneHomeModel", "isOver", "()Z"⟩, ⟨"StoneHomeModel", "canKick", "(II)Z"⟩,
  ⟨"StoneHomeModel", "mixed", "(II)I"⟩, ⟨"StoneHomeModel", "brought", "(IIII)I"⟩]
def am_cb14 : List ByteArray := [prog_13_method_45_code, prog_13_method_42_code, prog_13_method_43_code, prog_13_method_41_code, prog_13_method_64_code, prog_13_method_63_code, prog_13_method_36_code, prog_13_method_65_code,
  prog_13_method_50_code, prog_13_method_48_code, prog_13_method_35_code, prog_13_method_70_code, prog_13_method_67_code, prog_13_method_54_code, prog_13_method_68_code, prog_13_method_52_code]
def am_pb15 : List am_M := [(11, 1, 1, at_X11_faceOf), (11, 2, 1, at_X11_held), (11, 1, 1, at_X11_losing), (11, 4, 1, at_X11_comesTo),
  (11, 2, 0, at_X11_copies), (11, 2, 0, at_X11_keeps), (11, 2, 1, at_X11_waits), (11, 3, 1, at_X11_waited),
  (11, 3, 2, at_X11_touch), (11, 5, 1, at_X11_touched), (11, 2, 2, at_X11_undo), (11, 5, 1, at_X11_brings),
  (11, 3, 1, at_X11_can), (11, 3, 1, at_X11_home), (11, 1, 2, at_X11_isLong), (11, 2, 0, at_X11_fills)]
def am_yb15 : List MethodName := [⟨"StoneHomeModel", "faceOf", "(I)I"⟩, ⟨"StoneHomeModel", "held", "(II)I"⟩,
  ⟨"StoneHomeModel", "losing", "(I)I"⟩, ⟨"StoneHomeModel", "comesTo", "(IZ)I"⟩,
  ⟨"StoneHomeModel", "copies", "()V"⟩, ⟨"StoneHomeModel", "keeps", "()V"⟩,
  ⟨"StoneHomeModel", "waits", "()I"⟩, ⟨"StoneHomeModel", "waited", "(II)I"⟩,
  ⟨"StoneHomeModel", "touch", "(I)Z"⟩, ⟨"StoneHomeModel", "touched", "(II)I"⟩,
  ⟨"StoneHomeModel", "undo", "()Z"⟩, ⟨"StoneHomeModel", "brings", "(III)I"⟩,
  ⟨"StoneHomeModel", "can", "()I"⟩, ⟨"StoneHomeModel", "home", "(IZ)I"⟩,
  ⟨"StoneHomeModel", "isLong", "(I)Z"⟩, ⟨"StoneHomeModel", "fills", "(I)V"⟩]
def am_cb15 : List ByteArray := [prog_13_method_44_code, prog_13_method_49_code, prog_13_method_51_code, prog_13_method_69_code, prog_13_method_39_code, prog_13_method_66_code, prog_13_method_71_code, prog_13_method_53_code,
  prog_13_method_73_code, prog_13_method_72_code, prog_13_method_74_code, prog_13_method_75_code, prog_13_method_76_code, prog_13_method_80_code, prog_13_method_79_code, prog_13_method_61_code]
def am_pb16 : List am_M := [(11, 6, 0, at_X11_fillsFrom), (11, 2, 2, at_X11_isSquare), (11, 3, 1, at_X11_sixes), (11, 6, 0, at_X11_earlier),
  (11, 7, 1, at_X11_bestOf), (11, 6, 1, at_X11_valueOf), (11, 4, 1, at_X11_lineOf), (11, 5, 1, at_X11_common),
  (11, 2, 1, at_X11_best), (11, 2, 1, at_X11_sure), (11, 5, 1, at_X11_least), (11, 4, 1, at_X11_rule),
  (11, 3, 2, at_X11_isRule), (11, 8, 1, at_X11_comes), (11, 6, 0, at_X11_spreads), (11, 5, 0, at_X11_spreadsOne)]
def am_yb16 : List MethodName := [⟨"StoneHomeModel", "fillsFrom", "(IIII)V"⟩, ⟨"StoneHomeModel", "isSquare", "(I)Z"⟩,
  ⟨"StoneHomeModel", "sixes", "(I)I"⟩, ⟨"StoneHomeModel", "earlier", "(III)V"⟩,
  ⟨"StoneHomeModel", "bestOf", "(II)I"⟩, ⟨"StoneHomeModel", "valueOf", "(III)I"⟩,
  ⟨"StoneHomeModel", "lineOf", "(IIZ)I"⟩, ⟨"StoneHomeModel", "common", "(II)I"⟩,
  ⟨"StoneHomeModel", "best", "(I)I"⟩, ⟨"StoneHomeModel", "sure", "(I)I"⟩,
  ⟨"StoneHomeModel", "least", "(I)I"⟩, ⟨"StoneHomeModel", "rule", "(IIZ)I"⟩,
  ⟨"StoneHomeModel", "isRule", "(II)Z"⟩, ⟨"StoneHomeModel", "comes", "(IIIIZ)I"⟩,
  ⟨"StoneHomeModel", "spreads", "(II)V"⟩, ⟨"StoneHomeModel", "spreadsOne", "(III)V"⟩]
def am_cb16 : List ByteArray := [prog_13_method_60_code, prog_13_method_57_code, prog_13_method_55_code, prog_13_method_59_code, prog_13_method_58_code, prog_13_method_56_code, prog_13_method_78_code, prog_13_method_77_code,
  prog_13_method_81_code, prog_13_method_82_code, prog_13_method_83_code, prog_13_method_85_code, prog_13_method_84_code, prog_13_method_88_code, prog_13_method_86_code, prog_13_method_87_code]
def am_pb17 : List am_M := [(11, 8, 1, at_X11_worth), (11, 5, 1, at_X11_face), (11, 5, 1, at_X11_side), (11, 7, 1, at_X11_goBy),
  (11, 5, 1, at_X11_plan), (11, 8, 1, at_X11_trap), (11, 5, 1, at_X11_first), (11, 6, 0, at_X11_fillsCameTo),
  (11, 2, 2, at_X11_isLone), (11, 8, 1, at_X11_pairOf), (11, 9, 1, at_X11_pairBy), (11, 3, 1, at_X11_tell),
  (11, 2, 1, at_X11_forget), (11, 4, 1, at_X11_fits), (11, 5, 1, at_X11_fitting), (11, 6, 1, at_X11_oftenBy)]
def am_yb17 : List MethodName := [⟨"StoneHomeModel", "worth", "(IZZ)I"⟩, ⟨"StoneHomeModel", "face", "(I)I"⟩,
  ⟨"StoneHomeModel", "side", "(I)I"⟩, ⟨"StoneHomeModel", "goBy", "(I)I"⟩,
  ⟨"StoneHomeModel", "plan", "(III)I"⟩, ⟨"StoneHomeModel", "trap", "(I)I"⟩,
  ⟨"StoneHomeModel", "first", "(IZ)I"⟩, ⟨"StoneHomeModel", "fillsCameTo", "(I)V"⟩,
  ⟨"StoneHomeModel", "isLone", "(I)Z"⟩, ⟨"StoneHomeModel", "pairOf", "(IIZI)I"⟩,
  ⟨"StoneHomeModel", "pairBy", "(IIZI)I"⟩, ⟨"StoneHomeModel", "tell", "(II)I"⟩,
  ⟨"StoneHomeModel", "forget", "()I"⟩, ⟨"StoneHomeModel", "fits", "(II)I"⟩,
  ⟨"StoneHomeModel", "fitting", "(II)I"⟩, ⟨"StoneHomeModel", "oftenBy", "(II)I"⟩]
def am_cb17 : List ByteArray := [prog_13_method_89_code, prog_13_method_90_code, prog_13_method_91_code, prog_13_method_92_code, prog_13_method_93_code, prog_13_method_94_code, prog_13_method_99_code, prog_13_method_95_code,
  prog_13_method_98_code, prog_13_method_97_code, prog_13_method_96_code, prog_13_method_100_code, prog_13_method_101_code, prog_13_method_105_code, prog_13_method_104_code, prog_13_method_103_code]
def am_pb18 : List am_M := [(11, 9, 0, at_X11_scratches), (11, 4, 1, at_X11_often), (11, 3, 2, at_X11_hold), (11, 3, 2, at_X11_restore),
  (11, 5, 1, at_X11_count), (13, 4, 0, at_X13_fill), (15, 1, 1, at_X15_length), (15, 1, 5, at_X15_coder),
  (15, 2, 3, at_X15_charAt), (15, 1, 2, at_X15_isLatin1), (15, 2, 1, at_X15_indexOf_0), (15, 3, 1, at_X15_indexOf_1),
  (16, 2, 3, at_X16_charAt), (16, 4, 1, at_X16_indexOf), (16, 1, 2, at_X16_canEncode), (16, 6, 1, at_X16_indexOfChar)]
def am_yb18 : List MethodName := [⟨"StoneHomeModel", "scratches", "(II)V"⟩, ⟨"StoneHomeModel", "often", "(II)I"⟩,
  ⟨"StoneHomeModel", "hold", "(I)Z"⟩, ⟨"StoneHomeModel", "restore", "(I)Z"⟩,
  ⟨"StoneHomeModel", "count", "(I)I"⟩, ⟨"java/util/Arrays", "fill", "([II)V"⟩,
  ⟨"java/lang/String", "length", "()I"⟩, ⟨"java/lang/String", "coder", "()B"⟩,
  ⟨"java/lang/String", "charAt", "(I)C"⟩, ⟨"java/lang/String", "isLatin1", "()Z"⟩,
  ⟨"java/lang/String", "indexOf", "(I)I"⟩, ⟨"java/lang/String", "indexOf", "(II)I"⟩,
  ⟨"java/lang/StringLatin1", "charAt", "([BI)C"⟩, ⟨"java/lang/StringLatin1", "indexOf", "([BIII)I"⟩,
  ⟨"java/lang/StringLatin1", "canEncode", "(I)Z"⟩, ⟨"java/lang/StringLatin1", "indexOfChar", "([BIII)I"⟩]
def am_cb18 : List ByteArray := [prog_13_method_102_code, prog_13_method_106_code, prog_13_method_107_code, prog_13_method_108_code, prog_13_method_109_code, prog_20_method_103_code, prog_16_method_54_code, prog_16_method_152_code,
  prog_16_method_56_code, prog_16_method_154_code, prog_16_method_79_code, prog_16_method_80_code, prog_17_method_2_code, prog_17_method_22_code, prog_17_method_4_code, prog_17_method_23_code]
def am_pb19 : List am_M := [(12, 4, 2, at_L_law)]
def am_yb19 : List MethodName := [⟨"StoneHomeLaw", "law", "([I)Z"⟩]
def am_cb19 : List ByteArray := [code]
def am_pbs : List (List am_M) := [am_pb0, am_pb1, am_pb2, am_pb3, am_pb4, am_pb5, am_pb6, am_pb7, am_pb8, am_pb9, am_pb10, am_pb11, am_pb12, am_pb13, am_pb14, am_pb15, am_pb16, am_pb17, am_pb18, am_pb19]
def am_ybs : List (List MethodName) := [am_yb0, am_yb1, am_yb2, am_yb3, am_yb4, am_yb5, am_yb6, am_yb7, am_yb8, am_yb9, am_yb10, am_yb11, am_yb12, am_yb13, am_yb14, am_yb15, am_yb16, am_yb17, am_yb18, am_yb19]
def am_cbs : List (List ByteArray) := [am_cb0, am_cb1, am_cb2, am_cb3, am_cb4, am_cb5, am_cb6, am_cb7, am_cb8, am_cb9, am_cb10, am_cb11, am_cb12, am_cb13, am_cb14, am_cb15, am_cb16, am_cb17, am_cb18, am_cb19]
def am_P (n : Nat) : am_M := am_nth (am_nth am_pbs (n / 16) []) (n % 16) (0, 0, 0, [])
def am_yN (n : Nat) : MethodName := am_nth (am_nth am_ybs (n / 16) []) (n % 16) ⟨"", "", ""⟩
def am_cN (n : Nat) : ByteArray := am_nth (am_nth am_cbs (n / 16) []) (n % 16) ⟨#[]⟩
def am_NM : Nat := 304
end
section
/-! ===== links, by program: where their words stand in lw_tbl ===== -/
def am_FL : List (Nat × Nat × Nat × Nat × Nat) := [(0, 9, 0, 2, 448), (0, 15, 0, 3, 449), (0, 18, 0, 4, 450), (0, 22, 0, 5, 451), (0, 26, 0, 6, 452), (0, 29, 0, 7, 453), (0, 32, 0, 8, 454), (0, 35, 0, 0, 446), (0, 39, 0, 1, 447), (0, 63, 7, 4, 203),
  (0, 72, 7, 13, 227), (0, 80, 8, 6, 424), (0, 83, 8, 4, 419), (0, 86, 8, 5, 422), (1, 9, 1, 0, 161), (1, 15, 1, 1, 162), (1, 19, 1, 2, 163), (1, 22, 1, 3, 164), (1, 25, 1, 4, 165), (1, 28, 1, 5, 166),
  (1, 31, 1, 6, 167), (1, 34, 1, 7, 168), (2, 11, 2, 0, 394), (2, 17, 2, 1, 395), (2, 21, 2, 2, 396), (3, 11, 3, 2, 482), (3, 15, 3, 3, 483), (3, 18, 3, 4, 484), (3, 21, 3, 5, 485), (3, 24, 3, 0, 480),
  (3, 28, 3, 1, 481), (3, 61, 8, 5, 421), (3, 65, 8, 4, 418), (3, 68, 7, 4, 201), (4, 9, 4, 2, 311), (4, 17, 4, 3, 312), (4, 20, 4, 4, 313), (4, 23, 4, 5, 314), (4, 26, 4, 6, 315), (4, 29, 4, 7, 316),
  (4, 33, 4, 8, 317), (4, 36, 4, 9, 318), (4, 39, 4, 10, 319), (4, 42, 4, 11, 320), (4, 48, 4, 0, 309), (4, 52, 4, 1, 310), (4, 89, 7, 11, 221), (4, 97, 7, 12, 223), (4, 111, 7, 3, 198), (4, 114, 7, 13, 226),
  (4, 117, 7, 14, 231), (4, 120, 7, 15, 234), (4, 126, 7, 1, 192), (4, 129, 7, 0, 189), (4, 155, 7, 4, 205), (4, 172, 7, 5, 208), (4, 186, 7, 6, 210), (4, 189, 7, 7, 212), (4, 192, 7, 8, 214), (4, 195, 7, 9, 216),
  (4, 198, 7, 10, 219), (4, 239, 9, 0, 281), (4, 242, 9, 1, 283), (4, 245, 9, 2, 285), (5, 9, 5, 0, 505), (5, 15, 5, 1, 506), (5, 19, 5, 2, 508), (5, 22, 5, 3, 509), (5, 25, 5, 4, 510), (5, 28, 5, 5, 511),
  (5, 31, 5, 6, 512), (5, 34, 7, 4, 202), (5, 59, 7, 3, 197), (5, 69, 7, 14, 230), (6, 9, 6, 0, 352), (6, 15, 6, 1, 354), (6, 18, 6, 2, 356), (6, 21, 6, 3, 358), (6, 24, 6, 4, 360), (6, 27, 6, 5, 362),
  (6, 30, 6, 6, 364), (6, 33, 6, 7, 366), (6, 47, 7, 13, 225), (7, 9, 7, 0, 188), (7, 15, 7, 1, 191), (7, 18, 7, 2, 194), (7, 22, 7, 3, 195), (7, 25, 7, 4, 200), (7, 28, 7, 5, 207), (7, 31, 7, 6, 209),
  (7, 34, 7, 7, 211), (7, 37, 7, 8, 213), (7, 40, 7, 9, 215), (7, 46, 7, 10, 217), (7, 50, 7, 11, 220), (7, 53, 7, 12, 222), (7, 56, 7, 13, 224), (7, 59, 7, 14, 228), (7, 62, 7, 15, 233), (8, 13, 8, 1, 414),
  (8, 17, 8, 2, 415), (8, 20, 8, 3, 416), (8, 23, 8, 4, 417), (8, 26, 8, 5, 420), (8, 30, 8, 6, 423), (8, 33, 8, 0, 413), (8, 47, 7, 3, 196), (8, 59, 7, 10, 218), (8, 73, 7, 4, 204), (8, 86, 7, 14, 229),
  (9, 11, 9, 0, 280), (9, 15, 9, 1, 282), (9, 18, 9, 2, 284), (9, 21, 9, 4, 287), (9, 25, 9, 5, 288), (9, 28, 9, 6, 289), (9, 31, 9, 7, 290), (9, 34, 9, 3, 286), (10, 9, 10, 0, 600), (10, 13, 10, 1, 601),
  (10, 17, 10, 2, 602), (10, 23, 10, 3, 603), (10, 27, 10, 4, 604), (10, 35, 10, 5, 605), (10, 42, 10, 6, 606), (10, 49, 10, 7, 607), (10, 53, 10, 8, 608), (10, 62, 10, 9, 609), (10, 71, 10, 10, 610), (10, 78, 10, 11, 611),
  (10, 85, 10, 12, 612), (10, 107, 6, 6, 365), (10, 110, 6, 0, 353), (10, 120, 6, 1, 355), (10, 123, 6, 2, 357), (10, 126, 6, 4, 361), (10, 129, 7, 14, 232), (10, 132, 6, 5, 363), (10, 135, 6, 3, 359), (10, 220, 7, 3, 199),
  (10, 223, 7, 1, 193), (10, 241, 7, 4, 206), (10, 269, 6, 7, 367), (10, 275, 7, 0, 190), (10, 281, 2, 2, 397), (10, 284, 5, 1, 507), (11, 13, 11, 1, 1456), (11, 17, 11, 3, 1458), (11, 20, 11, 5, 1460), (11, 24, 11, 6, 1461),
  (11, 27, 11, 7, 1462), (11, 30, 11, 8, 1463), (11, 34, 11, 9, 1464), (11, 37, 11, 17, 1472), (11, 40, 11, 21, 1476), (11, 43, 11, 22, 1477), (11, 46, 11, 23, 1478), (11, 49, 11, 24, 1479), (11, 52, 11, 25, 1480), (11, 55, 11, 26, 1481),
  (11, 58, 11, 27, 1482), (11, 61, 11, 28, 1483), (11, 64, 11, 29, 1484), (11, 67, 11, 30, 1485), (11, 70, 11, 31, 1486), (11, 73, 11, 32, 1487), (11, 76, 11, 33, 1488), (11, 79, 11, 34, 1489), (11, 82, 11, 35, 1490), (11, 85, 11, 36, 1491),
  (11, 88, 11, 37, 1492), (11, 91, 11, 38, 1493), (11, 94, 11, 40, 1495), (11, 98, 11, 41, 1496), (11, 101, 11, 42, 1497), (11, 104, 11, 43, 1498), (11, 107, 11, 44, 1499), (11, 110, 11, 46, 1501), (11, 113, 11, 47, 1502), (11, 116, 11, 48, 1503),
  (11, 119, 11, 50, 1505), (11, 122, 11, 51, 1506), (11, 125, 11, 53, 1508), (11, 128, 11, 54, 1509), (11, 131, 11, 56, 1511), (11, 134, 11, 57, 1512), (11, 137, 11, 59, 1514), (11, 140, 11, 60, 1515), (11, 143, 11, 61, 1516), (11, 146, 11, 62, 1517),
  (11, 149, 11, 64, 1519), (11, 152, 11, 65, 1520), (11, 155, 11, 66, 1521), (11, 158, 11, 67, 1522), (11, 161, 11, 68, 1523), (11, 164, 11, 69, 1524), (11, 181, 11, 2, 1457), (11, 187, 11, 4, 1459), (11, 196, 11, 10, 1465), (11, 218, 11, 13, 1468),
  (11, 221, 11, 11, 1466), (11, 224, 11, 14, 1469), (11, 227, 11, 15, 1470), (11, 230, 11, 16, 1471), (11, 245, 11, 12, 1467), (11, 248, 11, 18, 1473), (11, 251, 11, 19, 1474), (11, 254, 11, 20, 1475), (11, 257, 11, 39, 1494), (11, 260, 11, 45, 1500),
  (11, 270, 11, 58, 1513), (11, 273, 11, 63, 1518), (11, 308, 11, 49, 1504), (11, 321, 11, 52, 1507), (11, 357, 11, 55, 1510)]
def am_GL : List (Nat × Nat × Nat × Nat) := [(15, 9, 0, 2062), (15, 15, 1, 2063)]
def am_VL0 : List (Nat × Nat × Nat × Nat × Nat × Nat × Nat) := [(0, 43, 113, 1, 1141, 1142, 1143), (0, 49, 3, 0, 1149, 1151, 42), (0, 52, 114, 1, 1153, 1154, 1155), (0, 56, 4, 1, 1166, 1168, 43), (0, 68, 6, 3, 1176, 1178, 45), (0, 89, 5, 2, 1171, 1173, 44), (0, 92, 9, 2, 1196, 1198, 47), (0, 95, 90, 1, 1200, 589, 590), (0, 102, 97, 2, 1175, 1030, 1031), (0, 109, 106, 2, 1180, 1159, 1160), (0, 112, 7, 2, 1181, 1183, 46), (0, 115, 102, 1, 1188, 1050, 1051), (0, 118, 101, 1, 1189, 1046, 1047), (0, 121, 115, 2, 1190, 1191, 1192), (0, 124, 103, 1, 1194, 1054, 1055), (1, 43, 19, 0, 924, 926, 29), (1, 47, 16, 2, 928, 913, 914), (1, 51, 15, 1, 934, 897, 898), (1, 60, 25, 1, 1010, 1012, 34), (2, 25, 82, 1, 1065, 1066, 1067), (3, 32, 90, 1, 1298, 589, 590), (3, 38, 35, 4, 1299, 1301, 53), (3, 42, 114, 1, 1304, 1154, 1155), (3, 48, 37, 2, 1314, 1316, 55), (3, 52, 40, 1, 1330, 1332, 58), (3, 71, 36, 4, 1305, 1307, 54), (3, 75, 106, 2, 1309, 1159, 1160), (3, 79, 102, 1, 1310, 1050, 1051), (3, 83, 101, 1, 1311, 1046, 1047), (3, 86, 115, 2, 1312, 1191, 1192)]
def am_VL1 : List (Nat × Nat × Nat × Nat × Nat × Nat × Nat) := [(3, 98, 38, 2, 1319, 1321, 56), (3, 107, 41, 1, 1337, 1339, 59), (3, 110, 39, 4, 1323, 1325, 57), (3, 114, 97, 2, 1328, 1030, 1031), (3, 120, 103, 1, 1327, 1054, 1055), (4, 56, 86, 0, 660, 533, 534), (4, 61, 117, 1, 661, 662, 663), (4, 65, 44, 0, 805, 807, 8), (4, 68, 45, 0, 809, 811, 9), (4, 71, 67, 1, 947, 949, 32), (4, 74, 92, 0, 951, 952, 953), (4, 78, 46, 0, 813, 815, 10), (4, 81, 50, 0, 839, 841, 14), (4, 86, 58, 1, 876, 878, 22), (4, 93, 65, 1, 939, 941, 30), (4, 100, 66, 0, 943, 945, 31), (4, 103, 59, 1, 880, 882, 23), (4, 107, 54, 2, 860, 862, 18), (4, 123, 47, 1, 817, 819, 11), (4, 132, 48, 0, 821, 823, 12), (4, 135, 49, 2, 835, 837, 13), (4, 141, 126, 1, 826, 827, 828), (4, 145, 298, 1, 830, 751, 752), (4, 151, 91, 3, 831, 832, 833), (4, 158, 127, 2, 843, 844, 845), (4, 162, 51, 1, 848, 850, 15), (4, 166, 52, 1, 852, 854, 16), (4, 169, 53, 1, 856, 858, 17), (4, 175, 55, 1, 864, 866, 19), (4, 178, 57, 1, 872, 874, 21)]
def am_VL2 : List (Nat × Nat × Nat × Nat × Nat × Nat × Nat) := [(4, 182, 56, 1, 868, 870, 20), (4, 202, 14, 1, 884, 885, 886), (4, 205, 60, 0, 888, 890, 24), (4, 208, 61, 0, 892, 894, 25), (4, 211, 16, 2, 912, 913, 914), (4, 214, 21, 1, 935, 936, 937), (4, 217, 15, 1, 896, 897, 898), (4, 220, 62, 0, 900, 902, 26), (4, 224, 63, 1, 904, 906, 27), (4, 227, 64, 0, 908, 910, 28), (4, 230, 18, 0, 920, 921, 922), (4, 233, 20, 1, 930, 931, 932), (4, 236, 17, 1, 916, 917, 918), (5, 37, 87, 0, 1369, 553, 554), (5, 47, 97, 2, 1371, 1030, 1031), (5, 51, 74, 4, 1372, 1374, 60), (5, 55, 102, 1, 1376, 1050, 1051), (5, 62, 101, 1, 1377, 1046, 1047), (5, 72, 104, 3, 1379, 1076, 1077), (5, 80, 103, 1, 1383, 1054, 1055), (5, 83, 77, 2, 1388, 1389, 1390), (5, 86, 78, 2, 1392, 1394, 61), (6, 41, 87, 0, 552, 553, 554), (6, 48, 88, 1, 562, 563, 564), (7, 71, 13, 0, 539, 540, 541), (7, 74, 86, 0, 532, 533, 534), (7, 75, 88, 1, 587, 563, 564), (7, 79, 97, 2, 1162, 1030, 1031), (7, 90, 94, 2, 959, 960, 961), (7, 93, 89, 1, 963, 584, 585)]
def am_VL3 : List (Nat × Nat × Nat × Nat × Nat × Nat × Nat) := [(7, 97, 93, 1, 955, 957, 33), (7, 107, 22, 4, 998, 999, 1000), (7, 111, 23, 3, 1002, 1003, 1004), (7, 115, 24, 1, 1006, 1007, 1008), (7, 118, 95, 2, 1079, 993, 994), (7, 132, 99, 1, 1037, 1039, 36), (7, 135, 101, 1, 1045, 1046, 1047), (7, 138, 102, 1, 1049, 1050, 1051), (7, 141, 103, 1, 1053, 1054, 1055), (8, 43, 112, 1, 579, 581, 1), (8, 52, 89, 1, 583, 584, 585), (8, 56, 90, 1, 588, 589, 590), (8, 63, 27, 0, 1145, 1146, 1147), (8, 69, 113, 1, 1157, 1142, 1143), (8, 76, 106, 2, 1158, 1159, 1160), (8, 80, 102, 1, 1163, 1050, 1051), (8, 83, 101, 1, 1164, 1046, 1047), (8, 89, 104, 3, 1165, 1076, 1077), (9, 47, 118, 0, 671, 673, 3), (9, 50, 120, 0, 678, 680, 4), (9, 53, 126, 1, 847, 827, 828), (9, 64, 122, 0, 685, 687, 5), (9, 70, 125, 0, 745, 747, 7), (9, 75, 298, 1, 750, 751, 752), (9, 81, 123, 1, 689, 691, 6), (9, 86, 294, 0, 694, 695, 696), (9, 90, 296, 1, 704, 705, 706), (10, 89, 85, 0, 528, 529, 530), (10, 92, 129, 0, 544, 546, 0), (10, 95, 133, 1, 644, 646, 2)]
def am_VL4 : List (Nat × Nat × Nat × Nat × Nat × Nat × Nat) := [(10, 99, 43, 2, 656, 657, 658), (10, 103, 68, 0, 964, 965, 966), (10, 138, 94, 2, 986, 960, 961), (10, 145, 95, 2, 992, 993, 994), (10, 149, 96, 1, 1021, 1022, 1023), (10, 153, 143, 1, 1025, 1027, 35), (10, 156, 98, 2, 1033, 1034, 1035), (10, 159, 144, 1, 1057, 1059, 37), (10, 162, 150, 1, 1104, 1106, 40), (10, 165, 30, 1, 1061, 1062, 1063), (10, 172, 146, 1, 1087, 1089, 38), (10, 175, 31, 1, 1114, 1115, 1116), (10, 179, 105, 2, 1122, 1123, 1124), (10, 182, 83, 0, 1070, 1071, 1072), (10, 185, 104, 3, 1075, 1076, 1077), (10, 192, 155, 1, 1133, 1135, 41), (10, 199, 160, 2, 1221, 1223, 48), (10, 207, 164, 3, 1242, 1244, 49), (10, 210, 10, 2, 1206, 1207, 1208), (10, 213, 167, 1, 1254, 1256, 50), (10, 216, 2, 4, 1137, 1138, 1139), (10, 226, 89, 1, 1108, 584, 585), (10, 229, 171, 2, 1270, 1272, 51), (10, 232, 174, 1, 1282, 1284, 52), (10, 235, 107, 0, 1290, 1291, 1292), (10, 238, 34, 4, 1294, 1295, 1296), (10, 244, 71, 1, 1349, 1350, 1351), (10, 247, 70, 0, 570, 571, 572), (10, 250, 72, 1, 1361, 1362, 1363), (10, 253, 73, 2, 1365, 1366, 1367)]
def am_VL5 : List (Nat × Nat × Nat × Nat × Nat × Nat × Nat) := [(10, 257, 76, 1, 1384, 1385, 1386), (10, 260, 79, 2, 1397, 1398, 1399), (10, 263, 77, 2, 1405, 1389, 1390), (10, 266, 82, 1, 1410, 1066, 1067), (10, 273, 29, 0, 566, 567, 568), (10, 278, 108, 0, 1419, 1420, 1421), (10, 287, 184, 0, 1423, 1425, 62), (10, 290, 109, 0, 1427, 1428, 1429), (10, 293, 81, 1, 548, 549, 550), (10, 296, 111, 1, 574, 575, 576), (10, 299, 1, 1, 592, 593, 594), (10, 300, 33, 1, 596, 597, 598), (10, 301, 97, 2, 1029, 1030, 1031), (10, 304, 147, 0, 1091, 1093, 39), (10, 307, 88, 1, 1095, 563, 564), (10, 315, 11, 3, 1225, 1226, 1227), (11, 167, 186, 1, 1437, 1439, 63), (11, 175, 189, 0, 1448, 1450, 64), (11, 178, 190, 0, 1452, 1454, 65), (11, 184, 192, 1, 1671, 1673, 66), (11, 199, 196, 1, 1687, 1689, 68), (11, 203, 197, 4, 1691, 1693, 69), (11, 214, 200, 3, 1701, 1703, 70), (11, 233, 203, 1, 1713, 1715, 73), (11, 236, 201, 1, 1705, 1707, 71), (11, 239, 205, 0, 1721, 1723, 75), (11, 242, 195, 0, 1683, 1685, 67), (11, 263, 202, 0, 1709, 1711, 72), (11, 266, 218, 1, 1772, 1774, 87), (11, 276, 204, 0, 1717, 1719, 74)]
def am_VL6 : List (Nat × Nat × Nat × Nat × Nat × Nat × Nat) := [(11, 279, 209, 2, 1736, 1738, 78), (11, 283, 206, 1, 1725, 1727, 76), (11, 286, 210, 0, 1740, 1742, 79), (11, 289, 212, 1, 1748, 1750, 81), (11, 292, 207, 2, 1729, 1731, 77), (11, 299, 211, 1, 1744, 1746, 80), (11, 302, 213, 0, 1752, 1754, 82), (11, 305, 217, 0, 1768, 1770, 86), (11, 311, 215, 2, 1760, 1762, 84), (11, 314, 214, 0, 1756, 1758, 83), (11, 317, 216, 1, 1764, 1766, 85), (11, 331, 227, 2, 1805, 1807, 91), (11, 334, 224, 1, 1795, 1797, 90), (11, 341, 234, 2, 1832, 1834, 95), (11, 344, 233, 1, 1828, 1830, 94), (11, 363, 232, 3, 1824, 1826, 93), (11, 366, 247, 2, 1881, 1883, 102), (11, 369, 239, 4, 1852, 1854, 98), (11, 372, 237, 2, 1844, 1846, 97), (11, 376, 261, 3, 1935, 1937, 109), (11, 379, 257, 1, 1920, 1922, 106), (11, 382, 260, 2, 1931, 1933, 108), (11, 385, 223, 1, 1791, 1793, 89), (11, 391, 259, 3, 1927, 1929, 107), (11, 395, 256, 4, 1916, 1918, 105), (11, 399, 221, 0, 1784, 1786, 88), (11, 403, 229, 2, 1813, 1815, 92), (11, 407, 244, 0, 1869, 1871, 100), (11, 410, 245, 0, 1873, 1875, 101), (11, 413, 236, 0, 1840, 1842, 96)]
def am_VL7 : List (Nat × Nat × Nat × Nat × Nat × Nat × Nat) := [(11, 420, 243, 2, 1865, 1867, 99), (11, 424, 249, 2, 1889, 1891, 103), (11, 433, 255, 1, 1912, 1914, 104), (11, 442, 268, 2, 1962, 1964, 110), (11, 445, 271, 3, 1974, 1976, 112), (11, 448, 270, 2, 1970, 1972, 111), (11, 451, 282, 4, 2018, 2020, 116), (11, 455, 279, 1, 2006, 2008, 113), (11, 458, 280, 1, 2010, 2012, 114), (11, 461, 281, 4, 2014, 2016, 115), (11, 464, 288, 2, 2042, 2044, 119), (11, 467, 287, 2, 2038, 2040, 118), (11, 470, 286, 2, 2034, 2036, 117), (12, 13, 132, 5, 640, 641, 642), (12, 17, 191, 5, 1667, 1668, 1669), (12, 18, 134, 1, 648, 649, 650), (12, 22, 193, 1, 1675, 1676, 1677), (12, 23, 135, 0, 652, 653, 654), (12, 27, 194, 0, 1679, 1680, 1681), (12, 28, 136, 0, 968, 969, 970), (12, 31, 219, 0, 1776, 1777, 1778), (12, 32, 137, 1, 972, 973, 974), (12, 35, 220, 1, 1780, 1781, 1782), (12, 36, 140, 2, 982, 983, 984), (12, 40, 228, 2, 1809, 1810, 1811), (12, 41, 141, 3, 987, 988, 989), (12, 45, 231, 3, 1820, 1821, 1822), (12, 46, 142, 1, 1017, 1018, 1019), (12, 49, 235, 1, 1836, 1837, 1838), (12, 50, 148, 0, 1096, 1097, 1098)]
def am_VL8 : List (Nat × Nat × Nat × Nat × Nat × Nat × Nat) := [(12, 53, 246, 0, 1877, 1878, 1879), (12, 54, 149, 1, 1100, 1101, 1102), (12, 58, 248, 1, 1885, 1886, 1887), (12, 59, 151, 0, 1110, 1111, 1112), (12, 63, 250, 0, 1893, 1894, 1895), (12, 64, 152, 3, 1118, 1119, 1120), (12, 67, 251, 3, 1897, 1898, 1899), (12, 68, 153, 2, 1126, 1127, 1128), (12, 72, 253, 2, 1905, 1906, 1907), (12, 73, 159, 1, 1217, 1218, 1219), (12, 76, 264, 1, 1945, 1946, 1947), (12, 77, 161, 1, 1229, 1230, 1231), (12, 80, 265, 1, 1949, 1950, 1951), (12, 81, 162, 1, 1233, 1234, 1235), (12, 84, 266, 1, 1953, 1954, 1955), (12, 85, 163, 3, 1238, 1239, 1240), (12, 89, 267, 3, 1958, 1959, 1960), (12, 90, 165, 5, 1246, 1247, 1248), (12, 94, 269, 5, 1966, 1967, 1968), (12, 95, 166, 3, 1250, 1251, 1252), (12, 99, 272, 3, 1978, 1979, 1980), (12, 100, 168, 1, 1258, 1259, 1260), (12, 103, 273, 1, 1982, 1983, 1984), (12, 104, 169, 1, 1262, 1263, 1264), (12, 107, 274, 1, 1986, 1987, 1988), (12, 108, 170, 1, 1266, 1267, 1268), (12, 111, 275, 1, 1990, 1991, 1992), (12, 112, 172, 3, 1274, 1275, 1276), (12, 115, 276, 3, 1994, 1995, 1996), (12, 116, 173, 1, 1278, 1279, 1280)]
def am_VL9 : List (Nat × Nat × Nat × Nat × Nat × Nat × Nat) := [(12, 119, 277, 1, 1998, 1999, 2000), (12, 120, 175, 2, 1286, 1287, 1288), (12, 123, 278, 2, 2002, 2003, 2004), (12, 124, 176, 0, 1341, 1342, 1343), (12, 127, 252, 0, 1901, 1902, 1903), (12, 128, 177, 2, 1345, 1346, 1347), (12, 131, 283, 2, 2022, 2023, 2024), (12, 132, 178, 0, 1353, 1354, 1355), (12, 135, 284, 0, 2026, 2027, 2028), (12, 136, 179, 2, 1357, 1358, 1359), (12, 139, 285, 2, 2030, 2031, 2032), (12, 140, 180, 2, 1401, 1402, 1403), (12, 143, 289, 2, 2046, 2047, 2048), (12, 144, 181, 1, 1406, 1407, 1408), (12, 147, 290, 1, 2050, 2051, 2052), (12, 148, 182, 1, 1411, 1412, 1413), (12, 151, 291, 1, 2054, 2055, 2056), (12, 152, 183, 1, 1415, 1416, 1417), (12, 155, 292, 1, 2058, 2059, 2060), (15, 335, 295, 0, 698, 699, 700), (15, 492, 297, 0, 708, 709, 710), (15, 505, 294, 0, 758, 695, 696), (15, 633, 299, 2, 754, 755, 756)]
def am_SL : List (Nat × Nat × Nat × Nat × Nat × Nat × Nat) := [(2, 24, 80, 0, 1, 393, 349), (4, 45, 116, 1, 0, 276, 277), (7, 45, 12, 0, 1, 157, 158), (10, 22, 84, 0, 1, 151, 152), (10, 32, 42, 2, 0, 270, 271), (10, 41, 80, 0, 1, 348, 349), (10, 48, 28, 0, 0, 387, 388), (10, 59, 110, 1, 0, 407, 408), (10, 68, 0, 2, 0, 442, 443), (10, 77, 32, 2, 0, 476, 477),
  (10, 84, 69, 0, 1, 501, 502), (12, 9, 128, 0, 0, 143, 144), (12, 12, 185, 0, 0, 1433, 1434)]
def am_TL : List (Nat × Nat × Nat × Nat × Nat × Nat × Nat) := [(0, 59, 8, 2, 0, 1185, 1186), (0, 99, 156, 1, 1, 1201, 1202), (1, 37, 293, 2, 0, 543, 537), (1, 64, 26, 3, 0, 1014, 1015), (3, 55, 293, 2, 0, 1303, 537), (3, 95, 156, 1, 1, 1318, 1202), (5, 41, 293, 2, 0, 1370, 537), (5, 65, 131, 2, 1, 1378, 560), (5, 76, 75, 4, 0, 1380, 1381), (6, 37, 131, 2, 1, 1074, 560),
  (7, 65, 293, 2, 0, 536, 537), (7, 83, 130, 2, 1, 556, 557), (7, 87, 131, 2, 1, 559, 560), (7, 101, 138, 1, 1, 996, 977), (7, 104, 139, 1, 1, 997, 980), (7, 121, 145, 2, 1, 1080, 1081), (7, 144, 100, 2, 0, 1041, 1042), (8, 37, 293, 2, 0, 578, 537), (9, 57, 119, 1, 0, 675, 676), (9, 61, 121, 1, 0, 682, 683),
  (9, 67, 124, 1, 0, 742, 743), (10, 113, 138, 1, 0, 976, 977), (10, 117, 139, 1, 0, 979, 980), (10, 142, 130, 2, 0, 991, 557), (10, 169, 131, 2, 0, 1109, 560), (10, 189, 154, 1, 0, 1130, 1131), (10, 195, 157, 3, 0, 1210, 1211), (10, 202, 156, 1, 0, 1213, 1202), (10, 322, 158, 2, 0, 1214, 1215), (11, 171, 187, 7, 0, 1441, 1442),
  (11, 192, 188, 2, 0, 1444, 1445), (11, 207, 198, 1, 0, 1695, 1696), (11, 211, 199, 1, 0, 1698, 1699), (11, 296, 208, 1, 0, 1733, 1734), (11, 325, 225, 1, 0, 1799, 1800), (11, 328, 226, 1, 0, 1802, 1803), (11, 337, 222, 4, 0, 1788, 1789), (11, 347, 240, 1, 0, 1856, 1857), (11, 350, 241, 2, 0, 1859, 1860), (11, 353, 230, 3, 0, 1817, 1818),
  (11, 360, 242, 1, 0, 1862, 1863), (11, 388, 258, 1, 0, 1924, 1925), (11, 417, 238, 2, 0, 1848, 1849), (11, 427, 263, 2, 0, 1942, 1943), (11, 430, 254, 1, 0, 1909, 1910), (11, 436, 262, 3, 0, 1939, 1940), (15, 495, 300, 2, 0, 712, 713), (15, 637, 301, 4, 0, 759, 760), (16, 88, 302, 1, 0, 762, 763), (16, 95, 303, 4, 0, 767, 768)]
def am_ML : List (Nat × Nat × Nat × Nat) := [(994, 16, 9, 715), (996, 0, 106, 1195), (996, 1, 55, 929), (996, 3, 117, 1329), (996, 7, 129, 1086), (996, 9, 44, 668), (996, 10, 310, 1084), (996, 16, 92, 765), (997, 0, 75, 1170), (997, 2, 29, 1069),
  (997, 3, 90, 1313), (997, 7, 124, 1085), (997, 9, 38, 665), (997, 10, 325, 1083), (997, 16, 38, 766), (998, 3, 101, 1334), (998, 5, 89, 1396), (999, 0, 3, 445), (999, 1, 3, 160), (999, 2, 3, 390),
  (999, 3, 3, 479), (999, 4, 3, 273), (999, 5, 3, 504), (999, 6, 3, 351), (999, 7, 3, 154), (999, 8, 3, 410), (999, 9, 3, 279), (999, 10, 1, 146), (999, 11, 7, 1436)]
def am_CL : List (Nat × Nat × Nat × Nat) := [(7, 147, 1103515245, 1044), (11, 406, 1103515245, 1851)]
def am_LL : List (Nat × Nat × Nat × Nat) := [(10, 205, 100, 1237), (11, 190, 27, 1447), (11, 440, 100, 1957)]
def am_NL : List (Nat × Nat × Nat × Nat × Nat × Nat) := [(2, 9, 6, 391, 347, 126), (4, 15, 9, 274, 275, 125), (7, 43, 1, 155, 156, 123), (10, 20, 7, 149, 150, 122), (10, 30, 4, 268, 269, 124), (10, 39, 6, 346, 347, 126), (10, 46, 2, 385, 386, 127), (10, 57, 8, 405, 406, 128), (10, 66, 0, 440, 441, 129), (10, 75, 3, 474, 475, 130),
  (10, 82, 5, 499, 500, 131), (12, 7, 10, 141, 142, 121), (12, 10, 11, 1431, 1432, 133)]
def am_QL : List (Nat × Nat × Nat × Nat × Nat) := [(2, 9, 4, 391, 392), (8, 11, 5, 411, 412), (10, 39, 4, 346, 392)]
def am_SG : List (Nat × Nat × Nat × Nat) := [(10, 318, 0, 1204), (15, 38, 1, 702)]
def am_UL0 : List Nat := [455, 457, 459, 461, 463, 465, 467, 469, 471]
def am_UL1 : List Nat := [169, 171, 173, 175, 177, 179, 181, 183]
def am_UL2 : List Nat := [398, 400, 402]
def am_UL3 : List Nat := [486, 488, 490, 492, 494, 496]
def am_UL4 : List Nat := [321, 323, 325, 327, 329, 331, 333, 335, 337, 339, 341, 343]
def am_UL5 : List Nat := [513, 515, 517, 519, 521, 523, 525]
def am_UL6 : List Nat := [368, 370, 372, 374, 376, 378, 380, 382]
def am_UL7 : List Nat := [235, 237, 239, 241, 243, 245, 247, 249, 251, 253, 255, 257, 259, 261, 263, 265]
def am_UL8 : List Nat := [425, 427, 429, 431, 433, 435, 437]
def am_UL9 : List Nat := [291, 293, 295, 297, 299, 301, 303, 305]
def am_UL10 : List Nat := [613, 615, 617, 619, 621, 623, 625, 627, 629, 631, 633, 635, 637]
def am_UL11 : List Nat := [1525, 1527, 1529, 1531, 1533, 1535, 1537, 1539, 1541, 1543, 1545, 1547, 1549, 1551, 1553, 1555, 1557, 1559, 1561, 1563,
  1565, 1567, 1569, 1571, 1573, 1575, 1577, 1579, 1581, 1583, 1585, 1587, 1589, 1591, 1593, 1595, 1597, 1599, 1601, 1603,
  1605, 1607, 1609, 1611, 1613, 1615, 1617, 1619, 1621, 1623, 1625, 1627, 1629, 1631, 1633, 1635, 1637, 1639, 1641, 1643,
  1645, 1647, 1649, 1651, 1653, 1655, 1657, 1659, 1661, 1663]
def am_UL : List (List Nat) := [am_UL0, am_UL1, am_UL2, am_UL3, am_UL4, am_UL5, am_UL6, am_UL7, am_UL8, am_UL9, am_UL10, am_UL11]
def am_ML2 : List (Nat × Nat) := [(444, 129), (595, 129), (1140, 129), (1152, 129), (1169, 129), (1174, 129), (1179, 129), (1184, 129), (1187, 129), (1199, 129), (1209, 129), (1228, 129),
  (159, 123), (542, 123), (887, 123), (899, 123), (915, 123), (919, 123), (923, 123), (927, 123), (933, 123), (938, 123), (1001, 123), (1005, 123),
  (1009, 123), (1013, 123), (1016, 123), (1148, 123), (389, 127), (569, 127), (1064, 127), (1117, 127), (478, 130), (599, 130), (1297, 130), (1302, 130),
  (1308, 130), (1317, 130), (1322, 130), (1326, 130), (1333, 130), (1340, 130), (272, 124), (659, 124), (808, 124), (812, 124), (816, 124), (820, 124),
  (824, 124), (838, 124), (842, 124), (851, 124), (855, 124), (859, 124), (863, 124), (867, 124), (871, 124), (875, 124), (879, 124), (883, 124),
  (891, 124), (895, 124), (903, 124), (907, 124), (911, 124), (942, 124), (946, 124), (950, 124), (967, 124), (503, 131), (573, 131), (1352, 131),
  (1364, 131), (1368, 131), (1375, 131), (1382, 131), (1387, 131), (1391, 131), (1395, 131), (1400, 131), (350, 126), (551, 126), (1068, 126), (1073, 126),
  (153, 122), (531, 122), (535, 122), (555, 122), (565, 122), (586, 122), (591, 122), (834, 122), (954, 122), (958, 122), (962, 122), (995, 122),
  (1024, 122), (1032, 122), (1036, 122), (1040, 122), (1043, 122), (1048, 122), (1052, 122), (1056, 122), (1078, 122), (1125, 122), (1161, 122), (1293, 122),
  (1422, 122), (1430, 122), (409, 128), (577, 128), (582, 128), (1144, 128), (1156, 128), (1193, 128), (278, 125), (664, 125), (674, 125), (677, 125),
  (681, 125), (684, 125), (688, 125), (692, 125), (744, 125), (748, 125), (829, 125), (846, 125), (145, 121), (547, 121), (558, 121), (561, 121),
  (643, 121), (647, 121), (651, 121), (655, 121), (971, 121), (975, 121), (978, 121), (981, 121), (985, 121), (990, 121), (1020, 121), (1028, 121),
  (1060, 121), (1082, 121), (1090, 121), (1094, 121), (1099, 121), (1103, 121), (1107, 121), (1113, 121), (1121, 121), (1129, 121), (1132, 121), (1136, 121),
  (1203, 121), (1212, 121), (1216, 121), (1220, 121), (1224, 121), (1232, 121), (1236, 121), (1241, 121), (1245, 121), (1249, 121), (1253, 121), (1257, 121),
  (1261, 121), (1265, 121), (1269, 121), (1273, 121), (1277, 121), (1281, 121), (1285, 121), (1289, 121), (1344, 121), (1348, 121), (1356, 121), (1360, 121),
  (1404, 121), (1409, 121), (1414, 121), (1418, 121), (1426, 121), (1435, 133), (1440, 133), (1443, 133), (1446, 133), (1451, 133), (1455, 133), (1670, 133),
  (1674, 133), (1678, 133), (1682, 133), (1686, 133), (1690, 133), (1694, 133), (1697, 133), (1700, 133), (1704, 133), (1708, 133), (1712, 133), (1716, 133),
  (1720, 133), (1724, 133), (1728, 133), (1732, 133), (1735, 133), (1739, 133), (1743, 133), (1747, 133), (1751, 133), (1755, 133), (1759, 133), (1763, 133),
  (1767, 133), (1771, 133), (1775, 133), (1779, 133), (1783, 133), (1787, 133), (1790, 133), (1794, 133), (1798, 133), (1801, 133), (1804, 133), (1808, 133),
  (1812, 133), (1816, 133), (1819, 133), (1823, 133), (1827, 133), (1831, 133), (1835, 133), (1839, 133), (1843, 133), (1847, 133), (1850, 133), (1855, 133),
  (1858, 133), (1861, 133), (1864, 133), (1868, 133), (1872, 133), (1876, 133), (1880, 133), (1884, 133), (1888, 133), (1892, 133), (1896, 133), (1900, 133),
  (1904, 133), (1908, 133), (1911, 133), (1915, 133), (1919, 133), (1923, 133), (1926, 133), (1930, 133), (1934, 133), (1938, 133), (1941, 133), (1944, 133),
  (1948, 133), (1952, 133), (1956, 133), (1961, 133), (1965, 133), (1969, 133), (1973, 133), (1977, 133), (1981, 133), (1985, 133), (1989, 133), (1993, 133),
  (1997, 133), (2001, 133), (2005, 133), (2009, 133), (2013, 133), (2017, 133), (2021, 133), (2025, 133), (2029, 133), (2033, 133), (2037, 133), (2041, 133),
  (2045, 133), (2049, 133), (2053, 133), (2057, 133), (2061, 133), (538, 132), (697, 135), (701, 135), (707, 135), (711, 135), (753, 135), (757, 135),
  (714, 136), (761, 136), (764, 136), (769, 136)]
/-- the words that last -/
def am_Ts : List Cond := lw_tbl.filter goodWord
def am_lw (p : Nat) (w : Cond) : Bool := decide (lw_tbl[p]? = some w) && goodWord w
theorem am_lw_mem {p : Nat} {w : Cond} (h : am_lw p w = true) : w ∈ am_Ts := by
  unfold am_lw at h
  rw [Bool.and_eq_true] at h
  exact List.mem_filter.mpr ⟨List.mem_of_getElem? (of_decide_eq_true h.1), h.2⟩
theorem am_good : ∀ w ∈ am_Ts, goodWord w = true := fun w h => (List.mem_filter.mp h).2
set_option maxRecDepth 20000 in
theorem am_FL_ok : am_FL.all (fun q => Nat.blt q.2.2.1 12 && Nat.blt q.2.2.2.1 (am_nf q.2.2.1) && am_lw q.2.2.2.2 (.fieldLink (am_cn q.1) q.2.1 (am_tb q.2.2.1 q.2.2.2.1).1 (am_tb q.2.2.1 q.2.2.2.1).2.1 (am_tb q.2.2.1 q.2.2.2.1).2.2.1)) = true := by decide +kernel
theorem am_GL_ok : am_GL.all (fun q => (Nat.beq q.2.2.1 0 && am_lw q.2.2.2 (.fieldLink (am_cn q.1) q.2.1 "java/lang/String" "value" "[B")) || (Nat.beq q.2.2.1 1 && am_lw q.2.2.2 (.fieldLink (am_cn q.1) q.2.1 "java/lang/String" "coder" "B"))) = true := by decide +kernel
theorem am_SG_ok : am_SG.all (fun q => (Nat.beq q.2.2.1 0 && am_lw q.2.2.2 (.fieldLink (am_cn q.1) q.2.1 "StoneHome" "SIXES" "[I")) || (Nat.beq q.2.2.1 1 && am_lw q.2.2.2 (.fieldLink (am_cn q.1) q.2.1 "java/lang/String" "COMPACT_STRINGS" "Z"))) = true := by decide +kernel
theorem am_CL_ok : am_CL.all (fun q => am_lw q.2.2.2 (.constant (am_cn q.1) q.2.1 (Int32.ofNat q.2.2.1))) = true := by decide +kernel
theorem am_LL_ok : am_LL.all (fun q => am_lw q.2.2.2 (.constantLong (am_cn q.1) q.2.1 (Int64.ofNat q.2.2.1))) = true := by decide +kernel
theorem am_NL_ok : am_NL.all (fun q => Nat.blt q.2.2.1 12 && am_lw q.2.2.2.1 (.classLink (am_cn q.1) q.2.1 (am_cn q.2.2.1)) && am_lw q.2.2.2.2.1 (.instantiable (am_cn q.2.2.1) (am_nf q.2.2.1)) && am_lw q.2.2.2.2.2 (.initialized (am_cn q.2.2.1))) = true := by decide +kernel
theorem am_QL_ok : am_QL.all (fun q => (Nat.beq q.2.2.1 4 && am_lw q.2.2.2.1 (.classLink (am_cn q.1) q.2.1 RX6)) || (Nat.beq q.2.2.1 5 && am_lw q.2.2.2.1 (.classLink (am_cn q.1) q.2.1 "[I"))) = true := by decide +kernel
def am_Vc (q : Nat × Nat × Nat × Nat × Nat × Nat × Nat) : Bool := Nat.blt q.2.2.1 am_NM && am_lw q.2.2.2.2.1 (.methodLink (am_cn q.1) q.2.1 (am_yN q.2.2.1)) && am_lw q.2.2.2.2.2.1 (.instanceMethod (am_yN q.2.2.1)) && am_lw q.2.2.2.2.2.2 (.selects (am_yN q.2.2.1).cls (am_yN q.2.2.1) (am_yN q.2.2.1)) && decide ((parseMethodDescriptor (am_yN q.2.2.1).desc).map (fun d => d.parameters.length) = some q.2.2.2.1)
theorem am_VL0_ok : am_VL0.all am_Vc = true := by decide +kernel
theorem am_VL1_ok : am_VL1.all am_Vc = true := by decide +kernel
theorem am_VL2_ok : am_VL2.all am_Vc = true := by decide +kernel
theorem am_VL3_ok : am_VL3.all am_Vc = true := by decide +kernel
theorem am_VL4_ok : am_VL4.all am_Vc = true := by decide +kernel
theorem am_VL5_ok : am_VL5.all am_Vc = true := by decide +kernel
theorem am_VL6_ok : am_VL6.all am_Vc = true := by decide +kernel
theorem am_VL7_ok : am_VL7.all am_Vc = true := by decide +kernel
theorem am_VL8_ok : am_VL8.all am_Vc = true := by decide +kernel
theorem am_VL9_ok : am_VL9.all am_Vc = true := by decide +kernel
def am_VL : List (Nat × Nat × Nat × Nat × Nat × Nat × Nat) := am_VL0 ++ am_VL1 ++ am_VL2 ++ am_VL3 ++ am_VL4 ++ am_VL5 ++ am_VL6 ++ am_VL7 ++ am_VL8 ++ am_VL9
theorem am_VL_ok : am_VL.all am_Vc = true := by
  simp only [am_VL, List.all_append, Bool.and_eq_true]
  exact ⟨⟨⟨⟨⟨⟨⟨⟨⟨am_VL0_ok, am_VL1_ok⟩, am_VL2_ok⟩, am_VL3_ok⟩, am_VL4_ok⟩, am_VL5_ok⟩, am_VL6_ok⟩, am_VL7_ok⟩, am_VL8_ok⟩, am_VL9_ok⟩
theorem am_SL_ok : am_SL.all (fun q => Nat.blt q.2.2.1 am_NM && ((Nat.beq q.2.2.2.2.1 0 && am_lw q.2.2.2.2.2.1 (.methodLink (am_cn q.1) q.2.1 (am_yN q.2.2.1))) || decide (Cond.methodLinkNest (am_cn q.1) q.2.1 (am_yN q.2.2.1) "StoneHome" ∈ am_Ns)) && am_lw q.2.2.2.2.2.2 (.instanceMethod (am_yN q.2.2.1)) && decide ((am_yN q.2.2.1).name = "<init>") && Nat.beq (am_P q.2.2.1).2.2.1 0 && decide ((parseMethodDescriptor (am_yN q.2.2.1).desc).map (fun d => d.parameters.length) = some q.2.2.2.1)) = true := by decide +kernel
theorem am_TL_ok : am_TL.all (fun q => Nat.blt q.2.2.1 am_NM && ((Nat.beq q.2.2.2.2.1 0 && am_lw q.2.2.2.2.2.1 (.methodLink (am_cn q.1) q.2.1 (am_yN q.2.2.1))) || decide (Cond.methodLinkNest (am_cn q.1) q.2.1 (am_yN q.2.2.1) "StoneHome" ∈ am_Ns)) && am_lw q.2.2.2.2.2.2 (.static (am_yN q.2.2.1)) && decide ((parseMethodDescriptor (am_yN q.2.2.1).desc).map (fun d => d.parameters.length) = some q.2.2.2.1)) = true := by decide +kernel
/-- a primitive's name -/
def am_pn (a : Nat) : MethodName := if a = 999 then objectInit else if a = 998 then arraycopyName else if a = 997 then Lib.Math.min.name else if a = 996 then Lib.Math.max.name else am_yCk
theorem am_ML_ok : am_ML.all (fun q => (Nat.beq q.1 999 || Nat.beq q.1 998 || Nat.beq q.1 997 || Nat.beq q.1 996 || Nat.beq q.1 994) && am_lw q.2.2.2 (.methodLink (am_cn q.2.1) q.2.2.1 (am_pn q.1))) = true := by decide +kernel
end
section
/-! ===== the tables are right: a check by program, and what it says ===== -/
def am_ref : FieldType → Bool
  | .object _ => true
  | .array _ => true
  | _ => false
def am_ckE (own : Nat) (ini : Bool) (maxL : Nat) (i : Instr) (pc a b : Nat) : Bool := match i with
  | .aload k | .iload k | .lload k => Nat.beq a k
  | .aload_n k | .iload_n k | .lload_n k => Nat.beq a k.val
  | .astore k | .istore k | .iinc k _ => Nat.beq a k && Nat.blt k maxL
  | .astore_n k | .istore_n k => Nat.beq a k.val && Nat.blt k.val maxL
  | .lstore k => Nat.beq a k && Nat.blt (k + 1) maxL
  | .lstore_n k => Nat.beq a k.val && Nat.blt (k.val + 1) maxL
  | .ldc idx => (Nat.beq a 0 && am_CL.any (fun q => Nat.beq q.1 own && Nat.beq q.2.1 idx && Nat.beq q.2.2.1 b)) || (Nat.beq a 1 && ((Nat.beq b 2 && Nat.beq own 9 && Nat.beq idx 84) || (Nat.beq b 3 && Nat.beq own 9 && Nat.beq idx 73) || (Nat.beq b 4 && Nat.beq own 4 && Nat.beq idx 139)))
  | .ldc_w idx => am_CL.any (fun q => Nat.beq q.1 own && Nat.beq q.2.1 idx && Nat.beq q.2.2.1 b)
  | .ldc2_w idx => am_LL.any (fun q => Nat.beq q.1 own && Nat.beq q.2.1 idx && Nat.beq q.2.2.1 b)
  | .goto off | .ifCond _ off | .if_icmp _ off | .ifnonnull off => decide ((pc : Int) + off = (a : Int))
  | .tableswitch dflt _ _ _ => decide ((pc : Int) + dflt = (a : Int))
  | .baload | .bastore => Nat.beq a 1 || Nat.beq a 2
  | .aaload => Nat.beq a 4 || Nat.beq a 5
  | .newarray ty => Nat.blt (am_aty ty) 4
  | .anewarray idx => am_QL.any (fun q => Nat.beq q.1 own && Nat.beq q.2.1 idx && Nat.beq q.2.2.1 a)
  | .new idx => am_NL.any (fun q => Nat.beq q.1 own && Nat.beq q.2.1 idx && Nat.beq q.2.2.1 a)
  | .getfield idx => am_FL.any (fun q => Nat.beq q.1 own && Nat.beq q.2.1 idx && Nat.beq q.2.2.1 a && Nat.beq q.2.2.2.1 b) || (Nat.beq a 15 && am_GL.any (fun q => Nat.beq q.1 own && Nat.beq q.2.1 idx && Nat.beq q.2.2.1 b))
  | .putfield idx => am_FL.any (fun q => Nat.beq q.1 own && Nat.beq q.2.1 idx && Nat.beq q.2.2.1 a && Nat.beq q.2.2.2.1 (b / 8)) && ((Nat.beq (b % 4) 0 && decide (am_ft a (b / 8) = .int)) || (Nat.beq (b % 4) 1 && decide (am_ft a (b / 8) = .boolean)) || (Nat.beq (b % 4) 2 && am_ref (am_ft a (b / 8)))) && (!(am_tb a (b / 8)).2.2.2 || (ini && Nat.beq a own && decide ((am_tb a (b / 8)).1 = am_cn own)))
  | .getstatic idx => am_SG.any (fun q => Nat.beq q.1 own && Nat.beq q.2.1 idx && Nat.beq q.2.2.1 a)
  | .invokevirtual idx => am_VL.any (fun q => Nat.beq q.1 own && Nat.beq q.2.1 idx && Nat.beq q.2.2.1 a && Nat.beq q.2.2.2.1 b)
  | .invokespecial idx => (Nat.beq a 999 && am_ML.any (fun q => Nat.beq q.1 999 && Nat.beq q.2.1 own && Nat.beq q.2.2.1 idx)) || am_SL.any (fun q => Nat.beq q.1 own && Nat.beq q.2.1 idx && Nat.beq q.2.2.1 a && Nat.beq q.2.2.2.1 b)
  | .invokestatic idx => ((Nat.beq a 998 || Nat.beq a 997 || Nat.beq a 996 || Nat.beq a 994) && am_ML.any (fun q => Nat.beq q.1 a && Nat.beq q.2.1 own && Nat.beq q.2.2.1 idx)) || am_TL.any (fun q => Nat.beq q.1 own && Nat.beq q.2.1 idx && Nat.beq q.2.2.1 a && Nat.beq q.2.2.2.1 b)
  | _ => true
theorem am_b3 {q : Nat × Nat × Nat × Nat} {x y z : Nat} (h : (Nat.beq q.1 x && Nat.beq q.2.1 y && Nat.beq q.2.2.1 z) = true) : q.1 = x ∧ q.2.1 = y ∧ q.2.2.1 = z := by
  simp only [Bool.and_eq_true] at h
  exact ⟨Nat.eq_of_beq_eq_true h.1.1, Nat.eq_of_beq_eq_true h.1.2, Nat.eq_of_beq_eq_true h.2⟩
theorem am_oI : Cond.instanceMethod objectInit ∈ am_Ts := am_lw_mem (p := 147) (by decide +kernel)
theorem am_oC : Cond.code objectInit ⟨#[0xb1]⟩ 1 none ∈ am_Ts := am_lw_mem (p := 148) (by decide +kernel)
theorem am_aN : Cond.native arraycopyName ∈ am_Ts := am_lw_mem (p := 1336) (by decide +kernel)
theorem am_aS : Cond.static arraycopyName ∈ am_Ts := am_lw_mem (p := 1335) (by decide +kernel)
theorem am_aI : Cond.initialized "java/lang/System" ∈ am_Ts := am_lw_mem (p := 140) (by decide +kernel)
theorem am_mI : Cond.initialized "java/lang/Math" ∈ am_Ts := am_lw_mem (p := 134) (by decide +kernel)
theorem am_mS1 : Cond.static Lib.Math.min.name ∈ am_Ts := am_lw_mem (p := 666) (by decide +kernel)
theorem am_mC1 : Cond.code Lib.Math.min.name Lib.Math.min.code 2 (some .int) ∈ am_Ts := am_lw_mem (p := 667) (by decide +kernel)
theorem am_mS2 : Cond.static Lib.Math.max.name ∈ am_Ts := am_lw_mem (p := 669) (by decide +kernel)
theorem am_mC2 : Cond.code Lib.Math.max.name Lib.Math.max.code 2 (some .int) ∈ am_Ts := am_lw_mem (p := 670) (by decide +kernel)
theorem am_ckIn : ∀ w ∈ am_ckw, w ∈ am_Ts := by
  intro w hw
  simp only [am_ckw, List.mem_cons, List.not_mem_nil, or_false] at hw
  rcases hw with e | e | e | e | e | e | e | e <;> subst e
  · exact am_lw_mem (p := 717) (by decide +kernel)
  · exact am_lw_mem (p := 716) (by decide +kernel)
  · exact am_lw_mem (p := 135) (by decide +kernel)
  · exact am_lw_mem (p := 720) (by decide +kernel)
  · exact am_lw_mem (p := 721) (by decide +kernel)
  · exact am_lw_mem (p := 137) (by decide +kernel)
  · exact am_lw_mem (p := 722) (by decide +kernel)
  · exact am_lw_mem (p := 718) (by decide +kernel)
theorem am_arr (ty : ArrayType) (h : am_aty ty < 4) : Cond.arrayClass (newarray.typeOf ty) ∈ am_Ts := by
  cases ty <;> first | exact absurd h (by decide) | skip
  · exact am_lw_mem (p := 1666) (by decide +kernel)
  · exact am_lw_mem (p := 186) (by decide +kernel)
  · exact am_lw_mem (p := 187) (by decide +kernel)
  · exact am_lw_mem (p := 308) (by decide +kernel)
end
section
theorem am_ckE_ok {own : Nat} {ini : Bool} {maxL : Nat} {i : Instr} {pc a b : Nat} {yn : String} (hi : ini = true → yn = "<init>") (h : am_ckE own ini maxL i pc a b = true) : am_Ei am_P am_yN am_NM am_Ts (am_cn own) yn maxL i pc a b := by
  have bq : ∀ {x y : Nat}, Nat.beq x y = true → x = y := fun h => Nat.eq_of_beq_eq_true h
  have bl : ∀ {x y : Nat}, Nat.blt x y = true → x < y := fun h => Nat.lt_of_succ_le (Nat.le_of_ble_eq_true h)
  cases i
  all_goals (try exact trivial)
  all_goals (unfold am_ckE at h; unfold am_Ei; try simp only [Bool.and_eq_true, Bool.or_eq_true, decide_eq_true_eq] at h)
  case aload k => exact bq h
  case aload_n k => exact bq h
  case iload k => exact bq h
  case iload_n k => exact bq h
  case lload k => exact bq h
  case lload_n k => exact bq h
  case astore k => exact ⟨bq h.1, bl h.2⟩
  case astore_n k => exact ⟨bq h.1, bl h.2⟩
  case istore k => exact ⟨bq h.1, bl h.2⟩
  case istore_n k => exact ⟨bq h.1, bl h.2⟩
  case lstore k => exact ⟨bq h.1, bl h.2⟩
  case lstore_n k => exact ⟨bq h.1, bl h.2⟩
  case iinc k n => exact ⟨bq h.1, bl h.2⟩
  case goto off => exact h
  case ifCond c off => exact h
  case if_icmp c off => exact h
  case ifnonnull off => exact h
  case tableswitch d lo hi os => exact h
  case baload => exact h.elim (fun h => Or.inl (bq h)) (fun h => Or.inr (bq h))
  case bastore => exact h.elim (fun h => Or.inl (bq h)) (fun h => Or.inr (bq h))
  case aaload => exact h.elim (fun h => Or.inl (bq h)) (fun h => Or.inr (bq h))
  case newarray ty => exact ⟨bl h, am_arr ty (bl h)⟩
  case ldc idx =>
    rcases h with ⟨ha, h⟩ | ⟨ha, h⟩
    · left
      obtain ⟨q, hq, h⟩ := List.any_eq_true.mp h
      obtain ⟨e1, e2, e3⟩ := am_b3 h
      have := List.all_eq_true.mp am_CL_ok q hq
      rw [e1, e2, e3] at this
      exact ⟨bq ha, am_lw_mem this⟩
    · right
      refine ⟨bq ha, ?_⟩
      rcases h with (⟨⟨h1, h2⟩, h3⟩ | ⟨⟨h1, h2⟩, h3⟩) | ⟨⟨h1, h2⟩, h3⟩
      · exact Or.inl ⟨bq h1, by rw [bq h2]; rfl, bq h3⟩
      · exact Or.inr (Or.inl ⟨bq h1, by rw [bq h2]; rfl, bq h3⟩)
      · exact Or.inr (Or.inr ⟨bq h1, by rw [bq h2]; rfl, bq h3⟩)
  case ldc_w idx =>
    obtain ⟨q, hq, h⟩ := List.any_eq_true.mp h
    obtain ⟨e1, e2, e3⟩ := am_b3 h
    have := List.all_eq_true.mp am_CL_ok q hq
    rw [e1, e2, e3] at this
    exact am_lw_mem this
  case ldc2_w idx =>
    obtain ⟨q, hq, h⟩ := List.any_eq_true.mp h
    obtain ⟨e1, e2, e3⟩ := am_b3 h
    have := List.all_eq_true.mp am_LL_ok q hq
    rw [e1, e2, e3] at this
    exact am_lw_mem this
  case anewarray idx =>
    obtain ⟨q, hq, h⟩ := List.any_eq_true.mp h
    simp only [Bool.and_eq_true] at h
    have e1 := bq h.1.1; have e2 := bq h.1.2; have e3 := bq h.2
    have := List.all_eq_true.mp am_QL_ok q hq
    rw [e1, e2, e3] at this
    simp only [Bool.and_eq_true, Bool.or_eq_true] at this
    exact this.elim (fun h => Or.inl ⟨bq h.1, am_lw_mem h.2⟩) (fun h => Or.inr ⟨bq h.1, am_lw_mem h.2⟩)
  case new idx =>
    obtain ⟨q, hq, h⟩ := List.any_eq_true.mp h
    simp only [Bool.and_eq_true] at h
    have e1 := bq h.1.1; have e2 := bq h.1.2; have e3 := bq h.2
    have := List.all_eq_true.mp am_NL_ok q hq
    rw [e1, e2, e3] at this
    simp only [Bool.and_eq_true] at this
    exact ⟨bl this.1.1.1, am_lw_mem this.1.1.2, am_lw_mem this.1.2, am_lw_mem this.2⟩
  case getfield idx =>
    rcases h with h | ⟨ha, h⟩
    · left
      obtain ⟨q, hq, h⟩ := List.any_eq_true.mp h
      simp only [Bool.and_eq_true] at h
      have e1 := bq h.1.1.1; have e2 := bq h.1.1.2; have e3 := bq h.1.2; have e4 := bq h.2
      have := List.all_eq_true.mp am_FL_ok q hq
      rw [e1, e2, e3, e4] at this
      simp only [Bool.and_eq_true] at this
      exact ⟨bl this.1.1, bl this.1.2, am_lw_mem this.2⟩
    · right
      refine ⟨bq ha, ?_⟩
      obtain ⟨q, hq, h⟩ := List.any_eq_true.mp h
      obtain ⟨e1, e2, e3⟩ := am_b3 h
      have := List.all_eq_true.mp am_GL_ok q hq
      rw [e1, e2, e3] at this
      simp only [Bool.and_eq_true, Bool.or_eq_true] at this
      exact this.elim (fun h => Or.inl ⟨bq h.1, am_lw_mem h.2⟩) (fun h => Or.inr ⟨bq h.1, am_lw_mem h.2⟩)
  case getstatic idx =>
    obtain ⟨q, hq, h⟩ := List.any_eq_true.mp h
    obtain ⟨e1, e2, e3⟩ := am_b3 h
    have := List.all_eq_true.mp am_SG_ok q hq
    rw [e1, e2, e3] at this
    simp only [Bool.and_eq_true, Bool.or_eq_true] at this
    exact this.elim (fun h => Or.inl ⟨bq h.1, am_lw_mem h.2⟩) (fun h => Or.inr ⟨bq h.1, am_lw_mem h.2⟩)
  case putfield idx =>
    obtain ⟨⟨h, hty⟩, hfin⟩ := h
    obtain ⟨q, hq, h⟩ := List.any_eq_true.mp h
    simp only [Bool.and_eq_true] at h
    have e1 := bq h.1.1.1; have e2 := bq h.1.1.2; have e3 := bq h.1.2; have e4 := bq h.2
    have := List.all_eq_true.mp am_FL_ok q hq
    rw [e1, e2, e3, e4] at this
    simp only [Bool.and_eq_true] at this
    refine ⟨bl this.1.1, bl this.1.2, am_lw_mem this.2, ?_, ?_⟩
    · rcases hty with (⟨k1, k2⟩ | ⟨k1, k2⟩) | ⟨k1, k2⟩
      · exact Or.inl ⟨bq k1, k2⟩
      · exact Or.inr (Or.inl ⟨bq k1, k2⟩)
      · cases hf : am_ft a (b / 8) with
        | object n => exact Or.inr (Or.inr (Or.inl ⟨bq k1, n, rfl⟩))
        | array n => exact Or.inr (Or.inr (Or.inr ⟨bq k1, n, rfl⟩))
        | _ => rw [hf] at k2; cases k2
    · rcases hfin with hf | ⟨⟨k1, k2⟩, k3⟩
      · left
        simpa using hf
      · cases hf : (am_tb a (b / 8)).2.2.2 with
        | false => exact Or.inl rfl
        | true => exact Or.inr ⟨rfl, hi k1, k3⟩
  case invokevirtual idx =>
    obtain ⟨q, hq, h⟩ := List.any_eq_true.mp h
    simp only [Bool.and_eq_true] at h
    have e1 := bq h.1.1.1; have e2 := bq h.1.1.2; have e3 := bq h.1.2; have e4 := bq h.2
    have := List.all_eq_true.mp am_VL_ok q hq
    unfold am_Vc at this
    rw [e1, e2, e3, e4] at this
    simp only [Bool.and_eq_true, decide_eq_true_eq] at this
    obtain ⟨⟨⟨⟨g1, g2⟩, g3⟩, g4⟩, g5⟩ := this
    exact ⟨bl g1, am_lw_mem g2, am_lw_mem g3, am_lw_mem g4, g5⟩
  case invokespecial idx =>
    rcases h with ⟨ha, h⟩ | h
    · left
      obtain ⟨q, hq, h⟩ := List.any_eq_true.mp h
      obtain ⟨e1, e2, e3⟩ := am_b3 h
      have := List.all_eq_true.mp am_ML_ok q hq
      rw [e1, e2, e3] at this
      rw [Bool.and_eq_true] at this
      exact ⟨bq ha, am_lw_mem this.2, am_oI, am_oC⟩
    · right
      obtain ⟨q, hq, h⟩ := List.any_eq_true.mp h
      simp only [Bool.and_eq_true] at h
      have e1 := bq h.1.1.1; have e2 := bq h.1.1.2; have e3 := bq h.1.2; have e4 := bq h.2
      have := List.all_eq_true.mp am_SL_ok q hq
      rw [e1, e2, e3, e4] at this
      simp only [Bool.and_eq_true, Bool.or_eq_true, decide_eq_true_eq] at this
      obtain ⟨⟨⟨⟨⟨g1, g2⟩, g3⟩, g4⟩, g5⟩, g6⟩ := this
      have hN := bl g1
      refine ⟨fun z => ?_, hN, g2.elim (fun z => Or.inl (am_lw_mem z.2)) (fun z => Or.inr ⟨_, z⟩), am_lw_mem g3, g4, bq g5, g6⟩
      subst z
      exact absurd hN (by decide)
  case invokestatic idx =>
    rcases h with ⟨ha, h⟩ | h
    · obtain ⟨q, hq, h⟩ := List.any_eq_true.mp h
      obtain ⟨e1, e2, e3⟩ := am_b3 h
      have := List.all_eq_true.mp am_ML_ok q hq
      rw [e1, e2, e3] at this
      rw [Bool.and_eq_true] at this
      have hl := am_lw_mem this.2
      rcases ha with ((ha | ha) | ha) | ha <;> have ha := bq ha <;> subst ha
      · exact Or.inl ⟨rfl, hl, am_aN, am_aS, am_aI⟩
      · exact Or.inr (Or.inl ⟨rfl, hl, am_mS1, am_mI, am_mC1⟩)
      · exact Or.inr (Or.inr (Or.inl ⟨rfl, hl, am_mS2, am_mI, am_mC2⟩))
      · exact Or.inr (Or.inr (Or.inr (Or.inl ⟨rfl, hl, am_ckIn⟩)))
    · right; right; right; right
      obtain ⟨q, hq, h⟩ := List.any_eq_true.mp h
      simp only [Bool.and_eq_true] at h
      have e1 := bq h.1.1.1; have e2 := bq h.1.1.2; have e3 := bq h.1.2; have e4 := bq h.2
      have := List.all_eq_true.mp am_TL_ok q hq
      rw [e1, e2, e3, e4] at this
      simp only [Bool.and_eq_true, Bool.or_eq_true, decide_eq_true_eq] at this
      obtain ⟨⟨⟨g1, g2⟩, g3⟩, g4⟩ := this
      have hN := bl g1
      have hne : ∀ k, 304 ≤ k → ¬ a = k := fun k hk z => by subst z; exact absurd (show a < 304 from hN) (by omega)
      exact ⟨hne 998 (by decide), hne 997 (by decide), hne 996 (by decide), hne 994 (by decide), hN, g2.elim (fun z => Or.inl (am_lw_mem z.2)) (fun z => Or.inr ⟨_, z⟩), am_lw_mem g3, g4⟩
def am_isT : Instr → Bool
  | .tableswitch _ _ _ _ => true
  | _ => false
def am_ckD (cc : ByteArray) (pc : Nat) (q : am_I) : Bool := match decode cc pc with
  | .ok (i, len) => decide (i = q.1) && (am_isT i || (Nat.beq len (am_len i) && Nat.beq q.2.1 (pc + len)))
  | _ => false
def am_ckM (M : Nat) : Bool := (am_P M).2.2.2.all (fun e => am_ckD (am_cN M) e.1 e.2 && am_ckE (am_P M).1 (decide ((am_yN M).name = "<init>")) (am_P M).2.1 e.2.1 e.1 e.2.2.2.1 e.2.2.2.2)
theorem am_at_mem : ∀ (l : List (Nat × am_I)) (pc : Nat) (q : am_I), am_at l pc = some q → (pc, q) ∈ l := by
  intro l
  induction l with
  | nil => intro pc q h; cases h
  | cons x t ih =>
    intro pc q h
    unfold am_at at h
    cases e : Nat.beq x.1 pc with
    | true =>
      rw [e] at h
      have := Nat.eq_of_beq_eq_true e
      cases h
      subst this
      exact List.mem_cons_self
    | false =>
      rw [e] at h
      exact List.mem_cons_of_mem _ (ih pc q h)
theorem am_ckM_ok {M : Nat} (h : am_ckM M = true) : ∀ pc q, am_at (am_P M).2.2.2 pc = some q → am_E am_P am_yN am_cN am_NM am_Ts M pc q := by
  intro pc q hq
  have h1 := List.all_eq_true.mp h _ (am_at_mem _ _ _ hq)
  rw [Bool.and_eq_true] at h1
  obtain ⟨h1, h2⟩ := h1
  refine ⟨?_, am_ckE_ok (fun z => of_decide_eq_true z) h2⟩
  unfold am_ckD at h1
  split at h1
  · rename_i i len hd
    simp only [Bool.and_eq_true, Bool.or_eq_true, decide_eq_true_eq] at h1
    obtain ⟨e, h1⟩ := h1
    dsimp only at e hd
    subst e
    refine ⟨len, hd, ?_⟩
    rcases h1 with h1 | ⟨h1, h3⟩
    · left
      revert h1
      generalize q.1 = i
      intro h1
      cases i <;> first | exact ⟨_, _, _, _, rfl⟩ | cases h1
    · exact Or.inr ⟨Nat.eq_of_beq_eq_true h1, Nat.eq_of_beq_eq_true h3⟩
  · cases h1
def am_ckN (M : Nat) : Bool := plainName (am_yN M).cls && am_lw (am_nth am_ML2 M (0, 0)).1 (.code (am_yN M) (am_cN M) (am_P M).2.1 (am_rty (am_P M).2.2.1)) && am_lw (am_nth am_ML2 M (0, 0)).2 (.initialized (am_yN M).cls) && decide ((am_yN M).cls = am_cn (am_P M).1) && decide ((am_yN M).cls ≠ "java/lang/invoke/MethodHandle") && decide ((am_yN M).cls ≠ "java/lang/invoke/VarHandle")
theorem am_gm_of {M : Nat} (h : (am_ckN M && am_ckM M) = true) : am_gm am_P am_yN am_cN am_NM am_Ts M := by
  rw [Bool.and_eq_true] at h
  obtain ⟨h, h2⟩ := h
  unfold am_ckN at h
  simp only [Bool.and_eq_true, decide_eq_true_eq] at h
  obtain ⟨⟨⟨⟨⟨h1, h3⟩, h4⟩, h5⟩, h6⟩, h7⟩ := h
  exact ⟨h1, am_lw_mem h3, am_lw_mem h4, h6, h7, h5, am_ckM_ok h2⟩
theorem am_up1 {p : Nat → Bool} {n : Nat} (h : ∀ M, M < n → p M = true) (hn : p n = true) : ∀ M, M < n + 1 → p M = true := by
  intro M hM
  rcases Nat.lt_or_ge M n with h1 | h1
  · exact h M h1
  · rw [show M = n by omega]
    exact hn
end
section
/-! ===== each method's table is right: 0 to 89 ===== -/
def am_ckA (M : Nat) : Bool := am_ckN M && am_ckM M
def am_ckL (M : Nat) (l : List (Nat × am_I)) : Bool := l.all (fun e => am_ckD (am_cN M) e.1 e.2 && am_ckE (am_P M).1 (decide ((am_yN M).name = "<init>")) (am_P M).2.1 e.2.1 e.1 e.2.2.2.1 e.2.2.2.2)
theorem am_k0 : am_ckA 0 = true := by decide +kernel
theorem am_k1 : am_ckA 1 = true := by decide +kernel
theorem am_k2 : am_ckA 2 = true := by decide +kernel
theorem am_k3 : am_ckA 3 = true := by decide +kernel
theorem am_k4 : am_ckA 4 = true := by decide +kernel
theorem am_k5 : am_ckA 5 = true := by decide +kernel
theorem am_k6 : am_ckA 6 = true := by decide +kernel
theorem am_k7 : am_ckA 7 = true := by decide +kernel
theorem am_k8 : am_ckA 8 = true := by decide +kernel
theorem am_k9 : am_ckA 9 = true := by decide +kernel
theorem am_k10 : am_ckA 10 = true := by decide +kernel
theorem am_k11 : am_ckA 11 = true := by decide +kernel
theorem am_k12 : am_ckA 12 = true := by decide +kernel
theorem am_k13 : am_ckA 13 = true := by decide +kernel
theorem am_k14 : am_ckA 14 = true := by decide +kernel
theorem am_k15 : am_ckA 15 = true := by decide +kernel
theorem am_k16 : am_ckA 16 = true := by decide +kernel
theorem am_k17 : am_ckA 17 = true := by decide +kernel
theorem am_k18 : am_ckA 18 = true := by decide +kernel
theorem am_k19 : am_ckA 19 = true := by decide +kernel
theorem am_k20 : am_ckA 20 = true := by decide +kernel
theorem am_k21 : am_ckA 21 = true := by decide +kernel
theorem am_k22 : am_ckA 22 = true := by decide +kernel
theorem am_k23 : am_ckA 23 = true := by decide +kernel
theorem am_k24 : am_ckA 24 = true := by decide +kernel
theorem am_k25 : am_ckA 25 = true := by decide +kernel
theorem am_k26 : am_ckA 26 = true := by decide +kernel
theorem am_k27 : am_ckA 27 = true := by decide +kernel
theorem am_k28 : am_ckA 28 = true := by decide +kernel
theorem am_k29 : am_ckA 29 = true := by decide +kernel
theorem am_k30 : am_ckA 30 = true := by decide +kernel
theorem am_k31 : am_ckA 31 = true := by decide +kernel
theorem am_k32 : am_ckA 32 = true := by decide +kernel
theorem am_k33 : am_ckA 33 = true := by decide +kernel
theorem am_k34 : am_ckA 34 = true := by decide +kernel
theorem am_k35 : am_ckA 35 = true := by decide +kernel
theorem am_k36 : am_ckA 36 = true := by decide +kernel
theorem am_k37 : am_ckA 37 = true := by decide +kernel
theorem am_k38 : am_ckA 38 = true := by decide +kernel
theorem am_k39 : am_ckA 39 = true := by decide +kernel
theorem am_k40 : am_ckA 40 = true := by decide +kernel
theorem am_k41 : am_ckA 41 = true := by decide +kernel
theorem am_k42 : am_ckA 42 = true := by decide +kernel
theorem am_k43 : am_ckA 43 = true := by decide +kernel
theorem am_k44 : am_ckA 44 = true := by decide +kernel
theorem am_k45 : am_ckA 45 = true := by decide +kernel
theorem am_k46 : am_ckA 46 = true := by decide +kernel
theorem am_k47 : am_ckA 47 = true := by decide +kernel
theorem am_k48 : am_ckA 48 = true := by decide +kernel
theorem am_k49 : am_ckA 49 = true := by decide +kernel
theorem am_k50 : am_ckA 50 = true := by decide +kernel
theorem am_k51 : am_ckA 51 = true := by decide +kernel
theorem am_k52 : am_ckA 52 = true := by decide +kernel
theorem am_k53 : am_ckA 53 = true := by decide +kernel
theorem am_k54 : am_ckA 54 = true := by decide +kernel
theorem am_k55 : am_ckA 55 = true := by decide +kernel
theorem am_k56 : am_ckA 56 = true := by decide +kernel
theorem am_k57 : am_ckA 57 = true := by decide +kernel
theorem am_k58 : am_ckA 58 = true := by decide +kernel
theorem am_k59 : am_ckA 59 = true := by decide +kernel
theorem am_k60 : am_ckA 60 = true := by decide +kernel
theorem am_k61 : am_ckA 61 = true := by decide +kernel
theorem am_k62 : am_ckA 62 = true := by decide +kernel
theorem am_k63 : am_ckA 63 = true := by decide +kernel
theorem am_k64 : am_ckA 64 = true := by decide +kernel
theorem am_k65 : am_ckA 65 = true := by decide +kernel
theorem am_k66 : am_ckA 66 = true := by decide +kernel
theorem am_k67 : am_ckA 67 = true := by decide +kernel
theorem am_k68 : am_ckA 68 = true := by decide +kernel
theorem am_k69 : am_ckA 69 = true := by decide +kernel
theorem am_k70 : am_ckA 70 = true := by decide +kernel
theorem am_k71 : am_ckA 71 = true := by decide +kernel
theorem am_k72 : am_ckA 72 = true := by decide +kernel
theorem am_k73 : am_ckA 73 = true := by decide +kernel
theorem am_k74 : am_ckA 74 = true := by decide +kernel
theorem am_k75 : am_ckA 75 = true := by decide +kernel
theorem am_k76 : am_ckA 76 = true := by decide +kernel
theorem am_k77 : am_ckA 77 = true := by decide +kernel
theorem am_k78 : am_ckA 78 = true := by decide +kernel
theorem am_k79 : am_ckA 79 = true := by decide +kernel
theorem am_k80 : am_ckA 80 = true := by decide +kernel
theorem am_k81 : am_ckA 81 = true := by decide +kernel
theorem am_k82 : am_ckA 82 = true := by decide +kernel
theorem am_k83 : am_ckA 83 = true := by decide +kernel
theorem am_k84 : am_ckA 84 = true := by decide +kernel
theorem am_k85 : am_ckA 85 = true := by decide +kernel
theorem am_k86 : am_ckA 86 = true := by decide +kernel
theorem am_k87 : am_ckA 87 = true := by decide +kernel
theorem am_k88 : am_ckA 88 = true := by decide +kernel
theorem am_k89 : am_ckA 89 = true := by decide +kernel
end
section
/-! ===== each method's table is right: 90 to 184 ===== -/
theorem am_k90 : am_ckA 90 = true := by decide +kernel
theorem am_k91 : am_ckA 91 = true := by decide +kernel
theorem am_k92 : am_ckA 92 = true := by decide +kernel
theorem am_k93 : am_ckA 93 = true := by decide +kernel
theorem am_k94 : am_ckA 94 = true := by decide +kernel
theorem am_k95 : am_ckA 95 = true := by decide +kernel
theorem am_k96 : am_ckA 96 = true := by decide +kernel
theorem am_k97 : am_ckA 97 = true := by decide +kernel
theorem am_k98 : am_ckA 98 = true := by decide +kernel
theorem am_k99 : am_ckA 99 = true := by decide +kernel
theorem am_k100 : am_ckA 100 = true := by decide +kernel
theorem am_k101 : am_ckA 101 = true := by decide +kernel
theorem am_k102 : am_ckA 102 = true := by decide +kernel
theorem am_k103 : am_ckA 103 = true := by decide +kernel
theorem am_k104 : am_ckA 104 = true := by decide +kernel
theorem am_k105 : am_ckA 105 = true := by decide +kernel
theorem am_k106 : am_ckA 106 = true := by decide +kernel
theorem am_k107 : am_ckA 107 = true := by decide +kernel
theorem am_k108 : am_ckA 108 = true := by decide +kernel
theorem am_k109 : am_ckA 109 = true := by decide +kernel
theorem am_k110 : am_ckA 110 = true := by decide +kernel
theorem am_k111 : am_ckA 111 = true := by decide +kernel
theorem am_k112 : am_ckA 112 = true := by decide +kernel
theorem am_k113 : am_ckA 113 = true := by decide +kernel
theorem am_k114 : am_ckA 114 = true := by decide +kernel
theorem am_k115 : am_ckA 115 = true := by decide +kernel
theorem am_k116 : am_ckA 116 = true := by decide +kernel
theorem am_k117 : am_ckA 117 = true := by decide +kernel
theorem am_k118 : am_ckA 118 = true := by decide +kernel
theorem am_k119 : am_ckA 119 = true := by decide +kernel
theorem am_k120 : am_ckA 120 = true := by decide +kernel
theorem am_k121 : am_ckA 121 = true := by decide +kernel
theorem am_k122 : am_ckA 122 = true := by decide +kernel
theorem am_k123 : am_ckA 123 = true := by decide +kernel
theorem am_k124 : am_ckA 124 = true := by decide +kernel
theorem am_k125 : am_ckA 125 = true := by decide +kernel
theorem am_k126 : am_ckA 126 = true := by decide +kernel
theorem am_k127 : am_ckA 127 = true := by decide +kernel
theorem am_k128 : am_ckA 128 = true := by decide +kernel
theorem am_k129 : am_ckA 129 = true := by decide +kernel
theorem am_k130 : am_ckA 130 = true := by decide +kernel
theorem am_k131 : am_ckA 131 = true := by decide +kernel
theorem am_k132 : am_ckA 132 = true := by decide +kernel
theorem am_k133 : am_ckA 133 = true := by decide +kernel
theorem am_k134 : am_ckA 134 = true := by decide +kernel
theorem am_k135 : am_ckA 135 = true := by decide +kernel
theorem am_k136 : am_ckA 136 = true := by decide +kernel
theorem am_k137 : am_ckA 137 = true := by decide +kernel
theorem am_k138 : am_ckA 138 = true := by decide +kernel
theorem am_k139 : am_ckA 139 = true := by decide +kernel
theorem am_k140 : am_ckA 140 = true := by decide +kernel
theorem am_k141 : am_ckA 141 = true := by decide +kernel
theorem am_k142 : am_ckA 142 = true := by decide +kernel
theorem am_k143 : am_ckA 143 = true := by decide +kernel
theorem am_k144 : am_ckA 144 = true := by decide +kernel
theorem am_k145 : am_ckA 145 = true := by decide +kernel
theorem am_k146 : am_ckA 146 = true := by decide +kernel
theorem am_k147 : am_ckA 147 = true := by decide +kernel
theorem am_k148 : am_ckA 148 = true := by decide +kernel
theorem am_k149 : am_ckA 149 = true := by decide +kernel
theorem am_k150 : am_ckA 150 = true := by decide +kernel
theorem am_k151 : am_ckA 151 = true := by decide +kernel
theorem am_k152 : am_ckA 152 = true := by decide +kernel
theorem am_k153 : am_ckA 153 = true := by decide +kernel
theorem am_k154 : am_ckA 154 = true := by decide +kernel
theorem am_k155 : am_ckA 155 = true := by decide +kernel
theorem am_k156 : am_ckA 156 = true := by decide +kernel
theorem am_k157 : am_ckA 157 = true := by decide +kernel
theorem am_k158 : am_ckA 158 = true := by decide +kernel
theorem am_k159 : am_ckA 159 = true := by decide +kernel
theorem am_k160 : am_ckA 160 = true := by decide +kernel
theorem am_k161 : am_ckA 161 = true := by decide +kernel
theorem am_k162 : am_ckA 162 = true := by decide +kernel
theorem am_k163 : am_ckA 163 = true := by decide +kernel
theorem am_k164 : am_ckA 164 = true := by decide +kernel
theorem am_k165 : am_ckA 165 = true := by decide +kernel
theorem am_k166 : am_ckA 166 = true := by decide +kernel
theorem am_k167 : am_ckA 167 = true := by decide +kernel
theorem am_k168 : am_ckA 168 = true := by decide +kernel
theorem am_k169 : am_ckA 169 = true := by decide +kernel
theorem am_k170 : am_ckA 170 = true := by decide +kernel
theorem am_k171 : am_ckA 171 = true := by decide +kernel
theorem am_k172 : am_ckA 172 = true := by decide +kernel
theorem am_k173 : am_ckA 173 = true := by decide +kernel
theorem am_k174 : am_ckA 174 = true := by decide +kernel
theorem am_k175 : am_ckA 175 = true := by decide +kernel
theorem am_k176 : am_ckA 176 = true := by decide +kernel
theorem am_k177 : am_ckA 177 = true := by decide +kernel
theorem am_k178 : am_ckA 178 = true := by decide +kernel
theorem am_k179 : am_ckA 179 = true := by decide +kernel
theorem am_k180 : am_ckA 180 = true := by decide +kernel
theorem am_k181 : am_ckA 181 = true := by decide +kernel
theorem am_k182 : am_ckA 182 = true := by decide +kernel
theorem am_k183 : am_ckA 183 = true := by decide +kernel
theorem am_k184 : am_ckA 184 = true := by decide +kernel
end
section
/-! ===== each method's table is right: 185 to 244 ===== -/
theorem am_k186 : am_ckA 186 = true := by decide +kernel
theorem am_k187 : am_ckA 187 = true := by decide +kernel
theorem am_k188 : am_ckA 188 = true := by decide +kernel
theorem am_k189 : am_ckA 189 = true := by decide +kernel
theorem am_k190 : am_ckA 190 = true := by decide +kernel
theorem am_k191 : am_ckA 191 = true := by decide +kernel
theorem am_k192 : am_ckA 192 = true := by decide +kernel
theorem am_k193 : am_ckA 193 = true := by decide +kernel
theorem am_k194 : am_ckA 194 = true := by decide +kernel
theorem am_k195 : am_ckA 195 = true := by decide +kernel
theorem am_k196 : am_ckA 196 = true := by decide +kernel
theorem am_k197 : am_ckA 197 = true := by decide +kernel
theorem am_k198 : am_ckA 198 = true := by decide +kernel
theorem am_k199 : am_ckA 199 = true := by decide +kernel
theorem am_k200 : am_ckA 200 = true := by decide +kernel
theorem am_k201 : am_ckA 201 = true := by decide +kernel
theorem am_k202 : am_ckA 202 = true := by decide +kernel
theorem am_k203 : am_ckA 203 = true := by decide +kernel
theorem am_k204 : am_ckA 204 = true := by decide +kernel
theorem am_k205 : am_ckA 205 = true := by decide +kernel
theorem am_k206 : am_ckA 206 = true := by decide +kernel
theorem am_k207 : am_ckA 207 = true := by decide +kernel
theorem am_k208 : am_ckA 208 = true := by decide +kernel
theorem am_k209 : am_ckA 209 = true := by decide +kernel
theorem am_k210 : am_ckA 210 = true := by decide +kernel
theorem am_k211 : am_ckA 211 = true := by decide +kernel
theorem am_k212 : am_ckA 212 = true := by decide +kernel
theorem am_k213 : am_ckA 213 = true := by decide +kernel
theorem am_k214 : am_ckA 214 = true := by decide +kernel
theorem am_k215 : am_ckA 215 = true := by decide +kernel
theorem am_k216 : am_ckA 216 = true := by decide +kernel
theorem am_k217 : am_ckA 217 = true := by decide +kernel
theorem am_k218 : am_ckA 218 = true := by decide +kernel
theorem am_k219 : am_ckA 219 = true := by decide +kernel
theorem am_k220 : am_ckA 220 = true := by decide +kernel
theorem am_k221 : am_ckA 221 = true := by decide +kernel
theorem am_k222 : am_ckA 222 = true := by decide +kernel
theorem am_k223 : am_ckA 223 = true := by decide +kernel
theorem am_k224 : am_ckA 224 = true := by decide +kernel
theorem am_k225 : am_ckA 225 = true := by decide +kernel
theorem am_k226 : am_ckA 226 = true := by decide +kernel
theorem am_k227 : am_ckA 227 = true := by decide +kernel
theorem am_k228 : am_ckA 228 = true := by decide +kernel
theorem am_k229 : am_ckA 229 = true := by decide +kernel
theorem am_k230 : am_ckA 230 = true := by decide +kernel
theorem am_k231 : am_ckA 231 = true := by decide +kernel
theorem am_k232 : am_ckA 232 = true := by decide +kernel
theorem am_k233 : am_ckA 233 = true := by decide +kernel
theorem am_k234 : am_ckA 234 = true := by decide +kernel
theorem am_k235 : am_ckA 235 = true := by decide +kernel
theorem am_k236 : am_ckA 236 = true := by decide +kernel
theorem am_k237 : am_ckA 237 = true := by decide +kernel
theorem am_k238 : am_ckA 238 = true := by decide +kernel
theorem am_k239 : am_ckA 239 = true := by decide +kernel
theorem am_k240 : am_ckA 240 = true := by decide +kernel
theorem am_k241 : am_ckA 241 = true := by decide +kernel
theorem am_k242 : am_ckA 242 = true := by decide +kernel
theorem am_k243 : am_ckA 243 = true := by decide +kernel
theorem am_k244 : am_ckA 244 = true := by decide +kernel
end
section
/-! ===== each method's table is right: 245 to 303 ===== -/
theorem am_k245 : am_ckA 245 = true := by decide +kernel
theorem am_k246 : am_ckA 246 = true := by decide +kernel
theorem am_k247 : am_ckA 247 = true := by decide +kernel
theorem am_k248 : am_ckA 248 = true := by decide +kernel
theorem am_k249 : am_ckA 249 = true := by decide +kernel
theorem am_k250 : am_ckA 250 = true := by decide +kernel
theorem am_k251 : am_ckA 251 = true := by decide +kernel
theorem am_k252 : am_ckA 252 = true := by decide +kernel
theorem am_k253 : am_ckA 253 = true := by decide +kernel
theorem am_k254 : am_ckA 254 = true := by decide +kernel
theorem am_k255 : am_ckA 255 = true := by decide +kernel
theorem am_k256 : am_ckA 256 = true := by decide +kernel
theorem am_k257 : am_ckA 257 = true := by decide +kernel
theorem am_k258 : am_ckA 258 = true := by decide +kernel
theorem am_k259 : am_ckA 259 = true := by decide +kernel
theorem am_k260 : am_ckA 260 = true := by decide +kernel
theorem am_k261 : am_ckA 261 = true := by decide +kernel
theorem am_k262 : am_ckA 262 = true := by decide +kernel
theorem am_k263 : am_ckA 263 = true := by decide +kernel
theorem am_k264 : am_ckA 264 = true := by decide +kernel
theorem am_k265 : am_ckA 265 = true := by decide +kernel
theorem am_k266 : am_ckA 266 = true := by decide +kernel
theorem am_k267 : am_ckA 267 = true := by decide +kernel
theorem am_k268 : am_ckA 268 = true := by decide +kernel
theorem am_k269 : am_ckA 269 = true := by decide +kernel
theorem am_k270 : am_ckA 270 = true := by decide +kernel
theorem am_k271 : am_ckA 271 = true := by decide +kernel
theorem am_k272 : am_ckA 272 = true := by decide +kernel
theorem am_k273 : am_ckA 273 = true := by decide +kernel
theorem am_k274 : am_ckA 274 = true := by decide +kernel
theorem am_k275 : am_ckA 275 = true := by decide +kernel
theorem am_k276 : am_ckA 276 = true := by decide +kernel
theorem am_k277 : am_ckA 277 = true := by decide +kernel
theorem am_k278 : am_ckA 278 = true := by decide +kernel
theorem am_k279 : am_ckA 279 = true := by decide +kernel
theorem am_k280 : am_ckA 280 = true := by decide +kernel
theorem am_k281 : am_ckA 281 = true := by decide +kernel
theorem am_k282 : am_ckA 282 = true := by decide +kernel
theorem am_k283 : am_ckA 283 = true := by decide +kernel
theorem am_k284 : am_ckA 284 = true := by decide +kernel
theorem am_k285 : am_ckA 285 = true := by decide +kernel
theorem am_k286 : am_ckA 286 = true := by decide +kernel
theorem am_k287 : am_ckA 287 = true := by decide +kernel
theorem am_k288 : am_ckA 288 = true := by decide +kernel
theorem am_k289 : am_ckA 289 = true := by decide +kernel
theorem am_k290 : am_ckA 290 = true := by decide +kernel
theorem am_k291 : am_ckA 291 = true := by decide +kernel
theorem am_k292 : am_ckA 292 = true := by decide +kernel
theorem am_k293 : am_ckA 293 = true := by decide +kernel
theorem am_k294 : am_ckA 294 = true := by decide +kernel
theorem am_k295 : am_ckA 295 = true := by decide +kernel
theorem am_k296 : am_ckA 296 = true := by decide +kernel
theorem am_k297 : am_ckA 297 = true := by decide +kernel
theorem am_k298 : am_ckA 298 = true := by decide +kernel
theorem am_k299 : am_ckA 299 = true := by decide +kernel
theorem am_k300 : am_ckA 300 = true := by decide +kernel
theorem am_k301 : am_ckA 301 = true := by decide +kernel
theorem am_k302 : am_ckA 302 = true := by decide +kernel
theorem am_k303 : am_ckA 303 = true := by decide +kernel
end
section
def ac_185_0 : List (Nat × am_I) := [(0, .aload_n 0, 1, 0, 0), (1, .invokespecial 7, 4, 999, 0), (4, .aload_n 0, 5, 0, 0), (5, .sipush 2000, 8, 0, 0), (8, .newarray .byte, 10, 0, 0), (10, .putfield 13, 13, 11, 14), (13, .aload_n 0, 14, 0, 0), (14, .sipush 2000, 17, 0, 0), (17, .newarray .byte, 19, 0, 0), (19, .putfield 17, 22, 11, 30), (22, .aload_n 0, 23, 0, 0), (23, .sipush 403, 26, 0, 0), (26, .newarray .int, 28, 0, 0), (28, .putfield 20, 31, 11, 46), (31, .aload_n 0, 32, 0, 0), (32, .sipush 403, 35, 0, 0), (35, .newarray .int, 37, 0, 0), (37, .putfield 24, 40, 11, 54), (40, .aload_n 0, 41, 0, 0), (41, .sipush 403, 44, 0, 0), (44, .newarray .int, 46, 0, 0), (46, .putfield 27, 49, 11, 62), (49, .aload_n 0, 50, 0, 0), (50, .sipush 403, 53, 0, 0), (53, .newarray .long, 55, 0, 0), (55, .putfield 30, 58, 11, 70), (58, .aload_n 0, 59, 0, 0), (59, .bipush 23, 61, 0, 0), (61, .newarray .long, 63, 0, 0), (63, .putfield 34, 66, 11, 78), (66, .aload_n 0, 67, 0, 0), (67, .iconst (-1), 68, 0, 0), (68, .putfield 37, 71, 11, 136), (71, .aload_n 0, 72, 0, 0), (72, .iconst 4, 73, 0, 0), (73, .newarray .long, 75, 0, 0), (75, .putfield 40, 78, 11, 174), (78, .aload_n 0, 79, 0, 0), (79, .iconst 2, 80, 0, 0), (80, .newarray .int, 82, 0, 0)]
theorem ac_185_0_ok : am_ckL 185 ac_185_0 = true := by decide +kernel
def ac_185_1 : List (Nat × am_I) := [(82, .putfield 43, 85, 11, 182), (85, .aload_n 0, 86, 0, 0), (86, .iconst 2, 87, 0, 0), (87, .newarray .int, 89, 0, 0), (89, .putfield 46, 92, 11, 190), (92, .aload_n 0, 93, 0, 0), (93, .bipush 64, 95, 0, 0), (95, .newarray .int, 97, 0, 0), (97, .putfield 49, 100, 11, 198), (100, .aload_n 0, 101, 0, 0), (101, .iconst 2, 102, 0, 0), (102, .newarray .int, 104, 0, 0), (104, .putfield 52, 107, 11, 206), (107, .aload_n 0, 108, 0, 0), (108, .iconst 2, 109, 0, 0), (109, .newarray .int, 111, 0, 0), (111, .putfield 55, 114, 11, 214), (114, .aload_n 0, 115, 0, 0), (115, .bipush 8, 117, 0, 0), (117, .newarray .int, 119, 0, 0), (119, .putfield 58, 122, 11, 222), (122, .aload_n 0, 123, 0, 0), (123, .bipush 48, 125, 0, 0), (125, .newarray .int, 127, 0, 0), (127, .putfield 61, 130, 11, 230), (130, .aload_n 0, 131, 0, 0), (131, .bipush 48, 133, 0, 0), (133, .newarray .int, 135, 0, 0), (135, .putfield 64, 138, 11, 238), (138, .aload_n 0, 139, 0, 0), (139, .bipush 48, 141, 0, 0), (141, .newarray .int, 143, 0, 0), (143, .putfield 67, 146, 11, 246), (146, .aload_n 0, 147, 0, 0), (147, .bipush 48, 149, 0, 0), (149, .newarray .int, 151, 0, 0), (151, .putfield 70, 154, 11, 254), (154, .aload_n 0, 155, 0, 0), (155, .bipush 6, 157, 0, 0), (157, .newarray .int, 159, 0, 0)]
theorem ac_185_1_ok : am_ckL 185 ac_185_1 = true := by decide +kernel
def ac_185_2 : List (Nat × am_I) := [(159, .putfield 73, 162, 11, 262), (162, .aload_n 0, 163, 0, 0), (163, .bipush 6, 165, 0, 0), (165, .newarray .int, 167, 0, 0), (167, .putfield 76, 170, 11, 270), (170, .aload_n 0, 171, 0, 0), (171, .iconst 2, 172, 0, 0), (172, .newarray .int, 174, 0, 0), (174, .putfield 79, 177, 11, 278), (177, .aload_n 0, 178, 0, 0), (178, .iconst 2, 179, 0, 0), (179, .newarray .int, 181, 0, 0), (181, .putfield 82, 184, 11, 286), (184, .aload_n 0, 185, 0, 0), (185, .iconst 2, 186, 0, 0), (186, .newarray .int, 188, 0, 0), (188, .putfield 85, 191, 11, 294), (191, .aload_n 0, 192, 0, 0), (192, .bipush 6, 194, 0, 0), (194, .newarray .int, 196, 0, 0), (196, .putfield 88, 199, 11, 302), (199, .aload_n 0, 200, 0, 0), (200, .bipush 6, 202, 0, 0), (202, .newarray .int, 204, 0, 0), (204, .putfield 91, 207, 11, 310), (207, .aload_n 0, 208, 0, 0), (208, .sipush 260, 211, 0, 0), (211, .newarray .boolean, 213, 0, 0), (213, .putfield 94, 216, 11, 326), (216, .aload_n 0, 217, 0, 0), (217, .sipush 260, 220, 0, 0), (220, .newarray .int, 222, 0, 0), (222, .putfield 98, 225, 11, 334), (225, .aload_n 0, 226, 0, 0), (226, .sipush 260, 229, 0, 0), (229, .newarray .int, 231, 0, 0), (231, .putfield 101, 234, 11, 342), (234, .aload_n 0, 235, 0, 0), (235, .sipush 260, 238, 0, 0), (238, .newarray .int, 240, 0, 0)]
theorem ac_185_2_ok : am_ckL 185 ac_185_2 = true := by decide +kernel
def ac_185_3 : List (Nat × am_I) := [(240, .putfield 104, 243, 11, 350), (243, .aload_n 0, 244, 0, 0), (244, .sipush 260, 247, 0, 0), (247, .newarray .int, 249, 0, 0), (249, .putfield 107, 252, 11, 358), (252, .aload_n 0, 253, 0, 0), (253, .sipush 840, 256, 0, 0), (256, .newarray .int, 258, 0, 0), (258, .putfield 110, 261, 11, 374), (261, .aload_n 0, 262, 0, 0), (262, .sipush 840, 265, 0, 0), (265, .newarray .int, 267, 0, 0), (267, .putfield 113, 270, 11, 382), (270, .aload_n 0, 271, 0, 0), (271, .bipush 64, 273, 0, 0), (273, .newarray .int, 275, 0, 0), (275, .putfield 116, 278, 11, 390), (278, .aload_n 0, 279, 0, 0), (279, .bipush 7, 281, 0, 0), (281, .newarray .int, 283, 0, 0), (283, .putfield 119, 286, 11, 406), (286, .aload_n 0, 287, 0, 0), (287, .sipush 400, 290, 0, 0), (290, .newarray .int, 292, 0, 0), (292, .putfield 122, 295, 11, 414), (295, .aload_n 0, 296, 0, 0), (296, .bipush 10, 298, 0, 0), (298, .newarray .int, 300, 0, 0), (300, .putfield 125, 303, 11, 430), (303, .aload_n 0, 304, 0, 0), (304, .bipush 10, 306, 0, 0), (306, .newarray .int, 308, 0, 0), (308, .putfield 128, 311, 11, 438), (311, .aload_n 0, 312, 0, 0), (312, .sipush 385, 315, 0, 0), (315, .newarray .int, 317, 0, 0), (317, .putfield 131, 320, 11, 454), (320, .aload_n 0, 321, 0, 0), (321, .sipush 385, 324, 0, 0), (324, .newarray .int, 326, 0, 0)]
theorem ac_185_3_ok : am_ckL 185 ac_185_3 = true := by decide +kernel
def ac_185_4 : List (Nat × am_I) := [(326, .putfield 134, 329, 11, 462), (329, .aload_n 0, 330, 0, 0), (330, .sipush 500, 333, 0, 0), (333, .newarray .int, 335, 0, 0), (335, .putfield 137, 338, 11, 478), (338, .aload_n 0, 339, 0, 0), (339, .sipush 9409, 342, 0, 0), (342, .newarray .int, 344, 0, 0), (344, .putfield 140, 347, 11, 486), (347, .aload_n 0, 348, 0, 0), (348, .sipush 9409, 351, 0, 0), (351, .newarray .int, 353, 0, 0), (353, .putfield 143, 356, 11, 494), (356, .aload_n 0, 357, 0, 0), (357, .sipush 2880, 360, 0, 0), (360, .newarray .int, 362, 0, 0), (362, .putfield 146, 365, 11, 502), (365, .aload_n 0, 366, 0, 0), (366, .iconst 5, 367, 0, 0), (367, .newarray .int, 369, 0, 0), (369, .putfield 149, 372, 11, 518), (372, .aload_n 0, 373, 0, 0), (373, .iconst 5, 374, 0, 0), (374, .newarray .int, 376, 0, 0), (376, .putfield 152, 379, 11, 526), (379, .aload_n 0, 380, 0, 0), (380, .iconst 3, 381, 0, 0), (381, .newarray .int, 383, 0, 0), (383, .putfield 155, 386, 11, 534), (386, .aload_n 0, 387, 0, 0), (387, .iconst 3, 388, 0, 0), (388, .newarray .int, 390, 0, 0), (390, .putfield 158, 393, 11, 542), (393, .aload_n 0, 394, 0, 0), (394, .iconst 3, 395, 0, 0), (395, .newarray .boolean, 397, 0, 0), (397, .putfield 161, 400, 11, 550), (400, .aload_n 0, 401, 0, 0), (401, .bipush 30, 403, 0, 0), (403, .newarray .int, 405, 0, 0)]
theorem ac_185_4_ok : am_ckL 185 ac_185_4 = true := by decide +kernel
def ac_185_5 : List (Nat × am_I) := [(405, .putfield 164, 408, 11, 558), (408, .aload_n 0, 409, 0, 0), (409, .iconst 0, 410, 0, 0), (410, .invokevirtual 167, 413, 186, 1), (413, .aload_n 0, 414, 0, 0), (414, .getfield 34, 417, 11, 9), (417, .iconst 0, 418, 0, 0), (418, .bipush 114, 420, 0, 0), (420, .bipush 111, 422, 0, 0), (422, .bipush 119, 424, 0, 0), (424, .iconst 0, 425, 0, 0), (425, .iconst 0, 426, 0, 0), (426, .iconst 0, 427, 0, 0), (427, .iconst 0, 428, 0, 0), (428, .invokestatic 171, 431, 187, 7), (431, .lastore, 432, 0, 0), (432, .aload_n 0, 433, 0, 0), (433, .getfield 34, 436, 11, 9), (436, .iconst 1, 437, 0, 0), (437, .bipush 102, 439, 0, 0), (439, .bipush 97, 441, 0, 0), (441, .bipush 99, 443, 0, 0), (443, .bipush 101, 445, 0, 0), (445, .bipush 115, 447, 0, 0), (447, .iconst 0, 448, 0, 0), (448, .iconst 0, 449, 0, 0), (449, .invokestatic 171, 452, 187, 7), (452, .lastore, 453, 0, 0), (453, .aload_n 0, 454, 0, 0), (454, .getfield 34, 457, 11, 9), (457, .iconst 2, 458, 0, 0), (458, .bipush 107, 460, 0, 0), (460, .bipush 105, 462, 0, 0), (462, .bipush 99, 464, 0, 0), (464, .bipush 107, 466, 0, 0), (466, .iconst 0, 467, 0, 0), (467, .iconst 0, 468, 0, 0), (468, .iconst 0, 469, 0, 0), (469, .invokestatic 171, 472, 187, 7), (472, .lastore, 473, 0, 0)]
theorem ac_185_5_ok : am_ckL 185 ac_185_5 = true := by decide +kernel
def ac_185_6 : List (Nat × am_I) := [(473, .aload_n 0, 474, 0, 0), (474, .getfield 34, 477, 11, 9), (477, .iconst 3, 478, 0, 0), (478, .bipush 98, 480, 0, 0), (480, .bipush 121, 482, 0, 0), (482, .iconst 0, 483, 0, 0), (483, .iconst 0, 484, 0, 0), (484, .iconst 0, 485, 0, 0), (485, .iconst 0, 486, 0, 0), (486, .iconst 0, 487, 0, 0), (487, .invokestatic 171, 490, 187, 7), (490, .lastore, 491, 0, 0), (491, .aload_n 0, 492, 0, 0), (492, .getfield 34, 495, 11, 9), (495, .iconst 4, 496, 0, 0), (496, .bipush 116, 498, 0, 0), (498, .bipush 117, 500, 0, 0), (500, .bipush 114, 502, 0, 0), (502, .bipush 110, 504, 0, 0), (504, .iconst 0, 505, 0, 0), (505, .iconst 0, 506, 0, 0), (506, .iconst 0, 507, 0, 0), (507, .invokestatic 171, 510, 187, 7), (510, .lastore, 511, 0, 0), (511, .aload_n 0, 512, 0, 0), (512, .getfield 34, 515, 11, 9), (515, .iconst 5, 516, 0, 0), (516, .bipush 100, 518, 0, 0), (518, .bipush 114, 520, 0, 0), (520, .bipush 105, 522, 0, 0), (522, .bipush 102, 524, 0, 0), (524, .bipush 116, 526, 0, 0), (526, .iconst 0, 527, 0, 0), (527, .iconst 0, 528, 0, 0), (528, .invokestatic 171, 531, 187, 7), (531, .lastore, 532, 0, 0), (532, .aload_n 0, 533, 0, 0), (533, .getfield 34, 536, 11, 9), (536, .bipush 6, 538, 0, 0), (538, .bipush 114, 540, 0, 0)]
theorem ac_185_6_ok : am_ckL 185 ac_185_6 = true := by decide +kernel
def ac_185_7 : List (Nat × am_I) := [(540, .bipush 117, 542, 0, 0), (542, .bipush 110, 544, 0, 0), (544, .bipush 115, 546, 0, 0), (546, .iconst 0, 547, 0, 0), (547, .iconst 0, 548, 0, 0), (548, .iconst 0, 549, 0, 0), (549, .invokestatic 171, 552, 187, 7), (552, .lastore, 553, 0, 0), (553, .aload_n 0, 554, 0, 0), (554, .getfield 34, 557, 11, 9), (557, .bipush 7, 559, 0, 0), (559, .bipush 99, 561, 0, 0), (561, .bipush 97, 563, 0, 0), (563, .bipush 114, 565, 0, 0), (565, .bipush 115, 567, 0, 0), (567, .iconst 0, 568, 0, 0), (568, .iconst 0, 569, 0, 0), (569, .iconst 0, 570, 0, 0), (570, .invokestatic 171, 573, 187, 7), (573, .lastore, 574, 0, 0), (574, .aload_n 0, 575, 0, 0), (575, .getfield 34, 578, 11, 9), (578, .bipush 8, 580, 0, 0), (580, .bipush 115, 582, 0, 0), (582, .bipush 116, 584, 0, 0), (584, .bipush 111, 586, 0, 0), (586, .bipush 110, 588, 0, 0), (588, .bipush 101, 590, 0, 0), (590, .iconst 0, 591, 0, 0), (591, .iconst 0, 592, 0, 0), (592, .invokestatic 171, 595, 187, 7), (595, .lastore, 596, 0, 0), (596, .aload_n 0, 597, 0, 0), (597, .getfield 34, 600, 11, 9), (600, .bipush 9, 602, 0, 0), (602, .bipush 102, 604, 0, 0), (604, .bipush 114, 606, 0, 0), (606, .bipush 105, 608, 0, 0), (608, .bipush 101, 610, 0, 0), (610, .bipush 110, 612, 0, 0)]
theorem ac_185_7_ok : am_ckL 185 ac_185_7 = true := by decide +kernel
def ac_185_8 : List (Nat × am_I) := [(612, .bipush 100, 614, 0, 0), (614, .iconst 0, 615, 0, 0), (615, .invokestatic 171, 618, 187, 7), (618, .lastore, 619, 0, 0), (619, .aload_n 0, 620, 0, 0), (620, .getfield 34, 623, 11, 9), (623, .bipush 10, 625, 0, 0), (625, .bipush 108, 627, 0, 0), (627, .bipush 105, 629, 0, 0), (629, .bipush 118, 631, 0, 0), (631, .bipush 101, 633, 0, 0), (633, .bipush 115, 635, 0, 0), (635, .iconst 0, 636, 0, 0), (636, .iconst 0, 637, 0, 0), (637, .invokestatic 171, 640, 187, 7), (640, .lastore, 641, 0, 0), (641, .aload_n 0, 642, 0, 0), (642, .getfield 34, 645, 11, 9), (645, .bipush 11, 647, 0, 0), (647, .bipush 116, 649, 0, 0), (649, .bipush 97, 651, 0, 0), (651, .bipush 107, 653, 0, 0), (653, .bipush 101, 655, 0, 0), (655, .bipush 115, 657, 0, 0), (657, .iconst 0, 658, 0, 0), (658, .iconst 0, 659, 0, 0), (659, .invokestatic 171, 662, 187, 7), (662, .lastore, 663, 0, 0), (663, .aload_n 0, 664, 0, 0), (664, .getfield 34, 667, 11, 9), (667, .bipush 12, 669, 0, 0), (669, .bipush 115, 671, 0, 0), (671, .bipush 101, 673, 0, 0), (673, .bipush 101, 675, 0, 0), (675, .bipush 100, 677, 0, 0), (677, .iconst 0, 678, 0, 0), (678, .iconst 0, 679, 0, 0), (679, .iconst 0, 680, 0, 0), (680, .invokestatic 171, 683, 187, 7), (683, .lastore, 684, 0, 0)]
theorem ac_185_8_ok : am_ckL 185 ac_185_8 = true := by decide +kernel
def ac_185_9 : List (Nat × am_I) := [(684, .aload_n 0, 685, 0, 0), (685, .getfield 34, 688, 11, 9), (688, .bipush 13, 690, 0, 0), (690, .bipush 105, 692, 0, 0), (692, .bipush 102, 694, 0, 0), (694, .iconst 0, 695, 0, 0), (695, .iconst 0, 696, 0, 0), (696, .iconst 0, 697, 0, 0), (697, .iconst 0, 698, 0, 0), (698, .iconst 0, 699, 0, 0), (699, .invokestatic 171, 702, 187, 7), (702, .lastore, 703, 0, 0), (703, .aload_n 0, 704, 0, 0), (704, .getfield 34, 707, 11, 9), (707, .bipush 14, 709, 0, 0), (709, .bipush 116, 711, 0, 0), (711, .bipush 104, 713, 0, 0), (713, .bipush 101, 715, 0, 0), (715, .bipush 110, 717, 0, 0), (717, .iconst 0, 718, 0, 0), (718, .iconst 0, 719, 0, 0), (719, .iconst 0, 720, 0, 0), (720, .invokestatic 171, 723, 187, 7), (723, .lastore, 724, 0, 0), (724, .aload_n 0, 725, 0, 0), (725, .getfield 34, 728, 11, 9), (728, .bipush 15, 730, 0, 0), (730, .bipush 101, 732, 0, 0), (732, .bipush 108, 734, 0, 0), (734, .bipush 115, 736, 0, 0), (736, .bipush 101, 738, 0, 0), (738, .iconst 0, 739, 0, 0), (739, .iconst 0, 740, 0, 0), (740, .iconst 0, 741, 0, 0), (741, .invokestatic 171, 744, 187, 7), (744, .lastore, 745, 0, 0), (745, .aload_n 0, 746, 0, 0), (746, .getfield 34, 749, 11, 9), (749, .bipush 16, 751, 0, 0), (751, .bipush 97, 753, 0, 0)]
theorem ac_185_9_ok : am_ckL 185 ac_185_9 = true := by decide +kernel
def ac_185_10 : List (Nat × am_I) := [(753, .bipush 108, 755, 0, 0), (755, .bipush 111, 757, 0, 0), (757, .bipush 110, 759, 0, 0), (759, .bipush 103, 761, 0, 0), (761, .iconst 0, 762, 0, 0), (762, .iconst 0, 763, 0, 0), (763, .invokestatic 171, 766, 187, 7), (766, .lastore, 767, 0, 0), (767, .aload_n 0, 768, 0, 0), (768, .getfield 34, 771, 11, 9), (771, .bipush 17, 773, 0, 0), (773, .bipush 97, 775, 0, 0), (775, .bipush 99, 777, 0, 0), (777, .bipush 114, 779, 0, 0), (779, .bipush 111, 781, 0, 0), (781, .bipush 115, 783, 0, 0), (783, .bipush 115, 785, 0, 0), (785, .iconst 0, 786, 0, 0), (786, .invokestatic 171, 789, 187, 7), (789, .lastore, 790, 0, 0), (790, .aload_n 0, 791, 0, 0), (791, .getfield 34, 794, 11, 9), (794, .bipush 18, 796, 0, 0), (796, .bipush 102, 798, 0, 0), (798, .bipush 97, 800, 0, 0), (800, .bipush 99, 802, 0, 0), (802, .bipush 101, 804, 0, 0), (804, .iconst 0, 805, 0, 0), (805, .iconst 0, 806, 0, 0), (806, .iconst 0, 807, 0, 0), (807, .invokestatic 171, 810, 187, 7), (810, .lastore, 811, 0, 0), (811, .aload_n 0, 812, 0, 0), (812, .getfield 34, 815, 11, 9), (815, .bipush 19, 817, 0, 0), (817, .bipush 115, 819, 0, 0), (819, .bipush 111, 821, 0, 0), (821, .bipush 114, 823, 0, 0), (823, .bipush 116, 825, 0, 0), (825, .iconst 0, 826, 0, 0)]
theorem ac_185_10_ok : am_ckL 185 ac_185_10 = true := by decide +kernel
def ac_185_11 : List (Nat × am_I) := [(826, .iconst 0, 827, 0, 0), (827, .iconst 0, 828, 0, 0), (828, .invokestatic 171, 831, 187, 7), (831, .lastore, 832, 0, 0), (832, .aload_n 0, 833, 0, 0), (833, .getfield 34, 836, 11, 9), (836, .bipush 20, 838, 0, 0), (838, .bipush 119, 840, 0, 0), (840, .bipush 104, 842, 0, 0), (842, .bipush 105, 844, 0, 0), (844, .bipush 99, 846, 0, 0), (846, .bipush 104, 848, 0, 0), (848, .iconst 0, 849, 0, 0), (849, .iconst 0, 850, 0, 0), (850, .invokestatic 171, 853, 187, 7), (853, .lastore, 854, 0, 0), (854, .aload_n 0, 855, 0, 0), (855, .getfield 34, 858, 11, 9), (858, .bipush 21, 860, 0, 0), (860, .bipush 104, 862, 0, 0), (862, .bipush 97, 864, 0, 0), (864, .bipush 114, 866, 0, 0), (866, .bipush 100, 868, 0, 0), (868, .iconst 0, 869, 0, 0), (869, .iconst 0, 870, 0, 0), (870, .iconst 0, 871, 0, 0), (871, .invokestatic 171, 874, 187, 7), (874, .lastore, 875, 0, 0), (875, .aload_n 0, 876, 0, 0), (876, .getfield 34, 879, 11, 9), (879, .bipush 22, 881, 0, 0), (881, .bipush 115, 883, 0, 0), (883, .bipush 101, 885, 0, 0), (885, .bipush 99, 887, 0, 0), (887, .bipush 111, 889, 0, 0), (889, .bipush 110, 891, 0, 0), (891, .bipush 100, 893, 0, 0), (893, .iconst 0, 894, 0, 0), (894, .invokestatic 171, 897, 187, 7), (897, .lastore, 898, 0, 0)]
theorem ac_185_11_ok : am_ckL 185 ac_185_11 = true := by decide +kernel
def ac_185_12 : List (Nat × am_I) := [(898, .aload_n 0, 899, 0, 0), (899, .getfield 43, 902, 11, 22), (902, .iconst 0, 903, 0, 0), (903, .iconst 1, 904, 0, 0), (904, .iastore, 905, 0, 0), (905, .aload_n 0, 906, 0, 0), (906, .getfield 46, 909, 11, 23), (909, .iconst 0, 910, 0, 0), (910, .iconst 2, 911, 0, 0), (911, .iastore, 912, 0, 0), (912, .aload_n 0, 913, 0, 0), (913, .getfield 49, 916, 11, 24), (916, .iconst 1, 917, 0, 0), (917, .bipush 6, 919, 0, 0), (919, .iastore, 920, 0, 0), (920, .aload_n 0, 921, 0, 0), (921, .getfield 55, 924, 11, 26), (924, .iconst 0, 925, 0, 0), (925, .iconst 1, 926, 0, 0), (926, .iastore, 927, 0, 0), (927, .aload_n 0, 928, 0, 0), (928, .getfield 58, 931, 11, 27), (931, .iconst 0, 932, 0, 0), (932, .iconst 1, 933, 0, 0), (933, .iastore, 934, 0, 0), (934, .aload_n 0, 935, 0, 0), (935, .getfield 61, 938, 11, 28), (938, .iconst 0, 939, 0, 0), (939, .bipush 6, 941, 0, 0), (941, .iastore, 942, 0, 0), (942, .aload_n 0, 943, 0, 0), (943, .getfield 64, 946, 11, 29), (946, .iconst 0, 947, 0, 0), (947, .iconst 1, 948, 0, 0), (948, .iastore, 949, 0, 0), (949, .aload_n 0, 950, 0, 0), (950, .invokevirtual 175, 953, 189, 0), (953, .aload_n 0, 954, 0, 0), (954, .invokevirtual 178, 957, 190, 0), (957, .return_, 958, 0, 0)]
theorem ac_185_12_ok : am_ckL 185 ac_185_12 = true := by decide +kernel
set_option maxRecDepth 100000 in
theorem ac_185_eq : (am_P 185).2.2.2 = ac_185_0 ++ (ac_185_1 ++ (ac_185_2 ++ (ac_185_3 ++ (ac_185_4 ++ (ac_185_5 ++ (ac_185_6 ++ (ac_185_7 ++ (ac_185_8 ++ (ac_185_9 ++ (ac_185_10 ++ (ac_185_11 ++ (ac_185_12)))))))))))) := rfl
theorem am_m185 : am_ckM 185 = true := by
  show am_ckL 185 (am_P 185).2.2.2 = true
  rw [ac_185_eq]
  simp only [am_ckL, List.all_append, Bool.and_eq_true]
  exact ⟨ac_185_0_ok, ⟨ac_185_1_ok, ⟨ac_185_2_ok, ⟨ac_185_3_ok, ⟨ac_185_4_ok, ⟨ac_185_5_ok, ⟨ac_185_6_ok, ⟨ac_185_7_ok, ⟨ac_185_8_ok, ⟨ac_185_9_ok, ⟨ac_185_10_ok, ⟨ac_185_11_ok, ac_185_12_ok⟩⟩⟩⟩⟩⟩⟩⟩⟩⟩⟩⟩
theorem am_n185 : am_ckN 185 = true := by decide +kernel
theorem am_k185 : am_ckA 185 = true := by
  unfold am_ckA
  rw [am_m185, am_n185]
  rfl
def ac_304_0 : List (Nat × am_I) := [(0, .new 7, 3, 10, 0), (3, .dup, 4, 0, 0), (4, .invokespecial 9, 7, 128, 0), (7, .astore_n 1, 8, 1, 0), (8, .new 10, 11, 11, 0), (11, .dup, 12, 0, 0), (12, .invokespecial 12, 15, 185, 0), (15, .astore_n 2, 16, 2, 0), (16, .iconst 0, 17, 0, 0), (17, .istore_n 3, 18, 3, 0), (18, .iload_n 3, 19, 3, 0), (19, .aload_n 0, 20, 0, 0), (20, .arraylength, 21, 0, 0), (21, .bipush 6, 23, 0, 0), (23, .isub, 24, 0, 0), (24, .if_icmp .gt 1197, 27, 1221, 0), (27, .aload_n 0, 28, 0, 0), (28, .iload_n 3, 29, 3, 0), (29, .iaload, 30, 0, 0), (30, .bipush 63, 32, 0, 0), (32, .iand, 33, 0, 0), (33, .tableswitch 1182 0 32 #[147, 210, 233, 246, 259, 282, 315, 358, 381, 394, 417, 430, 473, 522, 545, 568, 591, 650, 729, 804, 827, 850, 873, 916, 939, 988, 1001, 1034, 1047, 1080, 1113, 1136, 1159], 180, 1215, 0), (180, .aload_n 1, 181, 1, 0), (181, .aload_n 0, 182, 0, 0), (182, .iload_n 3, 183, 3, 0), (183, .iconst 1, 184, 0, 0), (184, .iadd, 185, 0, 0), (185, .iaload, 186, 0, 0), (186, .aload_n 0, 187, 0, 0), (187, .iload_n 3, 188, 3, 0), (188, .iconst 2, 189, 0, 0), (189, .iadd, 190, 0, 0), (190, .iaload, 191, 0, 0), (191, .aload_n 0, 192, 0, 0), (192, .iload_n 3, 193, 3, 0), (193, .iconst 3, 194, 0, 0), (194, .iadd, 195, 0, 0), (195, .iaload, 196, 0, 0), (196, .aload_n 0, 197, 0, 0), (197, .iload_n 3, 198, 3, 0)]
theorem ac_304_0_ok : am_ckL 304 ac_304_0 = true := by decide +kernel
def ac_304_1 : List (Nat × am_I) := [(198, .iconst 4, 199, 0, 0), (199, .iadd, 200, 0, 0), (200, .iaload, 201, 0, 0), (201, .aload_n 0, 202, 0, 0), (202, .iload_n 3, 203, 3, 0), (203, .iconst 5, 204, 0, 0), (204, .iadd, 205, 0, 0), (205, .iaload, 206, 0, 0), (206, .invokevirtual 13, 209, 132, 5), (209, .aload_n 2, 210, 2, 0), (210, .aload_n 0, 211, 0, 0), (211, .iload_n 3, 212, 3, 0), (212, .iconst 1, 213, 0, 0), (213, .iadd, 214, 0, 0), (214, .iaload, 215, 0, 0), (215, .aload_n 0, 216, 0, 0), (216, .iload_n 3, 217, 3, 0), (217, .iconst 2, 218, 0, 0), (218, .iadd, 219, 0, 0), (219, .iaload, 220, 0, 0), (220, .aload_n 0, 221, 0, 0), (221, .iload_n 3, 222, 3, 0), (222, .iconst 3, 223, 0, 0), (223, .iadd, 224, 0, 0), (224, .iaload, 225, 0, 0), (225, .aload_n 0, 226, 0, 0), (226, .iload_n 3, 227, 3, 0), (227, .iconst 4, 228, 0, 0), (228, .iadd, 229, 0, 0), (229, .iaload, 230, 0, 0), (230, .aload_n 0, 231, 0, 0), (231, .iload_n 3, 232, 3, 0), (232, .iconst 5, 233, 0, 0), (233, .iadd, 234, 0, 0), (234, .iaload, 235, 0, 0), (235, .invokevirtual 17, 238, 191, 5), (238, .if_icmp .eq 977, 241, 1215, 0), (241, .iconst 0, 242, 0, 0), (242, .ireturn, 243, 0, 0), (243, .aload_n 1, 244, 1, 0)]
theorem ac_304_1_ok : am_ckL 304 ac_304_1 = true := by decide +kernel
def ac_304_2 : List (Nat × am_I) := [(244, .aload_n 0, 245, 0, 0), (245, .iload_n 3, 246, 3, 0), (246, .iconst 1, 247, 0, 0), (247, .iadd, 248, 0, 0), (248, .iaload, 249, 0, 0), (249, .invokevirtual 18, 252, 134, 1), (252, .aload_n 2, 253, 2, 0), (253, .aload_n 0, 254, 0, 0), (254, .iload_n 3, 255, 3, 0), (255, .iconst 1, 256, 0, 0), (256, .iadd, 257, 0, 0), (257, .iaload, 258, 0, 0), (258, .invokevirtual 22, 261, 193, 1), (261, .if_icmp .eq 954, 264, 1215, 0), (264, .iconst 0, 265, 0, 0), (265, .ireturn, 266, 0, 0), (266, .aload_n 1, 267, 1, 0), (267, .invokevirtual 23, 270, 135, 0), (270, .aload_n 2, 271, 2, 0), (271, .invokevirtual 27, 274, 194, 0), (274, .if_icmp .eq 941, 277, 1215, 0), (277, .iconst 0, 278, 0, 0), (278, .ireturn, 279, 0, 0), (279, .aload_n 1, 280, 1, 0), (280, .invokevirtual 28, 283, 136, 0), (283, .aload_n 2, 284, 2, 0), (284, .invokevirtual 31, 287, 219, 0), (287, .if_icmp .eq 928, 290, 1215, 0), (290, .iconst 0, 291, 0, 0), (291, .ireturn, 292, 0, 0), (292, .aload_n 1, 293, 1, 0), (293, .aload_n 0, 294, 0, 0), (294, .iload_n 3, 295, 3, 0), (295, .iconst 1, 296, 0, 0), (296, .iadd, 297, 0, 0), (297, .iaload, 298, 0, 0), (298, .invokevirtual 32, 301, 137, 1), (301, .aload_n 2, 302, 2, 0), (302, .aload_n 0, 303, 0, 0), (303, .iload_n 3, 304, 3, 0)]
theorem ac_304_2_ok : am_ckL 304 ac_304_2 = true := by decide +kernel
def ac_304_3 : List (Nat × am_I) := [(304, .iconst 1, 305, 0, 0), (305, .iadd, 306, 0, 0), (306, .iaload, 307, 0, 0), (307, .invokevirtual 35, 310, 220, 1), (310, .if_icmp .eq 905, 313, 1215, 0), (313, .iconst 0, 314, 0, 0), (314, .ireturn, 315, 0, 0), (315, .aload_n 1, 316, 1, 0), (316, .aload_n 0, 317, 0, 0), (317, .iload_n 3, 318, 3, 0), (318, .iconst 1, 319, 0, 0), (319, .iadd, 320, 0, 0), (320, .iaload, 321, 0, 0), (321, .aload_n 0, 322, 0, 0), (322, .iload_n 3, 323, 3, 0), (323, .iconst 2, 324, 0, 0), (324, .iadd, 325, 0, 0), (325, .iaload, 326, 0, 0), (326, .invokevirtual 36, 329, 140, 2), (329, .aload_n 2, 330, 2, 0), (330, .aload_n 0, 331, 0, 0), (331, .iload_n 3, 332, 3, 0), (332, .iconst 1, 333, 0, 0), (333, .iadd, 334, 0, 0), (334, .iaload, 335, 0, 0), (335, .aload_n 0, 336, 0, 0), (336, .iload_n 3, 337, 3, 0), (337, .iconst 2, 338, 0, 0), (338, .iadd, 339, 0, 0), (339, .iaload, 340, 0, 0), (340, .invokevirtual 40, 343, 228, 2), (343, .if_icmp .eq 872, 346, 1215, 0), (346, .iconst 0, 347, 0, 0), (347, .ireturn, 348, 0, 0), (348, .aload_n 1, 349, 1, 0), (349, .aload_n 0, 350, 0, 0), (350, .iload_n 3, 351, 3, 0), (351, .iconst 1, 352, 0, 0), (352, .iadd, 353, 0, 0), (353, .iaload, 354, 0, 0)]
theorem ac_304_3_ok : am_ckL 304 ac_304_3 = true := by decide +kernel
def ac_304_4 : List (Nat × am_I) := [(354, .aload_n 0, 355, 0, 0), (355, .iload_n 3, 356, 3, 0), (356, .iconst 2, 357, 0, 0), (357, .iadd, 358, 0, 0), (358, .iaload, 359, 0, 0), (359, .aload_n 0, 360, 0, 0), (360, .iload_n 3, 361, 3, 0), (361, .iconst 3, 362, 0, 0), (362, .iadd, 363, 0, 0), (363, .iaload, 364, 0, 0), (364, .invokevirtual 41, 367, 141, 3), (367, .aload_n 2, 368, 2, 0), (368, .aload_n 0, 369, 0, 0), (369, .iload_n 3, 370, 3, 0), (370, .iconst 1, 371, 0, 0), (371, .iadd, 372, 0, 0), (372, .iaload, 373, 0, 0), (373, .aload_n 0, 374, 0, 0), (374, .iload_n 3, 375, 3, 0), (375, .iconst 2, 376, 0, 0), (376, .iadd, 377, 0, 0), (377, .iaload, 378, 0, 0), (378, .aload_n 0, 379, 0, 0), (379, .iload_n 3, 380, 3, 0), (380, .iconst 3, 381, 0, 0), (381, .iadd, 382, 0, 0), (382, .iaload, 383, 0, 0), (383, .invokevirtual 45, 386, 231, 3), (386, .if_icmp .eq 829, 389, 1215, 0), (389, .iconst 0, 390, 0, 0), (390, .ireturn, 391, 0, 0), (391, .aload_n 1, 392, 1, 0), (392, .aload_n 0, 393, 0, 0), (393, .iload_n 3, 394, 3, 0), (394, .iconst 1, 395, 0, 0), (395, .iadd, 396, 0, 0), (396, .iaload, 397, 0, 0), (397, .invokevirtual 46, 400, 142, 1), (400, .aload_n 2, 401, 2, 0), (401, .aload_n 0, 402, 0, 0)]
theorem ac_304_4_ok : am_ckL 304 ac_304_4 = true := by decide +kernel
def ac_304_5 : List (Nat × am_I) := [(402, .iload_n 3, 403, 3, 0), (403, .iconst 1, 404, 0, 0), (404, .iadd, 405, 0, 0), (405, .iaload, 406, 0, 0), (406, .invokevirtual 49, 409, 235, 1), (409, .if_icmp .eq 806, 412, 1215, 0), (412, .iconst 0, 413, 0, 0), (413, .ireturn, 414, 0, 0), (414, .aload_n 1, 415, 1, 0), (415, .invokevirtual 50, 418, 148, 0), (418, .aload_n 2, 419, 2, 0), (419, .invokevirtual 53, 422, 246, 0), (422, .if_icmp .eq 793, 425, 1215, 0), (425, .iconst 0, 426, 0, 0), (426, .ireturn, 427, 0, 0), (427, .aload_n 1, 428, 1, 0), (428, .aload_n 0, 429, 0, 0), (429, .iload_n 3, 430, 3, 0), (430, .iconst 1, 431, 0, 0), (431, .iadd, 432, 0, 0), (432, .iaload, 433, 0, 0), (433, .invokevirtual 54, 436, 149, 1), (436, .aload_n 2, 437, 2, 0), (437, .aload_n 0, 438, 0, 0), (438, .iload_n 3, 439, 3, 0), (439, .iconst 1, 440, 0, 0), (440, .iadd, 441, 0, 0), (441, .iaload, 442, 0, 0), (442, .invokevirtual 58, 445, 248, 1), (445, .if_icmp .eq 770, 448, 1215, 0), (448, .iconst 0, 449, 0, 0), (449, .ireturn, 450, 0, 0), (450, .aload_n 1, 451, 1, 0), (451, .invokevirtual 59, 454, 151, 0), (454, .aload_n 2, 455, 2, 0), (455, .invokevirtual 63, 458, 250, 0), (458, .if_icmp .eq 757, 461, 1215, 0), (461, .iconst 0, 462, 0, 0), (462, .ireturn, 463, 0, 0), (463, .aload_n 1, 464, 1, 0)]
theorem ac_304_5_ok : am_ckL 304 ac_304_5 = true := by decide +kernel
def ac_304_6 : List (Nat × am_I) := [(464, .aload_n 0, 465, 0, 0), (465, .iload_n 3, 466, 3, 0), (466, .iconst 1, 467, 0, 0), (467, .iadd, 468, 0, 0), (468, .iaload, 469, 0, 0), (469, .aload_n 0, 470, 0, 0), (470, .iload_n 3, 471, 3, 0), (471, .iconst 2, 472, 0, 0), (472, .iadd, 473, 0, 0), (473, .iaload, 474, 0, 0), (474, .aload_n 0, 475, 0, 0), (475, .iload_n 3, 476, 3, 0), (476, .iconst 3, 477, 0, 0), (477, .iadd, 478, 0, 0), (478, .iaload, 479, 0, 0), (479, .invokevirtual 64, 482, 152, 3), (482, .aload_n 2, 483, 2, 0), (483, .aload_n 0, 484, 0, 0), (484, .iload_n 3, 485, 3, 0), (485, .iconst 1, 486, 0, 0), (486, .iadd, 487, 0, 0), (487, .iaload, 488, 0, 0), (488, .aload_n 0, 489, 0, 0), (489, .iload_n 3, 490, 3, 0), (490, .iconst 2, 491, 0, 0), (491, .iadd, 492, 0, 0), (492, .iaload, 493, 0, 0), (493, .aload_n 0, 494, 0, 0), (494, .iload_n 3, 495, 3, 0), (495, .iconst 3, 496, 0, 0), (496, .iadd, 497, 0, 0), (497, .iaload, 498, 0, 0), (498, .invokevirtual 67, 501, 251, 3), (501, .if_icmp .eq 714, 504, 1215, 0), (504, .iconst 0, 505, 0, 0), (505, .ireturn, 506, 0, 0), (506, .aload_n 1, 507, 1, 0), (507, .aload_n 0, 508, 0, 0), (508, .iload_n 3, 509, 3, 0), (509, .iconst 1, 510, 0, 0)]
theorem ac_304_6_ok : am_ckL 304 ac_304_6 = true := by decide +kernel
def ac_304_7 : List (Nat × am_I) := [(510, .iadd, 511, 0, 0), (511, .iaload, 512, 0, 0), (512, .aload_n 0, 513, 0, 0), (513, .iload_n 3, 514, 3, 0), (514, .iconst 2, 515, 0, 0), (515, .iadd, 516, 0, 0), (516, .iaload, 517, 0, 0), (517, .ifCond .eq 7, 520, 524, 0), (520, .iconst 1, 521, 0, 0), (521, .goto 4, 524, 525, 0), (524, .iconst 0, 525, 0, 0), (525, .invokevirtual 68, 528, 153, 2), (528, .aload_n 2, 529, 2, 0), (529, .aload_n 0, 530, 0, 0), (530, .iload_n 3, 531, 3, 0), (531, .iconst 1, 532, 0, 0), (532, .iadd, 533, 0, 0), (533, .iaload, 534, 0, 0), (534, .aload_n 0, 535, 0, 0), (535, .iload_n 3, 536, 3, 0), (536, .iconst 2, 537, 0, 0), (537, .iadd, 538, 0, 0), (538, .iaload, 539, 0, 0), (539, .ifCond .eq 7, 542, 546, 0), (542, .iconst 1, 543, 0, 0), (543, .goto 4, 546, 547, 0), (546, .iconst 0, 547, 0, 0), (547, .invokevirtual 72, 550, 253, 2), (550, .if_icmp .eq 665, 553, 1215, 0), (553, .iconst 0, 554, 0, 0), (554, .ireturn, 555, 0, 0), (555, .aload_n 1, 556, 1, 0), (556, .aload_n 0, 557, 0, 0), (557, .iload_n 3, 558, 3, 0), (558, .iconst 1, 559, 0, 0), (559, .iadd, 560, 0, 0), (560, .iaload, 561, 0, 0), (561, .invokevirtual 73, 564, 159, 1), (564, .aload_n 2, 565, 2, 0), (565, .aload_n 0, 566, 0, 0)]
theorem ac_304_7_ok : am_ckL 304 ac_304_7 = true := by decide +kernel
def ac_304_8 : List (Nat × am_I) := [(566, .iload_n 3, 567, 3, 0), (567, .iconst 1, 568, 0, 0), (568, .iadd, 569, 0, 0), (569, .iaload, 570, 0, 0), (570, .invokevirtual 76, 573, 264, 1), (573, .if_icmp .eq 642, 576, 1215, 0), (576, .iconst 0, 577, 0, 0), (577, .ireturn, 578, 0, 0), (578, .aload_n 1, 579, 1, 0), (579, .aload_n 0, 580, 0, 0), (580, .iload_n 3, 581, 3, 0), (581, .iconst 1, 582, 0, 0), (582, .iadd, 583, 0, 0), (583, .iaload, 584, 0, 0), (584, .invokevirtual 77, 587, 161, 1), (587, .aload_n 2, 588, 2, 0), (588, .aload_n 0, 589, 0, 0), (589, .iload_n 3, 590, 3, 0), (590, .iconst 1, 591, 0, 0), (591, .iadd, 592, 0, 0), (592, .iaload, 593, 0, 0), (593, .invokevirtual 80, 596, 265, 1), (596, .if_icmp .eq 619, 599, 1215, 0), (599, .iconst 0, 600, 0, 0), (600, .ireturn, 601, 0, 0), (601, .aload_n 1, 602, 1, 0), (602, .aload_n 0, 603, 0, 0), (603, .iload_n 3, 604, 3, 0), (604, .iconst 1, 605, 0, 0), (605, .iadd, 606, 0, 0), (606, .iaload, 607, 0, 0), (607, .invokevirtual 81, 610, 162, 1), (610, .aload_n 2, 611, 2, 0), (611, .aload_n 0, 612, 0, 0), (612, .iload_n 3, 613, 3, 0), (613, .iconst 1, 614, 0, 0), (614, .iadd, 615, 0, 0), (615, .iaload, 616, 0, 0), (616, .invokevirtual 84, 619, 266, 1), (619, .if_icmp .eq 596, 622, 1215, 0)]
theorem ac_304_8_ok : am_ckL 304 ac_304_8 = true := by decide +kernel
def ac_304_9 : List (Nat × am_I) := [(622, .iconst 0, 623, 0, 0), (623, .ireturn, 624, 0, 0), (624, .aload_n 1, 625, 1, 0), (625, .aload_n 0, 626, 0, 0), (626, .iload_n 3, 627, 3, 0), (627, .iconst 1, 628, 0, 0), (628, .iadd, 629, 0, 0), (629, .iaload, 630, 0, 0), (630, .aload_n 0, 631, 0, 0), (631, .iload_n 3, 632, 3, 0), (632, .iconst 2, 633, 0, 0), (633, .iadd, 634, 0, 0), (634, .iaload, 635, 0, 0), (635, .aload_n 0, 636, 0, 0), (636, .iload_n 3, 637, 3, 0), (637, .iconst 3, 638, 0, 0), (638, .iadd, 639, 0, 0), (639, .iaload, 640, 0, 0), (640, .ifCond .eq 7, 643, 647, 0), (643, .iconst 1, 644, 0, 0), (644, .goto 4, 647, 648, 0), (647, .iconst 0, 648, 0, 0), (648, .invokevirtual 85, 651, 163, 3), (651, .aload_n 2, 652, 2, 0), (652, .aload_n 0, 653, 0, 0), (653, .iload_n 3, 654, 3, 0), (654, .iconst 1, 655, 0, 0), (655, .iadd, 656, 0, 0), (656, .iaload, 657, 0, 0), (657, .aload_n 0, 658, 0, 0), (658, .iload_n 3, 659, 3, 0), (659, .iconst 2, 660, 0, 0), (660, .iadd, 661, 0, 0), (661, .iaload, 662, 0, 0), (662, .aload_n 0, 663, 0, 0), (663, .iload_n 3, 664, 3, 0), (664, .iconst 3, 665, 0, 0), (665, .iadd, 666, 0, 0), (666, .iaload, 667, 0, 0), (667, .ifCond .eq 7, 670, 674, 0)]
theorem ac_304_9_ok : am_ckL 304 ac_304_9 = true := by decide +kernel
def ac_304_10 : List (Nat × am_I) := [(670, .iconst 1, 671, 0, 0), (671, .goto 4, 674, 675, 0), (674, .iconst 0, 675, 0, 0), (675, .invokevirtual 89, 678, 267, 3), (678, .if_icmp .eq 537, 681, 1215, 0), (681, .iconst 0, 682, 0, 0), (682, .ireturn, 683, 0, 0), (683, .aload_n 1, 684, 1, 0), (684, .aload_n 0, 685, 0, 0), (685, .iload_n 3, 686, 3, 0), (686, .iconst 1, 687, 0, 0), (687, .iadd, 688, 0, 0), (688, .iaload, 689, 0, 0), (689, .aload_n 0, 690, 0, 0), (690, .iload_n 3, 691, 3, 0), (691, .iconst 2, 692, 0, 0), (692, .iadd, 693, 0, 0), (693, .iaload, 694, 0, 0), (694, .aload_n 0, 695, 0, 0), (695, .iload_n 3, 696, 3, 0), (696, .iconst 3, 697, 0, 0), (697, .iadd, 698, 0, 0), (698, .iaload, 699, 0, 0), (699, .aload_n 0, 700, 0, 0), (700, .iload_n 3, 701, 3, 0), (701, .iconst 4, 702, 0, 0), (702, .iadd, 703, 0, 0), (703, .iaload, 704, 0, 0), (704, .aload_n 0, 705, 0, 0), (705, .iload_n 3, 706, 3, 0), (706, .iconst 5, 707, 0, 0), (707, .iadd, 708, 0, 0), (708, .iaload, 709, 0, 0), (709, .ifCond .eq 7, 712, 716, 0), (712, .iconst 1, 713, 0, 0), (713, .goto 4, 716, 717, 0), (716, .iconst 0, 717, 0, 0), (717, .invokevirtual 90, 720, 165, 5), (720, .aload_n 2, 721, 2, 0), (721, .aload_n 0, 722, 0, 0)]
theorem ac_304_10_ok : am_ckL 304 ac_304_10 = true := by decide +kernel
def ac_304_11 : List (Nat × am_I) := [(722, .iload_n 3, 723, 3, 0), (723, .iconst 1, 724, 0, 0), (724, .iadd, 725, 0, 0), (725, .iaload, 726, 0, 0), (726, .aload_n 0, 727, 0, 0), (727, .iload_n 3, 728, 3, 0), (728, .iconst 2, 729, 0, 0), (729, .iadd, 730, 0, 0), (730, .iaload, 731, 0, 0), (731, .aload_n 0, 732, 0, 0), (732, .iload_n 3, 733, 3, 0), (733, .iconst 3, 734, 0, 0), (734, .iadd, 735, 0, 0), (735, .iaload, 736, 0, 0), (736, .aload_n 0, 737, 0, 0), (737, .iload_n 3, 738, 3, 0), (738, .iconst 4, 739, 0, 0), (739, .iadd, 740, 0, 0), (740, .iaload, 741, 0, 0), (741, .aload_n 0, 742, 0, 0), (742, .iload_n 3, 743, 3, 0), (743, .iconst 5, 744, 0, 0), (744, .iadd, 745, 0, 0), (745, .iaload, 746, 0, 0), (746, .ifCond .eq 7, 749, 753, 0), (749, .iconst 1, 750, 0, 0), (750, .goto 4, 753, 754, 0), (753, .iconst 0, 754, 0, 0), (754, .invokevirtual 94, 757, 269, 5), (757, .if_icmp .eq 458, 760, 1215, 0), (760, .iconst 0, 761, 0, 0), (761, .ireturn, 762, 0, 0), (762, .aload_n 1, 763, 1, 0), (763, .aload_n 0, 764, 0, 0), (764, .iload_n 3, 765, 3, 0), (765, .iconst 1, 766, 0, 0), (766, .iadd, 767, 0, 0), (767, .iaload, 768, 0, 0), (768, .aload_n 0, 769, 0, 0), (769, .iload_n 3, 770, 3, 0)]
theorem ac_304_11_ok : am_ckL 304 ac_304_11 = true := by decide +kernel
def ac_304_12 : List (Nat × am_I) := [(770, .iconst 2, 771, 0, 0), (771, .iadd, 772, 0, 0), (772, .iaload, 773, 0, 0), (773, .ifCond .eq 7, 776, 780, 0), (776, .iconst 1, 777, 0, 0), (777, .goto 4, 780, 781, 0), (780, .iconst 0, 781, 0, 0), (781, .aload_n 0, 782, 0, 0), (782, .iload_n 3, 783, 3, 0), (783, .iconst 3, 784, 0, 0), (784, .iadd, 785, 0, 0), (785, .iaload, 786, 0, 0), (786, .ifCond .eq 7, 789, 793, 0), (789, .iconst 1, 790, 0, 0), (790, .goto 4, 793, 794, 0), (793, .iconst 0, 794, 0, 0), (794, .invokevirtual 95, 797, 166, 3), (797, .aload_n 2, 798, 2, 0), (798, .aload_n 0, 799, 0, 0), (799, .iload_n 3, 800, 3, 0), (800, .iconst 1, 801, 0, 0), (801, .iadd, 802, 0, 0), (802, .iaload, 803, 0, 0), (803, .aload_n 0, 804, 0, 0), (804, .iload_n 3, 805, 3, 0), (805, .iconst 2, 806, 0, 0), (806, .iadd, 807, 0, 0), (807, .iaload, 808, 0, 0), (808, .ifCond .eq 7, 811, 815, 0), (811, .iconst 1, 812, 0, 0), (812, .goto 4, 815, 816, 0), (815, .iconst 0, 816, 0, 0), (816, .aload_n 0, 817, 0, 0), (817, .iload_n 3, 818, 3, 0), (818, .iconst 3, 819, 0, 0), (819, .iadd, 820, 0, 0), (820, .iaload, 821, 0, 0), (821, .ifCond .eq 7, 824, 828, 0), (824, .iconst 1, 825, 0, 0), (825, .goto 4, 828, 829, 0)]
theorem ac_304_12_ok : am_ckL 304 ac_304_12 = true := by decide +kernel
def ac_304_13 : List (Nat × am_I) := [(828, .iconst 0, 829, 0, 0), (829, .invokevirtual 99, 832, 272, 3), (832, .if_icmp .eq 383, 835, 1215, 0), (835, .iconst 0, 836, 0, 0), (836, .ireturn, 837, 0, 0), (837, .aload_n 1, 838, 1, 0), (838, .aload_n 0, 839, 0, 0), (839, .iload_n 3, 840, 3, 0), (840, .iconst 1, 841, 0, 0), (841, .iadd, 842, 0, 0), (842, .iaload, 843, 0, 0), (843, .invokevirtual 100, 846, 168, 1), (846, .aload_n 2, 847, 2, 0), (847, .aload_n 0, 848, 0, 0), (848, .iload_n 3, 849, 3, 0), (849, .iconst 1, 850, 0, 0), (850, .iadd, 851, 0, 0), (851, .iaload, 852, 0, 0), (852, .invokevirtual 103, 855, 273, 1), (855, .if_icmp .eq 360, 858, 1215, 0), (858, .iconst 0, 859, 0, 0), (859, .ireturn, 860, 0, 0), (860, .aload_n 1, 861, 1, 0), (861, .aload_n 0, 862, 0, 0), (862, .iload_n 3, 863, 3, 0), (863, .iconst 1, 864, 0, 0), (864, .iadd, 865, 0, 0), (865, .iaload, 866, 0, 0), (866, .invokevirtual 104, 869, 169, 1), (869, .aload_n 2, 870, 2, 0), (870, .aload_n 0, 871, 0, 0), (871, .iload_n 3, 872, 3, 0), (872, .iconst 1, 873, 0, 0), (873, .iadd, 874, 0, 0), (874, .iaload, 875, 0, 0), (875, .invokevirtual 107, 878, 274, 1), (878, .if_icmp .eq 337, 881, 1215, 0), (881, .iconst 0, 882, 0, 0), (882, .ireturn, 883, 0, 0), (883, .aload_n 1, 884, 1, 0)]
theorem ac_304_13_ok : am_ckL 304 ac_304_13 = true := by decide +kernel
def ac_304_14 : List (Nat × am_I) := [(884, .aload_n 0, 885, 0, 0), (885, .iload_n 3, 886, 3, 0), (886, .iconst 1, 887, 0, 0), (887, .iadd, 888, 0, 0), (888, .iaload, 889, 0, 0), (889, .invokevirtual 108, 892, 170, 1), (892, .aload_n 2, 893, 2, 0), (893, .aload_n 0, 894, 0, 0), (894, .iload_n 3, 895, 3, 0), (895, .iconst 1, 896, 0, 0), (896, .iadd, 897, 0, 0), (897, .iaload, 898, 0, 0), (898, .invokevirtual 111, 901, 275, 1), (901, .if_icmp .eq 314, 904, 1215, 0), (904, .iconst 0, 905, 0, 0), (905, .ireturn, 906, 0, 0), (906, .aload_n 1, 907, 1, 0), (907, .aload_n 0, 908, 0, 0), (908, .iload_n 3, 909, 3, 0), (909, .iconst 1, 910, 0, 0), (910, .iadd, 911, 0, 0), (911, .iaload, 912, 0, 0), (912, .aload_n 0, 913, 0, 0), (913, .iload_n 3, 914, 3, 0), (914, .iconst 2, 915, 0, 0), (915, .iadd, 916, 0, 0), (916, .iaload, 917, 0, 0), (917, .aload_n 0, 918, 0, 0), (918, .iload_n 3, 919, 3, 0), (919, .iconst 3, 920, 0, 0), (920, .iadd, 921, 0, 0), (921, .iaload, 922, 0, 0), (922, .invokevirtual 112, 925, 172, 3), (925, .aload_n 2, 926, 2, 0), (926, .aload_n 0, 927, 0, 0), (927, .iload_n 3, 928, 3, 0), (928, .iconst 1, 929, 0, 0), (929, .iadd, 930, 0, 0), (930, .iaload, 931, 0, 0), (931, .aload_n 0, 932, 0, 0)]
theorem ac_304_14_ok : am_ckL 304 ac_304_14 = true := by decide +kernel
def ac_304_15 : List (Nat × am_I) := [(932, .iload_n 3, 933, 3, 0), (933, .iconst 2, 934, 0, 0), (934, .iadd, 935, 0, 0), (935, .iaload, 936, 0, 0), (936, .aload_n 0, 937, 0, 0), (937, .iload_n 3, 938, 3, 0), (938, .iconst 3, 939, 0, 0), (939, .iadd, 940, 0, 0), (940, .iaload, 941, 0, 0), (941, .invokevirtual 115, 944, 276, 3), (944, .if_icmp .eq 271, 947, 1215, 0), (947, .iconst 0, 948, 0, 0), (948, .ireturn, 949, 0, 0), (949, .aload_n 1, 950, 1, 0), (950, .aload_n 0, 951, 0, 0), (951, .iload_n 3, 952, 3, 0), (952, .iconst 1, 953, 0, 0), (953, .iadd, 954, 0, 0), (954, .iaload, 955, 0, 0), (955, .invokevirtual 116, 958, 173, 1), (958, .aload_n 2, 959, 2, 0), (959, .aload_n 0, 960, 0, 0), (960, .iload_n 3, 961, 3, 0), (961, .iconst 1, 962, 0, 0), (962, .iadd, 963, 0, 0), (963, .iaload, 964, 0, 0), (964, .invokevirtual 119, 967, 277, 1), (967, .if_icmp .eq 248, 970, 1215, 0), (970, .iconst 0, 971, 0, 0), (971, .ireturn, 972, 0, 0), (972, .aload_n 1, 973, 1, 0), (973, .aload_n 0, 974, 0, 0), (974, .iload_n 3, 975, 3, 0), (975, .iconst 1, 976, 0, 0), (976, .iadd, 977, 0, 0), (977, .iaload, 978, 0, 0), (978, .aload_n 0, 979, 0, 0), (979, .iload_n 3, 980, 3, 0), (980, .iconst 2, 981, 0, 0), (981, .iadd, 982, 0, 0)]
theorem ac_304_15_ok : am_ckL 304 ac_304_15 = true := by decide +kernel
def ac_304_16 : List (Nat × am_I) := [(982, .iaload, 983, 0, 0), (983, .ifCond .eq 7, 986, 990, 0), (986, .iconst 1, 987, 0, 0), (987, .goto 4, 990, 991, 0), (990, .iconst 0, 991, 0, 0), (991, .invokevirtual 120, 994, 175, 2), (994, .aload_n 2, 995, 2, 0), (995, .aload_n 0, 996, 0, 0), (996, .iload_n 3, 997, 3, 0), (997, .iconst 1, 998, 0, 0), (998, .iadd, 999, 0, 0), (999, .iaload, 1000, 0, 0), (1000, .aload_n 0, 1001, 0, 0), (1001, .iload_n 3, 1002, 3, 0), (1002, .iconst 2, 1003, 0, 0), (1003, .iadd, 1004, 0, 0), (1004, .iaload, 1005, 0, 0), (1005, .ifCond .eq 7, 1008, 1012, 0), (1008, .iconst 1, 1009, 0, 0), (1009, .goto 4, 1012, 1013, 0), (1012, .iconst 0, 1013, 0, 0), (1013, .invokevirtual 123, 1016, 278, 2), (1016, .if_icmp .eq 199, 1019, 1215, 0), (1019, .iconst 0, 1020, 0, 0), (1020, .ireturn, 1021, 0, 0), (1021, .aload_n 1, 1022, 1, 0), (1022, .invokevirtual 124, 1025, 176, 0), (1025, .aload_n 2, 1026, 2, 0), (1026, .invokevirtual 127, 1029, 252, 0), (1029, .if_icmp .eq 186, 1032, 1215, 0), (1032, .iconst 0, 1033, 0, 0), (1033, .ireturn, 1034, 0, 0), (1034, .aload_n 1, 1035, 1, 0), (1035, .aload_n 0, 1036, 0, 0), (1036, .iload_n 3, 1037, 3, 0), (1037, .iconst 1, 1038, 0, 0), (1038, .iadd, 1039, 0, 0), (1039, .iaload, 1040, 0, 0), (1040, .aload_n 0, 1041, 0, 0), (1041, .iload_n 3, 1042, 3, 0)]
theorem ac_304_16_ok : am_ckL 304 ac_304_16 = true := by decide +kernel
def ac_304_17 : List (Nat × am_I) := [(1042, .iconst 2, 1043, 0, 0), (1043, .iadd, 1044, 0, 0), (1044, .iaload, 1045, 0, 0), (1045, .invokevirtual 128, 1048, 177, 2), (1048, .aload_n 2, 1049, 2, 0), (1049, .aload_n 0, 1050, 0, 0), (1050, .iload_n 3, 1051, 3, 0), (1051, .iconst 1, 1052, 0, 0), (1052, .iadd, 1053, 0, 0), (1053, .iaload, 1054, 0, 0), (1054, .aload_n 0, 1055, 0, 0), (1055, .iload_n 3, 1056, 3, 0), (1056, .iconst 2, 1057, 0, 0), (1057, .iadd, 1058, 0, 0), (1058, .iaload, 1059, 0, 0), (1059, .invokevirtual 131, 1062, 283, 2), (1062, .if_icmp .eq 153, 1065, 1215, 0), (1065, .iconst 0, 1066, 0, 0), (1066, .ireturn, 1067, 0, 0), (1067, .aload_n 1, 1068, 1, 0), (1068, .invokevirtual 132, 1071, 178, 0), (1071, .aload_n 2, 1072, 2, 0), (1072, .invokevirtual 135, 1075, 284, 0), (1075, .if_icmp .eq 140, 1078, 1215, 0), (1078, .iconst 0, 1079, 0, 0), (1079, .ireturn, 1080, 0, 0), (1080, .aload_n 1, 1081, 1, 0), (1081, .aload_n 0, 1082, 0, 0), (1082, .iload_n 3, 1083, 3, 0), (1083, .iconst 1, 1084, 0, 0), (1084, .iadd, 1085, 0, 0), (1085, .iaload, 1086, 0, 0), (1086, .aload_n 0, 1087, 0, 0), (1087, .iload_n 3, 1088, 3, 0), (1088, .iconst 2, 1089, 0, 0), (1089, .iadd, 1090, 0, 0), (1090, .iaload, 1091, 0, 0), (1091, .invokevirtual 136, 1094, 179, 2), (1094, .aload_n 2, 1095, 2, 0), (1095, .aload_n 0, 1096, 0, 0)]
theorem ac_304_17_ok : am_ckL 304 ac_304_17 = true := by decide +kernel
def ac_304_18 : List (Nat × am_I) := [(1096, .iload_n 3, 1097, 3, 0), (1097, .iconst 1, 1098, 0, 0), (1098, .iadd, 1099, 0, 0), (1099, .iaload, 1100, 0, 0), (1100, .aload_n 0, 1101, 0, 0), (1101, .iload_n 3, 1102, 3, 0), (1102, .iconst 2, 1103, 0, 0), (1103, .iadd, 1104, 0, 0), (1104, .iaload, 1105, 0, 0), (1105, .invokevirtual 139, 1108, 285, 2), (1108, .if_icmp .eq 107, 1111, 1215, 0), (1111, .iconst 0, 1112, 0, 0), (1112, .ireturn, 1113, 0, 0), (1113, .aload_n 1, 1114, 1, 0), (1114, .aload_n 0, 1115, 0, 0), (1115, .iload_n 3, 1116, 3, 0), (1116, .iconst 1, 1117, 0, 0), (1117, .iadd, 1118, 0, 0), (1118, .iaload, 1119, 0, 0), (1119, .aload_n 0, 1120, 0, 0), (1120, .iload_n 3, 1121, 3, 0), (1121, .iconst 2, 1122, 0, 0), (1122, .iadd, 1123, 0, 0), (1123, .iaload, 1124, 0, 0), (1124, .invokevirtual 140, 1127, 180, 2), (1127, .aload_n 2, 1128, 2, 0), (1128, .aload_n 0, 1129, 0, 0), (1129, .iload_n 3, 1130, 3, 0), (1130, .iconst 1, 1131, 0, 0), (1131, .iadd, 1132, 0, 0), (1132, .iaload, 1133, 0, 0), (1133, .aload_n 0, 1134, 0, 0), (1134, .iload_n 3, 1135, 3, 0), (1135, .iconst 2, 1136, 0, 0), (1136, .iadd, 1137, 0, 0), (1137, .iaload, 1138, 0, 0), (1138, .invokevirtual 143, 1141, 289, 2), (1141, .if_icmp .eq 74, 1144, 1215, 0), (1144, .iconst 0, 1145, 0, 0), (1145, .ireturn, 1146, 0, 0)]
theorem ac_304_18_ok : am_ckL 304 ac_304_18 = true := by decide +kernel
def ac_304_19 : List (Nat × am_I) := [(1146, .aload_n 1, 1147, 1, 0), (1147, .aload_n 0, 1148, 0, 0), (1148, .iload_n 3, 1149, 3, 0), (1149, .iconst 1, 1150, 0, 0), (1150, .iadd, 1151, 0, 0), (1151, .iaload, 1152, 0, 0), (1152, .invokevirtual 144, 1155, 181, 1), (1155, .aload_n 2, 1156, 2, 0), (1156, .aload_n 0, 1157, 0, 0), (1157, .iload_n 3, 1158, 3, 0), (1158, .iconst 1, 1159, 0, 0), (1159, .iadd, 1160, 0, 0), (1160, .iaload, 1161, 0, 0), (1161, .invokevirtual 147, 1164, 290, 1), (1164, .if_icmp .eq 51, 1167, 1215, 0), (1167, .iconst 0, 1168, 0, 0), (1168, .ireturn, 1169, 0, 0), (1169, .aload_n 1, 1170, 1, 0), (1170, .aload_n 0, 1171, 0, 0), (1171, .iload_n 3, 1172, 3, 0), (1172, .iconst 1, 1173, 0, 0), (1173, .iadd, 1174, 0, 0), (1174, .iaload, 1175, 0, 0), (1175, .invokevirtual 148, 1178, 182, 1), (1178, .aload_n 2, 1179, 2, 0), (1179, .aload_n 0, 1180, 0, 0), (1180, .iload_n 3, 1181, 3, 0), (1181, .iconst 1, 1182, 0, 0), (1182, .iadd, 1183, 0, 0), (1183, .iaload, 1184, 0, 0), (1184, .invokevirtual 151, 1187, 291, 1), (1187, .if_icmp .eq 28, 1190, 1215, 0), (1190, .iconst 0, 1191, 0, 0), (1191, .ireturn, 1192, 0, 0), (1192, .aload_n 1, 1193, 1, 0), (1193, .aload_n 0, 1194, 0, 0), (1194, .iload_n 3, 1195, 3, 0), (1195, .iconst 1, 1196, 0, 0), (1196, .iadd, 1197, 0, 0), (1197, .iaload, 1198, 0, 0)]
theorem ac_304_19_ok : am_ckL 304 ac_304_19 = true := by decide +kernel
def ac_304_20 : List (Nat × am_I) := [(1198, .invokevirtual 152, 1201, 183, 1), (1201, .aload_n 2, 1202, 2, 0), (1202, .aload_n 0, 1203, 0, 0), (1203, .iload_n 3, 1204, 3, 0), (1204, .iconst 1, 1205, 0, 0), (1205, .iadd, 1206, 0, 0), (1206, .iaload, 1207, 0, 0), (1207, .invokevirtual 155, 1210, 292, 1), (1210, .if_icmp .eq 5, 1213, 1215, 0), (1213, .iconst 0, 1214, 0, 0), (1214, .ireturn, 1215, 0, 0), (1215, .iinc 3 6, 1218, 3, 0), (1218, .goto (-1200), 1221, 18, 0), (1221, .iconst 1, 1222, 0, 0), (1222, .ireturn, 1223, 0, 0)]
theorem ac_304_20_ok : am_ckL 304 ac_304_20 = true := by decide +kernel
set_option maxRecDepth 100000 in
theorem ac_304_eq : (am_P 304).2.2.2 = ac_304_0 ++ (ac_304_1 ++ (ac_304_2 ++ (ac_304_3 ++ (ac_304_4 ++ (ac_304_5 ++ (ac_304_6 ++ (ac_304_7 ++ (ac_304_8 ++ (ac_304_9 ++ (ac_304_10 ++ (ac_304_11 ++ (ac_304_12 ++ (ac_304_13 ++ (ac_304_14 ++ (ac_304_15 ++ (ac_304_16 ++ (ac_304_17 ++ (ac_304_18 ++ (ac_304_19 ++ (ac_304_20)))))))))))))))))))) := rfl
theorem am_m304 : am_ckM 304 = true := by
  show am_ckL 304 (am_P 304).2.2.2 = true
  rw [ac_304_eq]
  simp only [am_ckL, List.all_append, Bool.and_eq_true]
  exact ⟨ac_304_0_ok, ⟨ac_304_1_ok, ⟨ac_304_2_ok, ⟨ac_304_3_ok, ⟨ac_304_4_ok, ⟨ac_304_5_ok, ⟨ac_304_6_ok, ⟨ac_304_7_ok, ⟨ac_304_8_ok, ⟨ac_304_9_ok, ⟨ac_304_10_ok, ⟨ac_304_11_ok, ⟨ac_304_12_ok, ⟨ac_304_13_ok, ⟨ac_304_14_ok, ⟨ac_304_15_ok, ⟨ac_304_16_ok, ⟨ac_304_17_ok, ⟨ac_304_18_ok, ⟨ac_304_19_ok, ac_304_20_ok⟩⟩⟩⟩⟩⟩⟩⟩⟩⟩⟩⟩⟩⟩⟩⟩⟩⟩⟩⟩
end
section
theorem am_u0 : ∀ M, M < 0 → am_ckA M = true := fun M h => absurd h (Nat.not_lt_zero M)
theorem am_u1 : ∀ M, M < 1 → am_ckA M = true := am_up1 am_u0 am_k0
theorem am_u2 : ∀ M, M < 2 → am_ckA M = true := am_up1 am_u1 am_k1
theorem am_u3 : ∀ M, M < 3 → am_ckA M = true := am_up1 am_u2 am_k2
theorem am_u4 : ∀ M, M < 4 → am_ckA M = true := am_up1 am_u3 am_k3
theorem am_u5 : ∀ M, M < 5 → am_ckA M = true := am_up1 am_u4 am_k4
theorem am_u6 : ∀ M, M < 6 → am_ckA M = true := am_up1 am_u5 am_k5
theorem am_u7 : ∀ M, M < 7 → am_ckA M = true := am_up1 am_u6 am_k6
theorem am_u8 : ∀ M, M < 8 → am_ckA M = true := am_up1 am_u7 am_k7
theorem am_u9 : ∀ M, M < 9 → am_ckA M = true := am_up1 am_u8 am_k8
theorem am_u10 : ∀ M, M < 10 → am_ckA M = true := am_up1 am_u9 am_k9
theorem am_u11 : ∀ M, M < 11 → am_ckA M = true := am_up1 am_u10 am_k10
theorem am_u12 : ∀ M, M < 12 → am_ckA M = true := am_up1 am_u11 am_k11
theorem am_u13 : ∀ M, M < 13 → am_ckA M = true := am_up1 am_u12 am_k12
theorem am_u14 : ∀ M, M < 14 → am_ckA M = true := am_up1 am_u13 am_k13
theorem am_u15 : ∀ M, M < 15 → am_ckA M = true := am_up1 am_u14 am_k14
theorem am_u16 : ∀ M, M < 16 → am_ckA M = true := am_up1 am_u15 am_k15
theorem am_u17 : ∀ M, M < 17 → am_ckA M = true := am_up1 am_u16 am_k16
theorem am_u18 : ∀ M, M < 18 → am_ckA M = true := am_up1 am_u17 am_k17
theorem am_u19 : ∀ M, M < 19 → am_ckA M = true := am_up1 am_u18 am_k18
theorem am_u20 : ∀ M, M < 20 → am_ckA M = true := am_up1 am_u19 am_k19
theorem am_u21 : ∀ M, M < 21 → am_ckA M = true := am_up1 am_u20 am_k20
theorem am_u22 : ∀ M, M < 22 → am_ckA M = true := am_up1 am_u21 am_k21
theorem am_u23 : ∀ M, M < 23 → am_ckA M = true := am_up1 am_u22 am_k22
theorem am_u24 : ∀ M, M < 24 → am_ckA M = true := am_up1 am_u23 am_k23
theorem am_u25 : ∀ M, M < 25 → am_ckA M = true := am_up1 am_u24 am_k24
theorem am_u26 : ∀ M, M < 26 → am_ckA M = true := am_up1 am_u25 am_k25
theorem am_u27 : ∀ M, M < 27 → am_ckA M = true := am_up1 am_u26 am_k26
theorem am_u28 : ∀ M, M < 28 → am_ckA M = true := am_up1 am_u27 am_k27
theorem am_u29 : ∀ M, M < 29 → am_ckA M = true := am_up1 am_u28 am_k28
theorem am_u30 : ∀ M, M < 30 → am_ckA M = true := am_up1 am_u29 am_k29
theorem am_u31 : ∀ M, M < 31 → am_ckA M = true := am_up1 am_u30 am_k30
theorem am_u32 : ∀ M, M < 32 → am_ckA M = true := am_up1 am_u31 am_k31
theorem am_u33 : ∀ M, M < 33 → am_ckA M = true := am_up1 am_u32 am_k32
theorem am_u34 : ∀ M, M < 34 → am_ckA M = true := am_up1 am_u33 am_k33
theorem am_u35 : ∀ M, M < 35 → am_ckA M = true := am_up1 am_u34 am_k34
theorem am_u36 : ∀ M, M < 36 → am_ckA M = true := am_up1 am_u35 am_k35
theorem am_u37 : ∀ M, M < 37 → am_ckA M = true := am_up1 am_u36 am_k36
theorem am_u38 : ∀ M, M < 38 → am_ckA M = true := am_up1 am_u37 am_k37
theorem am_u39 : ∀ M, M < 39 → am_ckA M = true := am_up1 am_u38 am_k38
theorem am_u40 : ∀ M, M < 40 → am_ckA M = true := am_up1 am_u39 am_k39
theorem am_u41 : ∀ M, M < 41 → am_ckA M = true := am_up1 am_u40 am_k40
theorem am_u42 : ∀ M, M < 42 → am_ckA M = true := am_up1 am_u41 am_k41
theorem am_u43 : ∀ M, M < 43 → am_ckA M = true := am_up1 am_u42 am_k42
theorem am_u44 : ∀ M, M < 44 → am_ckA M = true := am_up1 am_u43 am_k43
theorem am_u45 : ∀ M, M < 45 → am_ckA M = true := am_up1 am_u44 am_k44
theorem am_u46 : ∀ M, M < 46 → am_ckA M = true := am_up1 am_u45 am_k45
theorem am_u47 : ∀ M, M < 47 → am_ckA M = true := am_up1 am_u46 am_k46
theorem am_u48 : ∀ M, M < 48 → am_ckA M = true := am_up1 am_u47 am_k47
theorem am_u49 : ∀ M, M < 49 → am_ckA M = true := am_up1 am_u48 am_k48
theorem am_u50 : ∀ M, M < 50 → am_ckA M = true := am_up1 am_u49 am_k49
theorem am_u51 : ∀ M, M < 51 → am_ckA M = true := am_up1 am_u50 am_k50
theorem am_u52 : ∀ M, M < 52 → am_ckA M = true := am_up1 am_u51 am_k51
theorem am_u53 : ∀ M, M < 53 → am_ckA M = true := am_up1 am_u52 am_k52
theorem am_u54 : ∀ M, M < 54 → am_ckA M = true := am_up1 am_u53 am_k53
theorem am_u55 : ∀ M, M < 55 → am_ckA M = true := am_up1 am_u54 am_k54
theorem am_u56 : ∀ M, M < 56 → am_ckA M = true := am_up1 am_u55 am_k55
theorem am_u57 : ∀ M, M < 57 → am_ckA M = true := am_up1 am_u56 am_k56
theorem am_u58 : ∀ M, M < 58 → am_ckA M = true := am_up1 am_u57 am_k57
theorem am_u59 : ∀ M, M < 59 → am_ckA M = true := am_up1 am_u58 am_k58
theorem am_u60 : ∀ M, M < 60 → am_ckA M = true := am_up1 am_u59 am_k59
theorem am_u61 : ∀ M, M < 61 → am_ckA M = true := am_up1 am_u60 am_k60
theorem am_u62 : ∀ M, M < 62 → am_ckA M = true := am_up1 am_u61 am_k61
theorem am_u63 : ∀ M, M < 63 → am_ckA M = true := am_up1 am_u62 am_k62
theorem am_u64 : ∀ M, M < 64 → am_ckA M = true := am_up1 am_u63 am_k63
theorem am_u65 : ∀ M, M < 65 → am_ckA M = true := am_up1 am_u64 am_k64
theorem am_u66 : ∀ M, M < 66 → am_ckA M = true := am_up1 am_u65 am_k65
theorem am_u67 : ∀ M, M < 67 → am_ckA M = true := am_up1 am_u66 am_k66
theorem am_u68 : ∀ M, M < 68 → am_ckA M = true := am_up1 am_u67 am_k67
theorem am_u69 : ∀ M, M < 69 → am_ckA M = true := am_up1 am_u68 am_k68
theorem am_u70 : ∀ M, M < 70 → am_ckA M = true := am_up1 am_u69 am_k69
theorem am_u71 : ∀ M, M < 71 → am_ckA M = true := am_up1 am_u70 am_k70
theorem am_u72 : ∀ M, M < 72 → am_ckA M = true := am_up1 am_u71 am_k71
theorem am_u73 : ∀ M, M < 73 → am_ckA M = true := am_up1 am_u72 am_k72
theorem am_u74 : ∀ M, M < 74 → am_ckA M = true := am_up1 am_u73 am_k73
theorem am_u75 : ∀ M, M < 75 → am_ckA M = true := am_up1 am_u74 am_k74
theorem am_u76 : ∀ M, M < 76 → am_ckA M = true := am_up1 am_u75 am_k75
theorem am_u77 : ∀ M, M < 77 → am_ckA M = true := am_up1 am_u76 am_k76
theorem am_u78 : ∀ M, M < 78 → am_ckA M = true := am_up1 am_u77 am_k77
theorem am_u79 : ∀ M, M < 79 → am_ckA M = true := am_up1 am_u78 am_k78
theorem am_u80 : ∀ M, M < 80 → am_ckA M = true := am_up1 am_u79 am_k79
theorem am_u81 : ∀ M, M < 81 → am_ckA M = true := am_up1 am_u80 am_k80
theorem am_u82 : ∀ M, M < 82 → am_ckA M = true := am_up1 am_u81 am_k81
theorem am_u83 : ∀ M, M < 83 → am_ckA M = true := am_up1 am_u82 am_k82
theorem am_u84 : ∀ M, M < 84 → am_ckA M = true := am_up1 am_u83 am_k83
theorem am_u85 : ∀ M, M < 85 → am_ckA M = true := am_up1 am_u84 am_k84
theorem am_u86 : ∀ M, M < 86 → am_ckA M = true := am_up1 am_u85 am_k85
theorem am_u87 : ∀ M, M < 87 → am_ckA M = true := am_up1 am_u86 am_k86
theorem am_u88 : ∀ M, M < 88 → am_ckA M = true := am_up1 am_u87 am_k87
theorem am_u89 : ∀ M, M < 89 → am_ckA M = true := am_up1 am_u88 am_k88
theorem am_u90 : ∀ M, M < 90 → am_ckA M = true := am_up1 am_u89 am_k89
theorem am_u91 : ∀ M, M < 91 → am_ckA M = true := am_up1 am_u90 am_k90
theorem am_u92 : ∀ M, M < 92 → am_ckA M = true := am_up1 am_u91 am_k91
theorem am_u93 : ∀ M, M < 93 → am_ckA M = true := am_up1 am_u92 am_k92
theorem am_u94 : ∀ M, M < 94 → am_ckA M = true := am_up1 am_u93 am_k93
theorem am_u95 : ∀ M, M < 95 → am_ckA M = true := am_up1 am_u94 am_k94
theorem am_u96 : ∀ M, M < 96 → am_ckA M = true := am_up1 am_u95 am_k95
theorem am_u97 : ∀ M, M < 97 → am_ckA M = true := am_up1 am_u96 am_k96
theorem am_u98 : ∀ M, M < 98 → am_ckA M = true := am_up1 am_u97 am_k97
theorem am_u99 : ∀ M, M < 99 → am_ckA M = true := am_up1 am_u98 am_k98
theorem am_u100 : ∀ M, M < 100 → am_ckA M = true := am_up1 am_u99 am_k99
theorem am_u101 : ∀ M, M < 101 → am_ckA M = true := am_up1 am_u100 am_k100
theorem am_u102 : ∀ M, M < 102 → am_ckA M = true := am_up1 am_u101 am_k101
theorem am_u103 : ∀ M, M < 103 → am_ckA M = true := am_up1 am_u102 am_k102
theorem am_u104 : ∀ M, M < 104 → am_ckA M = true := am_up1 am_u103 am_k103
theorem am_u105 : ∀ M, M < 105 → am_ckA M = true := am_up1 am_u104 am_k104
theorem am_u106 : ∀ M, M < 106 → am_ckA M = true := am_up1 am_u105 am_k105
theorem am_u107 : ∀ M, M < 107 → am_ckA M = true := am_up1 am_u106 am_k106
theorem am_u108 : ∀ M, M < 108 → am_ckA M = true := am_up1 am_u107 am_k107
theorem am_u109 : ∀ M, M < 109 → am_ckA M = true := am_up1 am_u108 am_k108
theorem am_u110 : ∀ M, M < 110 → am_ckA M = true := am_up1 am_u109 am_k109
theorem am_u111 : ∀ M, M < 111 → am_ckA M = true := am_up1 am_u110 am_k110
theorem am_u112 : ∀ M, M < 112 → am_ckA M = true := am_up1 am_u111 am_k111
theorem am_u113 : ∀ M, M < 113 → am_ckA M = true := am_up1 am_u112 am_k112
theorem am_u114 : ∀ M, M < 114 → am_ckA M = true := am_up1 am_u113 am_k113
theorem am_u115 : ∀ M, M < 115 → am_ckA M = true := am_up1 am_u114 am_k114
theorem am_u116 : ∀ M, M < 116 → am_ckA M = true := am_up1 am_u115 am_k115
theorem am_u117 : ∀ M, M < 117 → am_ckA M = true := am_up1 am_u116 am_k116
theorem am_u118 : ∀ M, M < 118 → am_ckA M = true := am_up1 am_u117 am_k117
theorem am_u119 : ∀ M, M < 119 → am_ckA M = true := am_up1 am_u118 am_k118
theorem am_u120 : ∀ M, M < 120 → am_ckA M = true := am_up1 am_u119 am_k119
theorem am_u121 : ∀ M, M < 121 → am_ckA M = true := am_up1 am_u120 am_k120
theorem am_u122 : ∀ M, M < 122 → am_ckA M = true := am_up1 am_u121 am_k121
theorem am_u123 : ∀ M, M < 123 → am_ckA M = true := am_up1 am_u122 am_k122
theorem am_u124 : ∀ M, M < 124 → am_ckA M = true := am_up1 am_u123 am_k123
theorem am_u125 : ∀ M, M < 125 → am_ckA M = true := am_up1 am_u124 am_k124
theorem am_u126 : ∀ M, M < 126 → am_ckA M = true := am_up1 am_u125 am_k125
theorem am_u127 : ∀ M, M < 127 → am_ckA M = true := am_up1 am_u126 am_k126
theorem am_u128 : ∀ M, M < 128 → am_ckA M = true := am_up1 am_u127 am_k127
theorem am_u129 : ∀ M, M < 129 → am_ckA M = true := am_up1 am_u128 am_k128
theorem am_u130 : ∀ M, M < 130 → am_ckA M = true := am_up1 am_u129 am_k129
theorem am_u131 : ∀ M, M < 131 → am_ckA M = true := am_up1 am_u130 am_k130
theorem am_u132 : ∀ M, M < 132 → am_ckA M = true := am_up1 am_u131 am_k131
theorem am_u133 : ∀ M, M < 133 → am_ckA M = true := am_up1 am_u132 am_k132
theorem am_u134 : ∀ M, M < 134 → am_ckA M = true := am_up1 am_u133 am_k133
theorem am_u135 : ∀ M, M < 135 → am_ckA M = true := am_up1 am_u134 am_k134
theorem am_u136 : ∀ M, M < 136 → am_ckA M = true := am_up1 am_u135 am_k135
theorem am_u137 : ∀ M, M < 137 → am_ckA M = true := am_up1 am_u136 am_k136
theorem am_u138 : ∀ M, M < 138 → am_ckA M = true := am_up1 am_u137 am_k137
theorem am_u139 : ∀ M, M < 139 → am_ckA M = true := am_up1 am_u138 am_k138
theorem am_u140 : ∀ M, M < 140 → am_ckA M = true := am_up1 am_u139 am_k139
theorem am_u141 : ∀ M, M < 141 → am_ckA M = true := am_up1 am_u140 am_k140
theorem am_u142 : ∀ M, M < 142 → am_ckA M = true := am_up1 am_u141 am_k141
theorem am_u143 : ∀ M, M < 143 → am_ckA M = true := am_up1 am_u142 am_k142
theorem am_u144 : ∀ M, M < 144 → am_ckA M = true := am_up1 am_u143 am_k143
theorem am_u145 : ∀ M, M < 145 → am_ckA M = true := am_up1 am_u144 am_k144
theorem am_u146 : ∀ M, M < 146 → am_ckA M = true := am_up1 am_u145 am_k145
theorem am_u147 : ∀ M, M < 147 → am_ckA M = true := am_up1 am_u146 am_k146
theorem am_u148 : ∀ M, M < 148 → am_ckA M = true := am_up1 am_u147 am_k147
theorem am_u149 : ∀ M, M < 149 → am_ckA M = true := am_up1 am_u148 am_k148
theorem am_u150 : ∀ M, M < 150 → am_ckA M = true := am_up1 am_u149 am_k149
theorem am_u151 : ∀ M, M < 151 → am_ckA M = true := am_up1 am_u150 am_k150
theorem am_u152 : ∀ M, M < 152 → am_ckA M = true := am_up1 am_u151 am_k151
theorem am_u153 : ∀ M, M < 153 → am_ckA M = true := am_up1 am_u152 am_k152
theorem am_u154 : ∀ M, M < 154 → am_ckA M = true := am_up1 am_u153 am_k153
theorem am_u155 : ∀ M, M < 155 → am_ckA M = true := am_up1 am_u154 am_k154
theorem am_u156 : ∀ M, M < 156 → am_ckA M = true := am_up1 am_u155 am_k155
theorem am_u157 : ∀ M, M < 157 → am_ckA M = true := am_up1 am_u156 am_k156
theorem am_u158 : ∀ M, M < 158 → am_ckA M = true := am_up1 am_u157 am_k157
theorem am_u159 : ∀ M, M < 159 → am_ckA M = true := am_up1 am_u158 am_k158
theorem am_u160 : ∀ M, M < 160 → am_ckA M = true := am_up1 am_u159 am_k159
theorem am_u161 : ∀ M, M < 161 → am_ckA M = true := am_up1 am_u160 am_k160
theorem am_u162 : ∀ M, M < 162 → am_ckA M = true := am_up1 am_u161 am_k161
theorem am_u163 : ∀ M, M < 163 → am_ckA M = true := am_up1 am_u162 am_k162
theorem am_u164 : ∀ M, M < 164 → am_ckA M = true := am_up1 am_u163 am_k163
theorem am_u165 : ∀ M, M < 165 → am_ckA M = true := am_up1 am_u164 am_k164
theorem am_u166 : ∀ M, M < 166 → am_ckA M = true := am_up1 am_u165 am_k165
theorem am_u167 : ∀ M, M < 167 → am_ckA M = true := am_up1 am_u166 am_k166
theorem am_u168 : ∀ M, M < 168 → am_ckA M = true := am_up1 am_u167 am_k167
theorem am_u169 : ∀ M, M < 169 → am_ckA M = true := am_up1 am_u168 am_k168
theorem am_u170 : ∀ M, M < 170 → am_ckA M = true := am_up1 am_u169 am_k169
theorem am_u171 : ∀ M, M < 171 → am_ckA M = true := am_up1 am_u170 am_k170
theorem am_u172 : ∀ M, M < 172 → am_ckA M = true := am_up1 am_u171 am_k171
theorem am_u173 : ∀ M, M < 173 → am_ckA M = true := am_up1 am_u172 am_k172
theorem am_u174 : ∀ M, M < 174 → am_ckA M = true := am_up1 am_u173 am_k173
theorem am_u175 : ∀ M, M < 175 → am_ckA M = true := am_up1 am_u174 am_k174
theorem am_u176 : ∀ M, M < 176 → am_ckA M = true := am_up1 am_u175 am_k175
theorem am_u177 : ∀ M, M < 177 → am_ckA M = true := am_up1 am_u176 am_k176
theorem am_u178 : ∀ M, M < 178 → am_ckA M = true := am_up1 am_u177 am_k177
theorem am_u179 : ∀ M, M < 179 → am_ckA M = true := am_up1 am_u178 am_k178
theorem am_u180 : ∀ M, M < 180 → am_ckA M = true := am_up1 am_u179 am_k179
theorem am_u181 : ∀ M, M < 181 → am_ckA M = true := am_up1 am_u180 am_k180
theorem am_u182 : ∀ M, M < 182 → am_ckA M = true := am_up1 am_u181 am_k181
theorem am_u183 : ∀ M, M < 183 → am_ckA M = true := am_up1 am_u182 am_k182
theorem am_u184 : ∀ M, M < 184 → am_ckA M = true := am_up1 am_u183 am_k183
theorem am_u185 : ∀ M, M < 185 → am_ckA M = true := am_up1 am_u184 am_k184
theorem am_u186 : ∀ M, M < 186 → am_ckA M = true := am_up1 am_u185 am_k185
theorem am_u187 : ∀ M, M < 187 → am_ckA M = true := am_up1 am_u186 am_k186
theorem am_u188 : ∀ M, M < 188 → am_ckA M = true := am_up1 am_u187 am_k187
theorem am_u189 : ∀ M, M < 189 → am_ckA M = true := am_up1 am_u188 am_k188
theorem am_u190 : ∀ M, M < 190 → am_ckA M = true := am_up1 am_u189 am_k189
theorem am_u191 : ∀ M, M < 191 → am_ckA M = true := am_up1 am_u190 am_k190
theorem am_u192 : ∀ M, M < 192 → am_ckA M = true := am_up1 am_u191 am_k191
theorem am_u193 : ∀ M, M < 193 → am_ckA M = true := am_up1 am_u192 am_k192
theorem am_u194 : ∀ M, M < 194 → am_ckA M = true := am_up1 am_u193 am_k193
theorem am_u195 : ∀ M, M < 195 → am_ckA M = true := am_up1 am_u194 am_k194
theorem am_u196 : ∀ M, M < 196 → am_ckA M = true := am_up1 am_u195 am_k195
theorem am_u197 : ∀ M, M < 197 → am_ckA M = true := am_up1 am_u196 am_k196
theorem am_u198 : ∀ M, M < 198 → am_ckA M = true := am_up1 am_u197 am_k197
theorem am_u199 : ∀ M, M < 199 → am_ckA M = true := am_up1 am_u198 am_k198
theorem am_u200 : ∀ M, M < 200 → am_ckA M = true := am_up1 am_u199 am_k199
theorem am_u201 : ∀ M, M < 201 → am_ckA M = true := am_up1 am_u200 am_k200
theorem am_u202 : ∀ M, M < 202 → am_ckA M = true := am_up1 am_u201 am_k201
theorem am_u203 : ∀ M, M < 203 → am_ckA M = true := am_up1 am_u202 am_k202
theorem am_u204 : ∀ M, M < 204 → am_ckA M = true := am_up1 am_u203 am_k203
theorem am_u205 : ∀ M, M < 205 → am_ckA M = true := am_up1 am_u204 am_k204
theorem am_u206 : ∀ M, M < 206 → am_ckA M = true := am_up1 am_u205 am_k205
theorem am_u207 : ∀ M, M < 207 → am_ckA M = true := am_up1 am_u206 am_k206
theorem am_u208 : ∀ M, M < 208 → am_ckA M = true := am_up1 am_u207 am_k207
theorem am_u209 : ∀ M, M < 209 → am_ckA M = true := am_up1 am_u208 am_k208
theorem am_u210 : ∀ M, M < 210 → am_ckA M = true := am_up1 am_u209 am_k209
theorem am_u211 : ∀ M, M < 211 → am_ckA M = true := am_up1 am_u210 am_k210
theorem am_u212 : ∀ M, M < 212 → am_ckA M = true := am_up1 am_u211 am_k211
theorem am_u213 : ∀ M, M < 213 → am_ckA M = true := am_up1 am_u212 am_k212
theorem am_u214 : ∀ M, M < 214 → am_ckA M = true := am_up1 am_u213 am_k213
theorem am_u215 : ∀ M, M < 215 → am_ckA M = true := am_up1 am_u214 am_k214
theorem am_u216 : ∀ M, M < 216 → am_ckA M = true := am_up1 am_u215 am_k215
theorem am_u217 : ∀ M, M < 217 → am_ckA M = true := am_up1 am_u216 am_k216
theorem am_u218 : ∀ M, M < 218 → am_ckA M = true := am_up1 am_u217 am_k217
theorem am_u219 : ∀ M, M < 219 → am_ckA M = true := am_up1 am_u218 am_k218
theorem am_u220 : ∀ M, M < 220 → am_ckA M = true := am_up1 am_u219 am_k219
theorem am_u221 : ∀ M, M < 221 → am_ckA M = true := am_up1 am_u220 am_k220
theorem am_u222 : ∀ M, M < 222 → am_ckA M = true := am_up1 am_u221 am_k221
theorem am_u223 : ∀ M, M < 223 → am_ckA M = true := am_up1 am_u222 am_k222
theorem am_u224 : ∀ M, M < 224 → am_ckA M = true := am_up1 am_u223 am_k223
theorem am_u225 : ∀ M, M < 225 → am_ckA M = true := am_up1 am_u224 am_k224
theorem am_u226 : ∀ M, M < 226 → am_ckA M = true := am_up1 am_u225 am_k225
theorem am_u227 : ∀ M, M < 227 → am_ckA M = true := am_up1 am_u226 am_k226
theorem am_u228 : ∀ M, M < 228 → am_ckA M = true := am_up1 am_u227 am_k227
theorem am_u229 : ∀ M, M < 229 → am_ckA M = true := am_up1 am_u228 am_k228
theorem am_u230 : ∀ M, M < 230 → am_ckA M = true := am_up1 am_u229 am_k229
theorem am_u231 : ∀ M, M < 231 → am_ckA M = true := am_up1 am_u230 am_k230
theorem am_u232 : ∀ M, M < 232 → am_ckA M = true := am_up1 am_u231 am_k231
theorem am_u233 : ∀ M, M < 233 → am_ckA M = true := am_up1 am_u232 am_k232
theorem am_u234 : ∀ M, M < 234 → am_ckA M = true := am_up1 am_u233 am_k233
theorem am_u235 : ∀ M, M < 235 → am_ckA M = true := am_up1 am_u234 am_k234
theorem am_u236 : ∀ M, M < 236 → am_ckA M = true := am_up1 am_u235 am_k235
theorem am_u237 : ∀ M, M < 237 → am_ckA M = true := am_up1 am_u236 am_k236
theorem am_u238 : ∀ M, M < 238 → am_ckA M = true := am_up1 am_u237 am_k237
theorem am_u239 : ∀ M, M < 239 → am_ckA M = true := am_up1 am_u238 am_k238
theorem am_u240 : ∀ M, M < 240 → am_ckA M = true := am_up1 am_u239 am_k239
theorem am_u241 : ∀ M, M < 241 → am_ckA M = true := am_up1 am_u240 am_k240
theorem am_u242 : ∀ M, M < 242 → am_ckA M = true := am_up1 am_u241 am_k241
theorem am_u243 : ∀ M, M < 243 → am_ckA M = true := am_up1 am_u242 am_k242
theorem am_u244 : ∀ M, M < 244 → am_ckA M = true := am_up1 am_u243 am_k243
theorem am_u245 : ∀ M, M < 245 → am_ckA M = true := am_up1 am_u244 am_k244
theorem am_u246 : ∀ M, M < 246 → am_ckA M = true := am_up1 am_u245 am_k245
theorem am_u247 : ∀ M, M < 247 → am_ckA M = true := am_up1 am_u246 am_k246
theorem am_u248 : ∀ M, M < 248 → am_ckA M = true := am_up1 am_u247 am_k247
theorem am_u249 : ∀ M, M < 249 → am_ckA M = true := am_up1 am_u248 am_k248
theorem am_u250 : ∀ M, M < 250 → am_ckA M = true := am_up1 am_u249 am_k249
theorem am_u251 : ∀ M, M < 251 → am_ckA M = true := am_up1 am_u250 am_k250
theorem am_u252 : ∀ M, M < 252 → am_ckA M = true := am_up1 am_u251 am_k251
theorem am_u253 : ∀ M, M < 253 → am_ckA M = true := am_up1 am_u252 am_k252
theorem am_u254 : ∀ M, M < 254 → am_ckA M = true := am_up1 am_u253 am_k253
theorem am_u255 : ∀ M, M < 255 → am_ckA M = true := am_up1 am_u254 am_k254
theorem am_u256 : ∀ M, M < 256 → am_ckA M = true := am_up1 am_u255 am_k255
theorem am_u257 : ∀ M, M < 257 → am_ckA M = true := am_up1 am_u256 am_k256
theorem am_u258 : ∀ M, M < 258 → am_ckA M = true := am_up1 am_u257 am_k257
theorem am_u259 : ∀ M, M < 259 → am_ckA M = true := am_up1 am_u258 am_k258
theorem am_u260 : ∀ M, M < 260 → am_ckA M = true := am_up1 am_u259 am_k259
theorem am_u261 : ∀ M, M < 261 → am_ckA M = true := am_up1 am_u260 am_k260
theorem am_u262 : ∀ M, M < 262 → am_ckA M = true := am_up1 am_u261 am_k261
theorem am_u263 : ∀ M, M < 263 → am_ckA M = true := am_up1 am_u262 am_k262
theorem am_u264 : ∀ M, M < 264 → am_ckA M = true := am_up1 am_u263 am_k263
theorem am_u265 : ∀ M, M < 265 → am_ckA M = true := am_up1 am_u264 am_k264
theorem am_u266 : ∀ M, M < 266 → am_ckA M = true := am_up1 am_u265 am_k265
theorem am_u267 : ∀ M, M < 267 → am_ckA M = true := am_up1 am_u266 am_k266
theorem am_u268 : ∀ M, M < 268 → am_ckA M = true := am_up1 am_u267 am_k267
theorem am_u269 : ∀ M, M < 269 → am_ckA M = true := am_up1 am_u268 am_k268
theorem am_u270 : ∀ M, M < 270 → am_ckA M = true := am_up1 am_u269 am_k269
theorem am_u271 : ∀ M, M < 271 → am_ckA M = true := am_up1 am_u270 am_k270
theorem am_u272 : ∀ M, M < 272 → am_ckA M = true := am_up1 am_u271 am_k271
theorem am_u273 : ∀ M, M < 273 → am_ckA M = true := am_up1 am_u272 am_k272
theorem am_u274 : ∀ M, M < 274 → am_ckA M = true := am_up1 am_u273 am_k273
theorem am_u275 : ∀ M, M < 275 → am_ckA M = true := am_up1 am_u274 am_k274
theorem am_u276 : ∀ M, M < 276 → am_ckA M = true := am_up1 am_u275 am_k275
theorem am_u277 : ∀ M, M < 277 → am_ckA M = true := am_up1 am_u276 am_k276
theorem am_u278 : ∀ M, M < 278 → am_ckA M = true := am_up1 am_u277 am_k277
theorem am_u279 : ∀ M, M < 279 → am_ckA M = true := am_up1 am_u278 am_k278
theorem am_u280 : ∀ M, M < 280 → am_ckA M = true := am_up1 am_u279 am_k279
theorem am_u281 : ∀ M, M < 281 → am_ckA M = true := am_up1 am_u280 am_k280
theorem am_u282 : ∀ M, M < 282 → am_ckA M = true := am_up1 am_u281 am_k281
theorem am_u283 : ∀ M, M < 283 → am_ckA M = true := am_up1 am_u282 am_k282
theorem am_u284 : ∀ M, M < 284 → am_ckA M = true := am_up1 am_u283 am_k283
theorem am_u285 : ∀ M, M < 285 → am_ckA M = true := am_up1 am_u284 am_k284
theorem am_u286 : ∀ M, M < 286 → am_ckA M = true := am_up1 am_u285 am_k285
theorem am_u287 : ∀ M, M < 287 → am_ckA M = true := am_up1 am_u286 am_k286
theorem am_u288 : ∀ M, M < 288 → am_ckA M = true := am_up1 am_u287 am_k287
theorem am_u289 : ∀ M, M < 289 → am_ckA M = true := am_up1 am_u288 am_k288
theorem am_u290 : ∀ M, M < 290 → am_ckA M = true := am_up1 am_u289 am_k289
theorem am_u291 : ∀ M, M < 291 → am_ckA M = true := am_up1 am_u290 am_k290
theorem am_u292 : ∀ M, M < 292 → am_ckA M = true := am_up1 am_u291 am_k291
theorem am_u293 : ∀ M, M < 293 → am_ckA M = true := am_up1 am_u292 am_k292
theorem am_u294 : ∀ M, M < 294 → am_ckA M = true := am_up1 am_u293 am_k293
theorem am_u295 : ∀ M, M < 295 → am_ckA M = true := am_up1 am_u294 am_k294
theorem am_u296 : ∀ M, M < 296 → am_ckA M = true := am_up1 am_u295 am_k295
theorem am_u297 : ∀ M, M < 297 → am_ckA M = true := am_up1 am_u296 am_k296
theorem am_u298 : ∀ M, M < 298 → am_ckA M = true := am_up1 am_u297 am_k297
theorem am_u299 : ∀ M, M < 299 → am_ckA M = true := am_up1 am_u298 am_k298
theorem am_u300 : ∀ M, M < 300 → am_ckA M = true := am_up1 am_u299 am_k299
theorem am_u301 : ∀ M, M < 301 → am_ckA M = true := am_up1 am_u300 am_k300
theorem am_u302 : ∀ M, M < 302 → am_ckA M = true := am_up1 am_u301 am_k301
theorem am_u303 : ∀ M, M < 303 → am_ckA M = true := am_up1 am_u302 am_k302
theorem am_u304 : ∀ M, M < 304 → am_ckA M = true := am_up1 am_u303 am_k303
theorem am_okAll : ∀ M, M < am_NM → am_gm am_P am_yN am_cN am_NM am_Ts M := fun M h => am_gm_of (am_u304 M h)
theorem am_okLaw : am_ckM 304 = true := am_m304
def am_ckU (k : Nat) : Bool := (List.range (am_nf k)).all (fun j => am_lw (am_nth (am_nth am_UL k []) j 0) (u_lay (am_cn k) (am_tb k) j))
theorem am_uu0 : am_ckU 0 = true := by decide +kernel
theorem am_uu1 : am_ckU 1 = true := by decide +kernel
theorem am_uu2 : am_ckU 2 = true := by decide +kernel
theorem am_uu3 : am_ckU 3 = true := by decide +kernel
theorem am_uu4 : am_ckU 4 = true := by decide +kernel
theorem am_uu5 : am_ckU 5 = true := by decide +kernel
theorem am_uu6 : am_ckU 6 = true := by decide +kernel
theorem am_uu7 : am_ckU 7 = true := by decide +kernel
theorem am_uu8 : am_ckU 8 = true := by decide +kernel
theorem am_uu9 : am_ckU 9 = true := by decide +kernel
theorem am_uu10 : am_ckU 10 = true := by decide +kernel
theorem am_uu11 : am_ckU 11 = true := by decide +kernel
theorem am_ckU_ok {k : Nat} (h : am_ckU k = true) : ∀ w ∈ u_ws (am_cn k) (am_tb k) (am_nf k), w ∈ am_Ts := by
  intro w hw
  unfold u_ws at hw
  obtain ⟨j, hj, e⟩ := List.mem_map.mp hw
  subst e
  exact am_lw_mem (List.all_eq_true.mp h j hj)
theorem am_okU : ∀ k, k < 12 → ∀ w ∈ u_ws (am_cn k) (am_tb k) (am_nf k), w ∈ am_Ts := by
  intro k hk
  apply am_ckU_ok
  rcases (show k = 0 ∨ k = 1 ∨ k = 2 ∨ k = 3 ∨ k = 4 ∨ k = 5 ∨ k = 6 ∨ k = 7 ∨ k = 8 ∨ k = 9 ∨ k = 10 ∨ k = 11 by omega) with h | h | h | h | h | h | h | h | h | h | h | h <;> subst h
  · exact am_uu0
  · exact am_uu1
  · exact am_uu2
  · exact am_uu3
  · exact am_uu4
  · exact am_uu5
  · exact am_uu6
  · exact am_uu7
  · exact am_uu8
  · exact am_uu9
  · exact am_uu10
  · exact am_uu11
/-- the program: what am_run says of it, the JVM does -/
theorem am_sound0 (l : Launch) (D : va_G) (ad dA : Nat → Nat) (Ls : Nat) (xs : Nat → Int32) : ∀ n, am_IH am_P am_yN am_cN am_NM am_Ts l D ad dA Ls xs n := am_sound am_okU am_good am_okAll
end
