section
-- ===== PART A: goes FIRST, ahead of the names: the tables' words, and 'selects' of the private methods out of them =====
/-- a private method of a class that the tables say can be made, by its rows of tables_1 -/
def lw_okq (q : MethodName × Nat) : Prop := (q.1.cls ≠ "java/lang/invoke/MethodHandle" ∧ q.1.cls ≠ "java/lang/invoke/VarHandle") ∧ Cond.instantiable q.1.cls q.2 ∈ tables_1 ∧ Cond.privateMethod q.1 ∈ tables_1 ∧ Cond.instanceMethod q.1 ∈ tables_1
theorem lw_p0 : lw_okq (⟨"StoneHome", "begin", "()V"⟩, 13) := ⟨⟨by decide +kernel, by decide +kernel⟩, List.mem_of_getElem? (i := 22) (by decide +kernel), List.mem_of_getElem? (i := 425) (by decide +kernel), List.mem_of_getElem? (i := 426) (by decide +kernel)⟩
theorem lw_p1 : lw_okq (⟨"StoneHome$Table", "listLies", "(Z)V"⟩, 7) := ⟨⟨by decide +kernel, by decide +kernel⟩, List.mem_of_getElem? (i := 286) (by decide +kernel), List.mem_of_getElem? (i := 460) (by decide +kernel), List.mem_of_getElem? (i := 461) (by decide +kernel)⟩
theorem lw_p2 : lw_okq (⟨"StoneHome", "putBytes", "(I)V"⟩, 13) := ⟨⟨by decide +kernel, by decide +kernel⟩, List.mem_of_getElem? (i := 22) (by decide +kernel), List.mem_of_getElem? (i := 525) (by decide +kernel), List.mem_of_getElem? (i := 526) (by decide +kernel)⟩
theorem lw_p3 : lw_okq (⟨"StoneHome$Tokens", "skipBlanks", "()V"⟩, 8) := ⟨⟨by decide +kernel, by decide +kernel⟩, List.mem_of_getElem? (i := 155) (by decide +kernel), List.mem_of_getElem? (i := 552) (by decide +kernel), List.mem_of_getElem? (i := 553) (by decide +kernel)⟩
theorem lw_p4 : lw_okq (⟨"StoneHome$Tokens", "scanOne", "()V"⟩, 8) := ⟨⟨by decide +kernel, by decide +kernel⟩, List.mem_of_getElem? (i := 155) (by decide +kernel), List.mem_of_getElem? (i := 559) (by decide +kernel), List.mem_of_getElem? (i := 560) (by decide +kernel)⟩
theorem lw_p5 : lw_okq (⟨"StoneHome$Tokens", "scanWord", "()V"⟩, 8) := ⟨⟨by decide +kernel, by decide +kernel⟩, List.mem_of_getElem? (i := 155) (by decide +kernel), List.mem_of_getElem? (i := 566) (by decide +kernel), List.mem_of_getElem? (i := 567) (by decide +kernel)⟩
theorem lw_p6 : lw_okq (⟨"StoneHome$Tokens", "wordNumber", "(I)I"⟩, 8) := ⟨⟨by decide +kernel, by decide +kernel⟩, List.mem_of_getElem? (i := 155) (by decide +kernel), List.mem_of_getElem? (i := 570) (by decide +kernel), List.mem_of_getElem? (i := 571) (by decide +kernel)⟩
theorem lw_p7 : lw_okq (⟨"StoneHome$Tokens", "scanInt", "()V"⟩, 8) := ⟨⟨by decide +kernel, by decide +kernel⟩, List.mem_of_getElem? (i := 155) (by decide +kernel), List.mem_of_getElem? (i := 626) (by decide +kernel), List.mem_of_getElem? (i := 627) (by decide +kernel)⟩
theorem lw_p8 : lw_okq (⟨"StoneHome$Reader", "take", "()V"⟩, 12) := ⟨⟨by decide +kernel, by decide +kernel⟩, List.mem_of_getElem? (i := 149) (by decide +kernel), List.mem_of_getElem? (i := 686) (by decide +kernel), List.mem_of_getElem? (i := 687) (by decide +kernel)⟩
theorem lw_p9 : lw_okq (⟨"StoneHome$Reader", "takeTell", "()V"⟩, 12) := ⟨⟨by decide +kernel, by decide +kernel⟩, List.mem_of_getElem? (i := 149) (by decide +kernel), List.mem_of_getElem? (i := 690) (by decide +kernel), List.mem_of_getElem? (i := 691) (by decide +kernel)⟩
theorem lw_p10 : lw_okq (⟨"StoneHome$Reader", "takeRow", "()V"⟩, 12) := ⟨⟨by decide +kernel, by decide +kernel⟩, List.mem_of_getElem? (i := 149) (by decide +kernel), List.mem_of_getElem? (i := 694) (by decide +kernel), List.mem_of_getElem? (i := 695) (by decide +kernel)⟩
theorem lw_p11 : lw_okq (⟨"StoneHome$Reader", "fail", "(I)V"⟩, 12) := ⟨⟨by decide +kernel, by decide +kernel⟩, List.mem_of_getElem? (i := 149) (by decide +kernel), List.mem_of_getElem? (i := 698) (by decide +kernel), List.mem_of_getElem? (i := 699) (by decide +kernel)⟩
theorem lw_p12 : lw_okq (⟨"StoneHome$Reader", "layRow", "()Z"⟩, 12) := ⟨⟨by decide +kernel, by decide +kernel⟩, List.mem_of_getElem? (i := 149) (by decide +kernel), List.mem_of_getElem? (i := 702) (by decide +kernel), List.mem_of_getElem? (i := 703) (by decide +kernel)⟩
theorem lw_p13 : lw_okq (⟨"StoneHome$Reader", "failLate", "(II)V"⟩, 12) := ⟨⟨by decide +kernel, by decide +kernel⟩, List.mem_of_getElem? (i := 149) (by decide +kernel), List.mem_of_getElem? (i := 716) (by decide +kernel), List.mem_of_getElem? (i := 717) (by decide +kernel)⟩
theorem lw_p14 : lw_okq (⟨"StoneHome$Reader", "takeKick", "()V"⟩, 12) := ⟨⟨by decide +kernel, by decide +kernel⟩, List.mem_of_getElem? (i := 149) (by decide +kernel), List.mem_of_getElem? (i := 720) (by decide +kernel), List.mem_of_getElem? (i := 721) (by decide +kernel)⟩
theorem lw_p15 : lw_okq (⟨"StoneHome$Reader", "isToldKick", "(J)Z"⟩, 12) := ⟨⟨by decide +kernel, by decide +kernel⟩, List.mem_of_getElem? (i := 149) (by decide +kernel), List.mem_of_getElem? (i := 729) (by decide +kernel), List.mem_of_getElem? (i := 730) (by decide +kernel)⟩
def lw_privs_1 : List (MethodName × Nat) := [(⟨"StoneHome", "begin", "()V"⟩, 13), (⟨"StoneHome$Table", "listLies", "(Z)V"⟩, 7), (⟨"StoneHome", "putBytes", "(I)V"⟩, 13), (⟨"StoneHome$Tokens", "skipBlanks", "()V"⟩, 8), (⟨"StoneHome$Tokens", "scanOne", "()V"⟩, 8), (⟨"StoneHome$Tokens", "scanWord", "()V"⟩, 8), (⟨"StoneHome$Tokens", "wordNumber", "(I)I"⟩, 8), (⟨"StoneHome$Tokens", "scanInt", "()V"⟩, 8), (⟨"StoneHome$Reader", "take", "()V"⟩, 12), (⟨"StoneHome$Reader", "takeTell", "()V"⟩, 12), (⟨"StoneHome$Reader", "takeRow", "()V"⟩, 12), (⟨"StoneHome$Reader", "fail", "(I)V"⟩, 12), (⟨"StoneHome$Reader", "layRow", "()Z"⟩, 12), (⟨"StoneHome$Reader", "failLate", "(II)V"⟩, 12), (⟨"StoneHome$Reader", "takeKick", "()V"⟩, 12), (⟨"StoneHome$Reader", "isToldKick", "(J)Z"⟩, 12)]
theorem lw_r1 : ∀ q ∈ lw_privs_1, lw_okq q := List.forall_mem_cons.mpr ⟨lw_p0, List.forall_mem_cons.mpr ⟨lw_p1, List.forall_mem_cons.mpr ⟨lw_p2, List.forall_mem_cons.mpr ⟨lw_p3, List.forall_mem_cons.mpr ⟨lw_p4, List.forall_mem_cons.mpr ⟨lw_p5, List.forall_mem_cons.mpr ⟨lw_p6, List.forall_mem_cons.mpr ⟨lw_p7, List.forall_mem_cons.mpr ⟨lw_p8, List.forall_mem_cons.mpr ⟨lw_p9, List.forall_mem_cons.mpr ⟨lw_p10, List.forall_mem_cons.mpr ⟨lw_p11, List.forall_mem_cons.mpr ⟨lw_p12, List.forall_mem_cons.mpr ⟨lw_p13, List.forall_mem_cons.mpr ⟨lw_p14, List.forall_mem_cons.mpr ⟨lw_p15, fun _ h => absurd h List.not_mem_nil⟩⟩⟩⟩⟩⟩⟩⟩⟩⟩⟩⟩⟩⟩⟩⟩
theorem lw_p16 : lw_okq (⟨"StoneHome$Reader", "takeOutcomes", "(I)I"⟩, 12) := ⟨⟨by decide +kernel, by decide +kernel⟩, List.mem_of_getElem? (i := 149) (by decide +kernel), List.mem_of_getElem? (i := 733) (by decide +kernel), List.mem_of_getElem? (i := 734) (by decide +kernel)⟩
theorem lw_p17 : lw_okq (⟨"StoneHome$Reader", "takeOutcome", "(I)I"⟩, 12) := ⟨⟨by decide +kernel, by decide +kernel⟩, List.mem_of_getElem? (i := 149) (by decide +kernel), List.mem_of_getElem? (i := 737) (by decide +kernel), List.mem_of_getElem? (i := 738) (by decide +kernel)⟩
theorem lw_p18 : lw_okq (⟨"StoneHome$Reader", "takeInt", "(II)I"⟩, 12) := ⟨⟨by decide +kernel, by decide +kernel⟩, List.mem_of_getElem? (i := 149) (by decide +kernel), List.mem_of_getElem? (i := 741) (by decide +kernel), List.mem_of_getElem? (i := 742) (by decide +kernel)⟩
theorem lw_p19 : lw_okq (⟨"StoneHome$Reader", "takeWord", "(I)V"⟩, 12) := ⟨⟨by decide +kernel, by decide +kernel⟩, List.mem_of_getElem? (i := 149) (by decide +kernel), List.mem_of_getElem? (i := 745) (by decide +kernel), List.mem_of_getElem? (i := 746) (by decide +kernel)⟩
theorem lw_p20 : lw_okq (⟨"StoneHome$Reader", "isWord", "(I)Z"⟩, 12) := ⟨⟨by decide +kernel, by decide +kernel⟩, List.mem_of_getElem? (i := 149) (by decide +kernel), List.mem_of_getElem? (i := 749) (by decide +kernel), List.mem_of_getElem? (i := 750) (by decide +kernel)⟩
theorem lw_p21 : lw_okq (⟨"StoneHome$Reader", "isSign", "(C)Z"⟩, 12) := ⟨⟨by decide +kernel, by decide +kernel⟩, List.mem_of_getElem? (i := 149) (by decide +kernel), List.mem_of_getElem? (i := 753) (by decide +kernel), List.mem_of_getElem? (i := 754) (by decide +kernel)⟩
theorem lw_p22 : lw_okq (⟨"StoneHome$Reader", "takeLaw", "(I)V"⟩, 12) := ⟨⟨by decide +kernel, by decide +kernel⟩, List.mem_of_getElem? (i := 149) (by decide +kernel), List.mem_of_getElem? (i := 757) (by decide +kernel), List.mem_of_getElem? (i := 758) (by decide +kernel)⟩
theorem lw_p23 : lw_okq (⟨"StoneHome$Reader", "takeSign", "(C)V"⟩, 12) := ⟨⟨by decide +kernel, by decide +kernel⟩, List.mem_of_getElem? (i := 149) (by decide +kernel), List.mem_of_getElem? (i := 761) (by decide +kernel), List.mem_of_getElem? (i := 762) (by decide +kernel)⟩
theorem lw_p24 : lw_okq (⟨"StoneHome$Reader", "takeBranch", "()V"⟩, 12) := ⟨⟨by decide +kernel, by decide +kernel⟩, List.mem_of_getElem? (i := 149) (by decide +kernel), List.mem_of_getElem? (i := 769) (by decide +kernel), List.mem_of_getElem? (i := 770) (by decide +kernel)⟩
theorem lw_p25 : lw_okq (⟨"StoneHome$Reader", "takeFormula", "()V"⟩, 12) := ⟨⟨by decide +kernel, by decide +kernel⟩, List.mem_of_getElem? (i := 149) (by decide +kernel), List.mem_of_getElem? (i := 773) (by decide +kernel), List.mem_of_getElem? (i := 774) (by decide +kernel)⟩
theorem lw_p26 : lw_okq (⟨"StoneHome$Reader", "operatorNext", "()I"⟩, 12) := ⟨⟨by decide +kernel, by decide +kernel⟩, List.mem_of_getElem? (i := 149) (by decide +kernel), List.mem_of_getElem? (i := 781) (by decide +kernel), List.mem_of_getElem? (i := 782) (by decide +kernel)⟩
theorem lw_p27 : lw_okq (⟨"StoneHome$Reader", "takeOpening", "(I)V"⟩, 12) := ⟨⟨by decide +kernel, by decide +kernel⟩, List.mem_of_getElem? (i := 149) (by decide +kernel), List.mem_of_getElem? (i := 785) (by decide +kernel), List.mem_of_getElem? (i := 786) (by decide +kernel)⟩
theorem lw_p28 : lw_okq (⟨"StoneHome$Reader", "takeUnit", "()V"⟩, 12) := ⟨⟨by decide +kernel, by decide +kernel⟩, List.mem_of_getElem? (i := 149) (by decide +kernel), List.mem_of_getElem? (i := 789) (by decide +kernel), List.mem_of_getElem? (i := 790) (by decide +kernel)⟩
theorem lw_p29 : lw_okq (⟨"StoneHome$Laws", "lastWaiting", "()I"⟩, 8) := ⟨⟨by decide +kernel, by decide +kernel⟩, List.mem_of_getElem? (i := 36) (by decide +kernel), List.mem_of_getElem? (i := 805) (by decide +kernel), List.mem_of_getElem? (i := 806) (by decide +kernel)⟩
theorem lw_p30 : lw_okq (⟨"StoneHome$Reader", "takeSpot", "([I)V"⟩, 12) := ⟨⟨by decide +kernel, by decide +kernel⟩, List.mem_of_getElem? (i := 149) (by decide +kernel), List.mem_of_getElem? (i := 820) (by decide +kernel), List.mem_of_getElem? (i := 821) (by decide +kernel)⟩
theorem lw_p31 : lw_okq (⟨"StoneHome$Reader", "takeSetting", "()V"⟩, 12) := ⟨⟨by decide +kernel, by decide +kernel⟩, List.mem_of_getElem? (i := 149) (by decide +kernel), List.mem_of_getElem? (i := 824) (by decide +kernel), List.mem_of_getElem? (i := 825) (by decide +kernel)⟩
def lw_privs_2 : List (MethodName × Nat) := [(⟨"StoneHome$Reader", "takeOutcomes", "(I)I"⟩, 12), (⟨"StoneHome$Reader", "takeOutcome", "(I)I"⟩, 12), (⟨"StoneHome$Reader", "takeInt", "(II)I"⟩, 12), (⟨"StoneHome$Reader", "takeWord", "(I)V"⟩, 12), (⟨"StoneHome$Reader", "isWord", "(I)Z"⟩, 12), (⟨"StoneHome$Reader", "isSign", "(C)Z"⟩, 12), (⟨"StoneHome$Reader", "takeLaw", "(I)V"⟩, 12), (⟨"StoneHome$Reader", "takeSign", "(C)V"⟩, 12), (⟨"StoneHome$Reader", "takeBranch", "()V"⟩, 12), (⟨"StoneHome$Reader", "takeFormula", "()V"⟩, 12), (⟨"StoneHome$Reader", "operatorNext", "()I"⟩, 12), (⟨"StoneHome$Reader", "takeOpening", "(I)V"⟩, 12), (⟨"StoneHome$Reader", "takeUnit", "()V"⟩, 12), (⟨"StoneHome$Laws", "lastWaiting", "()I"⟩, 8), (⟨"StoneHome$Reader", "takeSpot", "([I)V"⟩, 12), (⟨"StoneHome$Reader", "takeSetting", "()V"⟩, 12)]
theorem lw_r2 : ∀ q ∈ lw_privs_2, lw_okq q := List.forall_mem_cons.mpr ⟨lw_p16, List.forall_mem_cons.mpr ⟨lw_p17, List.forall_mem_cons.mpr ⟨lw_p18, List.forall_mem_cons.mpr ⟨lw_p19, List.forall_mem_cons.mpr ⟨lw_p20, List.forall_mem_cons.mpr ⟨lw_p21, List.forall_mem_cons.mpr ⟨lw_p22, List.forall_mem_cons.mpr ⟨lw_p23, List.forall_mem_cons.mpr ⟨lw_p24, List.forall_mem_cons.mpr ⟨lw_p25, List.forall_mem_cons.mpr ⟨lw_p26, List.forall_mem_cons.mpr ⟨lw_p27, List.forall_mem_cons.mpr ⟨lw_p28, List.forall_mem_cons.mpr ⟨lw_p29, List.forall_mem_cons.mpr ⟨lw_p30, List.forall_mem_cons.mpr ⟨lw_p31, fun _ h => absurd h List.not_mem_nil⟩⟩⟩⟩⟩⟩⟩⟩⟩⟩⟩⟩⟩⟩⟩⟩
theorem lw_p32 : lw_okq (⟨"StoneHome$Reader", "judge", "(I)V"⟩, 12) := ⟨⟨by decide +kernel, by decide +kernel⟩, List.mem_of_getElem? (i := 149) (by decide +kernel), List.mem_of_getElem? (i := 828) (by decide +kernel), List.mem_of_getElem? (i := 829) (by decide +kernel)⟩
theorem lw_p33 : lw_okq (⟨"StoneHome$Street", "isSpot", "([I)Z"⟩, 16) := ⟨⟨by decide +kernel, by decide +kernel⟩, List.mem_of_getElem? (i := 30) (by decide +kernel), List.mem_of_getElem? (i := 836) (by decide +kernel), List.mem_of_getElem? (i := 837) (by decide +kernel)⟩
theorem lw_p34 : lw_okq (⟨"StoneHome$Laws", "factAt", "(I)I"⟩, 8) := ⟨⟨by decide +kernel, by decide +kernel⟩, List.mem_of_getElem? (i := 36) (by decide +kernel), List.mem_of_getElem? (i := 891) (by decide +kernel), List.mem_of_getElem? (i := 892) (by decide +kernel)⟩
theorem lw_p35 : lw_okq (⟨"StoneHome", "canBeKicked", "(I)Z"⟩, 13) := ⟨⟨by decide +kernel, by decide +kernel⟩, List.mem_of_getElem? (i := 22) (by decide +kernel), List.mem_of_getElem? (i := 906) (by decide +kernel), List.mem_of_getElem? (i := 907) (by decide +kernel)⟩
theorem lw_p36 : lw_okq (⟨"StoneHome$Street", "lotOfSix", "(I)I"⟩, 16) := ⟨⟨by decide +kernel, by decide +kernel⟩, List.mem_of_getElem? (i := 30) (by decide +kernel), List.mem_of_getElem? (i := 918) (by decide +kernel), List.mem_of_getElem? (i := 919) (by decide +kernel)⟩
theorem lw_p37 : lw_okq (⟨"StoneHome", "comeBy", "(I)I"⟩, 13) := ⟨⟨by decide +kernel, by decide +kernel⟩, List.mem_of_getElem? (i := 22) (by decide +kernel), List.mem_of_getElem? (i := 938) (by decide +kernel), List.mem_of_getElem? (i := 939) (by decide +kernel)⟩
theorem lw_p38 : lw_okq (⟨"StoneHome", "settle", "(I)I"⟩, 13) := ⟨⟨by decide +kernel, by decide +kernel⟩, List.mem_of_getElem? (i := 22) (by decide +kernel), List.mem_of_getElem? (i := 968) (by decide +kernel), List.mem_of_getElem? (i := 969) (by decide +kernel)⟩
theorem lw_p39 : lw_okq (⟨"StoneHome", "lose", "()I"⟩, 13) := ⟨⟨by decide +kernel, by decide +kernel⟩, List.mem_of_getElem? (i := 22) (by decide +kernel), List.mem_of_getElem? (i := 972) (by decide +kernel), List.mem_of_getElem? (i := 973) (by decide +kernel)⟩
theorem lw_p40 : lw_okq (⟨"StoneHome", "touched", "(I)I"⟩, 13) := ⟨⟨by decide +kernel, by decide +kernel⟩, List.mem_of_getElem? (i := 22) (by decide +kernel), List.mem_of_getElem? (i := 985) (by decide +kernel), List.mem_of_getElem? (i := 986) (by decide +kernel)⟩
theorem lw_p41 : lw_okq (⟨"StoneHome", "homeChance", "(I)I"⟩, 13) := ⟨⟨by decide +kernel, by decide +kernel⟩, List.mem_of_getElem? (i := 22) (by decide +kernel), List.mem_of_getElem? (i := 1014) (by decide +kernel), List.mem_of_getElem? (i := 1015) (by decide +kernel)⟩
theorem lw_p42 : lw_okq (⟨"StoneHome$Forecast", "swap", "()V"⟩, 9) := ⟨⟨by decide +kernel, by decide +kernel⟩, List.mem_of_getElem? (i := 321) (by decide +kernel), List.mem_of_getElem? (i := 1030) (by decide +kernel), List.mem_of_getElem? (i := 1031) (by decide +kernel)⟩
theorem lw_p43 : lw_okq (⟨"StoneHome$Forecast", "fillLayer", "(I)V"⟩, 9) := ⟨⟨by decide +kernel, by decide +kernel⟩, List.mem_of_getElem? (i := 321) (by decide +kernel), List.mem_of_getElem? (i := 1047) (by decide +kernel), List.mem_of_getElem? (i := 1048) (by decide +kernel)⟩
theorem lw_p44 : lw_okq (⟨"StoneHome$Forecast", "chanceThere", "(II)I"⟩, 9) := ⟨⟨by decide +kernel, by decide +kernel⟩, List.mem_of_getElem? (i := 321) (by decide +kernel), List.mem_of_getElem? (i := 1052) (by decide +kernel), List.mem_of_getElem? (i := 1053) (by decide +kernel)⟩
theorem lw_p45 : lw_okq (⟨"StoneHome$Forecast", "chanceBy", "(III)I"⟩, 9) := ⟨⟨by decide +kernel, by decide +kernel⟩, List.mem_of_getElem? (i := 321) (by decide +kernel), List.mem_of_getElem? (i := 1057) (by decide +kernel), List.mem_of_getElem? (i := 1058) (by decide +kernel)⟩
theorem lw_p46 : lw_okq (⟨"StoneHome$Forecast", "laterChance", "(II)I"⟩, 9) := ⟨⟨by decide +kernel, by decide +kernel⟩, List.mem_of_getElem? (i := 321) (by decide +kernel), List.mem_of_getElem? (i := 1062) (by decide +kernel), List.mem_of_getElem? (i := 1063) (by decide +kernel)⟩
theorem lw_p47 : lw_okq (⟨"StoneHome$Forecast", "chanceAtRest", "(II)I"⟩, 9) := ⟨⟨by decide +kernel, by decide +kernel⟩, List.mem_of_getElem? (i := 321) (by decide +kernel), List.mem_of_getElem? (i := 1077) (by decide +kernel), List.mem_of_getElem? (i := 1078) (by decide +kernel)⟩
def lw_privs_3 : List (MethodName × Nat) := [(⟨"StoneHome$Reader", "judge", "(I)V"⟩, 12), (⟨"StoneHome$Street", "isSpot", "([I)Z"⟩, 16), (⟨"StoneHome$Laws", "factAt", "(I)I"⟩, 8), (⟨"StoneHome", "canBeKicked", "(I)Z"⟩, 13), (⟨"StoneHome$Street", "lotOfSix", "(I)I"⟩, 16), (⟨"StoneHome", "comeBy", "(I)I"⟩, 13), (⟨"StoneHome", "settle", "(I)I"⟩, 13), (⟨"StoneHome", "lose", "()I"⟩, 13), (⟨"StoneHome", "touched", "(I)I"⟩, 13), (⟨"StoneHome", "homeChance", "(I)I"⟩, 13), (⟨"StoneHome$Forecast", "swap", "()V"⟩, 9), (⟨"StoneHome$Forecast", "fillLayer", "(I)V"⟩, 9), (⟨"StoneHome$Forecast", "chanceThere", "(II)I"⟩, 9), (⟨"StoneHome$Forecast", "chanceBy", "(III)I"⟩, 9), (⟨"StoneHome$Forecast", "laterChance", "(II)I"⟩, 9), (⟨"StoneHome$Forecast", "chanceAtRest", "(II)I"⟩, 9)]
theorem lw_r3 : ∀ q ∈ lw_privs_3, lw_okq q := List.forall_mem_cons.mpr ⟨lw_p32, List.forall_mem_cons.mpr ⟨lw_p33, List.forall_mem_cons.mpr ⟨lw_p34, List.forall_mem_cons.mpr ⟨lw_p35, List.forall_mem_cons.mpr ⟨lw_p36, List.forall_mem_cons.mpr ⟨lw_p37, List.forall_mem_cons.mpr ⟨lw_p38, List.forall_mem_cons.mpr ⟨lw_p39, List.forall_mem_cons.mpr ⟨lw_p40, List.forall_mem_cons.mpr ⟨lw_p41, List.forall_mem_cons.mpr ⟨lw_p42, List.forall_mem_cons.mpr ⟨lw_p43, List.forall_mem_cons.mpr ⟨lw_p44, List.forall_mem_cons.mpr ⟨lw_p45, List.forall_mem_cons.mpr ⟨lw_p46, List.forall_mem_cons.mpr ⟨lw_p47, fun _ h => absurd h List.not_mem_nil⟩⟩⟩⟩⟩⟩⟩⟩⟩⟩⟩⟩⟩⟩⟩⟩
theorem lw_p48 : lw_okq (⟨"StoneHome", "bestFrom", "(II)I"⟩, 13) := ⟨⟨by decide +kernel, by decide +kernel⟩, List.mem_of_getElem? (i := 22) (by decide +kernel), List.mem_of_getElem? (i := 1102) (by decide +kernel), List.mem_of_getElem? (i := 1103) (by decide +kernel)⟩
theorem lw_p49 : lw_okq (⟨"StoneHome", "ruledChance", "(III)I"⟩, 13) := ⟨⟨by decide +kernel, by decide +kernel⟩, List.mem_of_getElem? (i := 22) (by decide +kernel), List.mem_of_getElem? (i := 1123) (by decide +kernel), List.mem_of_getElem? (i := 1124) (by decide +kernel)⟩
theorem lw_p50 : lw_okq (⟨"StoneHome", "touchedChance", "(I)I"⟩, 13) := ⟨⟨by decide +kernel, by decide +kernel⟩, List.mem_of_getElem? (i := 22) (by decide +kernel), List.mem_of_getElem? (i := 1135) (by decide +kernel), List.mem_of_getElem? (i := 1136) (by decide +kernel)⟩
theorem lw_p51 : lw_okq (⟨"StoneHome", "chanceBehind", "(II)I"⟩, 13) := ⟨⟨by decide +kernel, by decide +kernel⟩, List.mem_of_getElem? (i := 22) (by decide +kernel), List.mem_of_getElem? (i := 1151) (by decide +kernel), List.mem_of_getElem? (i := 1152) (by decide +kernel)⟩
theorem lw_p52 : lw_okq (⟨"StoneHome", "isTrap", "(I)Z"⟩, 13) := ⟨⟨by decide +kernel, by decide +kernel⟩, List.mem_of_getElem? (i := 22) (by decide +kernel), List.mem_of_getElem? (i := 1163) (by decide +kernel), List.mem_of_getElem? (i := 1164) (by decide +kernel)⟩
theorem lw_p53 : lw_okq (⟨"StoneHome$Race", "reach", "([IIII)V"⟩, 6) := ⟨⟨by decide +kernel, by decide +kernel⟩, List.mem_of_getElem? (i := 355) (by decide +kernel), List.mem_of_getElem? (i := 1180) (by decide +kernel), List.mem_of_getElem? (i := 1181) (by decide +kernel)⟩
theorem lw_p54 : lw_okq (⟨"StoneHome$Race", "reachBy", "(II[II)V"⟩, 6) := ⟨⟨by decide +kernel, by decide +kernel⟩, List.mem_of_getElem? (i := 355) (by decide +kernel), List.mem_of_getElem? (i := 1186) (by decide +kernel), List.mem_of_getElem? (i := 1187) (by decide +kernel)⟩
theorem lw_p55 : lw_okq (⟨"StoneHome$Race", "takeMyTurn", "(II)V"⟩, 6) := ⟨⟨by decide +kernel, by decide +kernel⟩, List.mem_of_getElem? (i := 355) (by decide +kernel), List.mem_of_getElem? (i := 1195) (by decide +kernel), List.mem_of_getElem? (i := 1196) (by decide +kernel)⟩
theorem lw_p56 : lw_okq (⟨"StoneHome$Race", "myBest", "(II)I"⟩, 6) := ⟨⟨by decide +kernel, by decide +kernel⟩, List.mem_of_getElem? (i := 355) (by decide +kernel), List.mem_of_getElem? (i := 1200) (by decide +kernel), List.mem_of_getElem? (i := 1201) (by decide +kernel)⟩
theorem lw_p57 : lw_okq (⟨"StoneHome$Race", "chanceBy", "(IIII)I"⟩, 6) := ⟨⟨by decide +kernel, by decide +kernel⟩, List.mem_of_getElem? (i := 355) (by decide +kernel), List.mem_of_getElem? (i := 1204) (by decide +kernel), List.mem_of_getElem? (i := 1205) (by decide +kernel)⟩
theorem lw_p58 : lw_okq (⟨"StoneHome$Race", "takeHisTurn", "(I)V"⟩, 6) := ⟨⟨by decide +kernel, by decide +kernel⟩, List.mem_of_getElem? (i := 355) (by decide +kernel), List.mem_of_getElem? (i := 1211) (by decide +kernel), List.mem_of_getElem? (i := 1212) (by decide +kernel)⟩
theorem lw_p59 : lw_okq (⟨"StoneHome$Race", "hisBest", "(I)I"⟩, 6) := ⟨⟨by decide +kernel, by decide +kernel⟩, List.mem_of_getElem? (i := 355) (by decide +kernel), List.mem_of_getElem? (i := 1218) (by decide +kernel), List.mem_of_getElem? (i := 1219) (by decide +kernel)⟩
theorem lw_p60 : lw_okq (⟨"StoneHome$Scratches", "weighKick", "(LStoneHome$Street;III)V"⟩, 7) := ⟨⟨by decide +kernel, by decide +kernel⟩, List.mem_of_getElem? (i := 380) (by decide +kernel), List.mem_of_getElem? (i := 1253) (by decide +kernel), List.mem_of_getElem? (i := 1254) (by decide +kernel)⟩
theorem lw_p61 : lw_okq (⟨"StoneHome$Scratches", "pass", "(II)I"⟩, 7) := ⟨⟨by decide +kernel, by decide +kernel⟩, List.mem_of_getElem? (i := 380) (by decide +kernel), List.mem_of_getElem? (i := 1273) (by decide +kernel), List.mem_of_getElem? (i := 1274) (by decide +kernel)⟩
theorem lw_p62 : lw_okq (⟨"StoneHome", "heldSlots", "()I"⟩, 13) := ⟨⟨by decide +kernel, by decide +kernel⟩, List.mem_of_getElem? (i := 22) (by decide +kernel), List.mem_of_getElem? (i := 1304) (by decide +kernel), List.mem_of_getElem? (i := 1305) (by decide +kernel)⟩
theorem lw_p63 : lw_okq (⟨"StoneHomeModel", "plain", "(I)V"⟩, 70) := ⟨⟨by decide +kernel, by decide +kernel⟩, List.mem_of_getElem? (i := 1312) (by decide +kernel), List.mem_of_getElem? (i := 1318) (by decide +kernel), List.mem_of_getElem? (i := 1319) (by decide +kernel)⟩
def lw_privs_4 : List (MethodName × Nat) := [(⟨"StoneHome", "bestFrom", "(II)I"⟩, 13), (⟨"StoneHome", "ruledChance", "(III)I"⟩, 13), (⟨"StoneHome", "touchedChance", "(I)I"⟩, 13), (⟨"StoneHome", "chanceBehind", "(II)I"⟩, 13), (⟨"StoneHome", "isTrap", "(I)Z"⟩, 13), (⟨"StoneHome$Race", "reach", "([IIII)V"⟩, 6), (⟨"StoneHome$Race", "reachBy", "(II[II)V"⟩, 6), (⟨"StoneHome$Race", "takeMyTurn", "(II)V"⟩, 6), (⟨"StoneHome$Race", "myBest", "(II)I"⟩, 6), (⟨"StoneHome$Race", "chanceBy", "(IIII)I"⟩, 6), (⟨"StoneHome$Race", "takeHisTurn", "(I)V"⟩, 6), (⟨"StoneHome$Race", "hisBest", "(I)I"⟩, 6), (⟨"StoneHome$Scratches", "weighKick", "(LStoneHome$Street;III)V"⟩, 7), (⟨"StoneHome$Scratches", "pass", "(II)I"⟩, 7), (⟨"StoneHome", "heldSlots", "()I"⟩, 13), (⟨"StoneHomeModel", "plain", "(I)V"⟩, 70)]
theorem lw_r4 : ∀ q ∈ lw_privs_4, lw_okq q := List.forall_mem_cons.mpr ⟨lw_p48, List.forall_mem_cons.mpr ⟨lw_p49, List.forall_mem_cons.mpr ⟨lw_p50, List.forall_mem_cons.mpr ⟨lw_p51, List.forall_mem_cons.mpr ⟨lw_p52, List.forall_mem_cons.mpr ⟨lw_p53, List.forall_mem_cons.mpr ⟨lw_p54, List.forall_mem_cons.mpr ⟨lw_p55, List.forall_mem_cons.mpr ⟨lw_p56, List.forall_mem_cons.mpr ⟨lw_p57, List.forall_mem_cons.mpr ⟨lw_p58, List.forall_mem_cons.mpr ⟨lw_p59, List.forall_mem_cons.mpr ⟨lw_p60, List.forall_mem_cons.mpr ⟨lw_p61, List.forall_mem_cons.mpr ⟨lw_p62, List.forall_mem_cons.mpr ⟨lw_p63, fun _ h => absurd h List.not_mem_nil⟩⟩⟩⟩⟩⟩⟩⟩⟩⟩⟩⟩⟩⟩⟩⟩
theorem lw_p64 : lw_okq (⟨"StoneHomeModel", "begins", "()V"⟩, 70) := ⟨⟨by decide +kernel, by decide +kernel⟩, List.mem_of_getElem? (i := 1312) (by decide +kernel), List.mem_of_getElem? (i := 1329) (by decide +kernel), List.mem_of_getElem? (i := 1330) (by decide +kernel)⟩
theorem lw_p65 : lw_okq (⟨"StoneHomeModel", "keepsRow", "()V"⟩, 70) := ⟨⟨by decide +kernel, by decide +kernel⟩, List.mem_of_getElem? (i := 1312) (by decide +kernel), List.mem_of_getElem? (i := 1333) (by decide +kernel), List.mem_of_getElem? (i := 1334) (by decide +kernel)⟩
theorem lw_p66 : lw_okq (⟨"StoneHomeModel", "put", "(I)V"⟩, 70) := ⟨⟨by decide +kernel, by decide +kernel⟩, List.mem_of_getElem? (i := 1312) (by decide +kernel), List.mem_of_getElem? (i := 1552) (by decide +kernel), List.mem_of_getElem? (i := 1553) (by decide +kernel)⟩
theorem lw_p67 : lw_okq (⟨"StoneHomeModel", "cut", "()V"⟩, 70) := ⟨⟨by decide +kernel, by decide +kernel⟩, List.mem_of_getElem? (i := 1312) (by decide +kernel), List.mem_of_getElem? (i := 1564) (by decide +kernel), List.mem_of_getElem? (i := 1565) (by decide +kernel)⟩
theorem lw_p68 : lw_okq (⟨"StoneHomeModel", "byteAt", "(I)I"⟩, 70) := ⟨⟨by decide +kernel, by decide +kernel⟩, List.mem_of_getElem? (i := 1312) (by decide +kernel), List.mem_of_getElem? (i := 1568) (by decide +kernel), List.mem_of_getElem? (i := 1569) (by decide +kernel)⟩
theorem lw_p69 : lw_okq (⟨"StoneHomeModel", "token", "(IIIJ)V"⟩, 70) := ⟨⟨by decide +kernel, by decide +kernel⟩, List.mem_of_getElem? (i := 1312) (by decide +kernel), List.mem_of_getElem? (i := 1572) (by decide +kernel), List.mem_of_getElem? (i := 1573) (by decide +kernel)⟩
theorem lw_p70 : lw_okq (⟨"StoneHomeModel", "sign", "(III)I"⟩, 70) := ⟨⟨by decide +kernel, by decide +kernel⟩, List.mem_of_getElem? (i := 1312) (by decide +kernel), List.mem_of_getElem? (i := 1582) (by decide +kernel), List.mem_of_getElem? (i := 1583) (by decide +kernel)⟩
theorem lw_p71 : lw_okq (⟨"StoneHomeModel", "is", "(I)Z"⟩, 70) := ⟨⟨by decide +kernel, by decide +kernel⟩, List.mem_of_getElem? (i := 1312) (by decide +kernel), List.mem_of_getElem? (i := 1586) (by decide +kernel), List.mem_of_getElem? (i := 1587) (by decide +kernel)⟩
theorem lw_p72 : lw_okq (⟨"StoneHomeModel", "tellOne", "()V"⟩, 70) := ⟨⟨by decide +kernel, by decide +kernel⟩, List.mem_of_getElem? (i := 1312) (by decide +kernel), List.mem_of_getElem? (i := 1590) (by decide +kernel), List.mem_of_getElem? (i := 1591) (by decide +kernel)⟩
theorem lw_p73 : lw_okq (⟨"StoneHomeModel", "fail", "(I)V"⟩, 70) := ⟨⟨by decide +kernel, by decide +kernel⟩, List.mem_of_getElem? (i := 1312) (by decide +kernel), List.mem_of_getElem? (i := 1594) (by decide +kernel), List.mem_of_getElem? (i := 1595) (by decide +kernel)⟩
theorem lw_p74 : lw_okq (⟨"StoneHomeModel", "tellRow", "()V"⟩, 70) := ⟨⟨by decide +kernel, by decide +kernel⟩, List.mem_of_getElem? (i := 1312) (by decide +kernel), List.mem_of_getElem? (i := 1598) (by decide +kernel), List.mem_of_getElem? (i := 1599) (by decide +kernel)⟩
theorem lw_p75 : lw_okq (⟨"StoneHomeModel", "goesOn", "()V"⟩, 70) := ⟨⟨by decide +kernel, by decide +kernel⟩, List.mem_of_getElem? (i := 1312) (by decide +kernel), List.mem_of_getElem? (i := 1602) (by decide +kernel), List.mem_of_getElem? (i := 1603) (by decide +kernel)⟩
theorem lw_p76 : lw_okq (⟨"StoneHomeModel", "must", "(I)V"⟩, 70) := ⟨⟨by decide +kernel, by decide +kernel⟩, List.mem_of_getElem? (i := 1312) (by decide +kernel), List.mem_of_getElem? (i := 1606) (by decide +kernel), List.mem_of_getElem? (i := 1607) (by decide +kernel)⟩
theorem lw_p77 : lw_okq (⟨"StoneHomeModel", "wrong", "(II)V"⟩, 70) := ⟨⟨by decide +kernel, by decide +kernel⟩, List.mem_of_getElem? (i := 1312) (by decide +kernel), List.mem_of_getElem? (i := 1610) (by decide +kernel), List.mem_of_getElem? (i := 1611) (by decide +kernel)⟩
theorem lw_p78 : lw_okq (⟨"StoneHomeModel", "bounded", "(II)I"⟩, 70) := ⟨⟨by decide +kernel, by decide +kernel⟩, List.mem_of_getElem? (i := 1312) (by decide +kernel), List.mem_of_getElem? (i := 1617) (by decide +kernel), List.mem_of_getElem? (i := 1618) (by decide +kernel)⟩
theorem lw_p79 : lw_okq (⟨"StoneHomeModel", "tellKick", "()V"⟩, 70) := ⟨⟨by decide +kernel, by decide +kernel⟩, List.mem_of_getElem? (i := 1312) (by decide +kernel), List.mem_of_getElem? (i := 1621) (by decide +kernel), List.mem_of_getElem? (i := 1622) (by decide +kernel)⟩
def lw_privs_5 : List (MethodName × Nat) := [(⟨"StoneHomeModel", "begins", "()V"⟩, 70), (⟨"StoneHomeModel", "keepsRow", "()V"⟩, 70), (⟨"StoneHomeModel", "put", "(I)V"⟩, 70), (⟨"StoneHomeModel", "cut", "()V"⟩, 70), (⟨"StoneHomeModel", "byteAt", "(I)I"⟩, 70), (⟨"StoneHomeModel", "token", "(IIIJ)V"⟩, 70), (⟨"StoneHomeModel", "sign", "(III)I"⟩, 70), (⟨"StoneHomeModel", "is", "(I)Z"⟩, 70), (⟨"StoneHomeModel", "tellOne", "()V"⟩, 70), (⟨"StoneHomeModel", "fail", "(I)V"⟩, 70), (⟨"StoneHomeModel", "tellRow", "()V"⟩, 70), (⟨"StoneHomeModel", "goesOn", "()V"⟩, 70), (⟨"StoneHomeModel", "must", "(I)V"⟩, 70), (⟨"StoneHomeModel", "wrong", "(II)V"⟩, 70), (⟨"StoneHomeModel", "bounded", "(II)I"⟩, 70), (⟨"StoneHomeModel", "tellKick", "()V"⟩, 70)]
theorem lw_r5 : ∀ q ∈ lw_privs_5, lw_okq q := List.forall_mem_cons.mpr ⟨lw_p64, List.forall_mem_cons.mpr ⟨lw_p65, List.forall_mem_cons.mpr ⟨lw_p66, List.forall_mem_cons.mpr ⟨lw_p67, List.forall_mem_cons.mpr ⟨lw_p68, List.forall_mem_cons.mpr ⟨lw_p69, List.forall_mem_cons.mpr ⟨lw_p70, List.forall_mem_cons.mpr ⟨lw_p71, List.forall_mem_cons.mpr ⟨lw_p72, List.forall_mem_cons.mpr ⟨lw_p73, List.forall_mem_cons.mpr ⟨lw_p74, List.forall_mem_cons.mpr ⟨lw_p75, List.forall_mem_cons.mpr ⟨lw_p76, List.forall_mem_cons.mpr ⟨lw_p77, List.forall_mem_cons.mpr ⟨lw_p78, List.forall_mem_cons.mpr ⟨lw_p79, fun _ h => absurd h List.not_mem_nil⟩⟩⟩⟩⟩⟩⟩⟩⟩⟩⟩⟩⟩⟩⟩⟩
theorem lw_p80 : lw_okq (⟨"StoneHomeModel", "tellOutcome", "(I)V"⟩, 70) := ⟨⟨by decide +kernel, by decide +kernel⟩, List.mem_of_getElem? (i := 1312) (by decide +kernel), List.mem_of_getElem? (i := 1625) (by decide +kernel), List.mem_of_getElem? (i := 1626) (by decide +kernel)⟩
theorem lw_p81 : lw_okq (⟨"StoneHomeModel", "tellLaw", "(I)V"⟩, 70) := ⟨⟨by decide +kernel, by decide +kernel⟩, List.mem_of_getElem? (i := 1312) (by decide +kernel), List.mem_of_getElem? (i := 1629) (by decide +kernel), List.mem_of_getElem? (i := 1630) (by decide +kernel)⟩
theorem lw_p82 : lw_okq (⟨"StoneHomeModel", "expression", "()V"⟩, 70) := ⟨⟨by decide +kernel, by decide +kernel⟩, List.mem_of_getElem? (i := 1312) (by decide +kernel), List.mem_of_getElem? (i := 1633) (by decide +kernel), List.mem_of_getElem? (i := 1634) (by decide +kernel)⟩
theorem lw_p83 : lw_okq (⟨"StoneHomeModel", "unit", "()V"⟩, 70) := ⟨⟨by decide +kernel, by decide +kernel⟩, List.mem_of_getElem? (i := 1312) (by decide +kernel), List.mem_of_getElem? (i := 1637) (by decide +kernel), List.mem_of_getElem? (i := 1638) (by decide +kernel)⟩
theorem lw_p84 : lw_okq (⟨"StoneHomeModel", "emit", "(II)V"⟩, 70) := ⟨⟨by decide +kernel, by decide +kernel⟩, List.mem_of_getElem? (i := 1312) (by decide +kernel), List.mem_of_getElem? (i := 1641) (by decide +kernel), List.mem_of_getElem? (i := 1642) (by decide +kernel)⟩
theorem lw_p85 : lw_okq (⟨"StoneHomeModel", "comesOut", "(Z)V"⟩, 70) := ⟨⟨by decide +kernel, by decide +kernel⟩, List.mem_of_getElem? (i := 1312) (by decide +kernel), List.mem_of_getElem? (i := 1645) (by decide +kernel), List.mem_of_getElem? (i := 1646) (by decide +kernel)⟩
theorem lw_p86 : lw_okq (⟨"StoneHomeModel", "term", "()V"⟩, 70) := ⟨⟨by decide +kernel, by decide +kernel⟩, List.mem_of_getElem? (i := 1312) (by decide +kernel), List.mem_of_getElem? (i := 1649) (by decide +kernel), List.mem_of_getElem? (i := 1650) (by decide +kernel)⟩
theorem lw_p87 : lw_okq (⟨"StoneHomeModel", "isThere", "([I)Z"⟩, 70) := ⟨⟨by decide +kernel, by decide +kernel⟩, List.mem_of_getElem? (i := 1312) (by decide +kernel), List.mem_of_getElem? (i := 1653) (by decide +kernel), List.mem_of_getElem? (i := 1654) (by decide +kernel)⟩
theorem lw_p88 : lw_okq (⟨"StoneHomeModel", "stateNow", "()I"⟩, 70) := ⟨⟨by decide +kernel, by decide +kernel⟩, List.mem_of_getElem? (i := 1312) (by decide +kernel), List.mem_of_getElem? (i := 1665) (by decide +kernel), List.mem_of_getElem? (i := 1666) (by decide +kernel)⟩
theorem lw_p89 : lw_okq (⟨"StoneHomeModel", "isHome", "(I)Z"⟩, 70) := ⟨⟨by decide +kernel, by decide +kernel⟩, List.mem_of_getElem? (i := 1312) (by decide +kernel), List.mem_of_getElem? (i := 1672) (by decide +kernel), List.mem_of_getElem? (i := 1673) (by decide +kernel)⟩
theorem lw_p90 : lw_okq (⟨"StoneHomeModel", "sortOf", "(I)I"⟩, 70) := ⟨⟨by decide +kernel, by decide +kernel⟩, List.mem_of_getElem? (i := 1312) (by decide +kernel), List.mem_of_getElem? (i := 1676) (by decide +kernel), List.mem_of_getElem? (i := 1677) (by decide +kernel)⟩
theorem lw_p91 : lw_okq (⟨"StoneHomeModel", "sortAt", "(II)I"⟩, 70) := ⟨⟨by decide +kernel, by decide +kernel⟩, List.mem_of_getElem? (i := 1312) (by decide +kernel), List.mem_of_getElem? (i := 1686) (by decide +kernel), List.mem_of_getElem? (i := 1687) (by decide +kernel)⟩
theorem lw_p92 : lw_okq (⟨"StoneHomeModel", "isPlace", "(II)Z"⟩, 70) := ⟨⟨by decide +kernel, by decide +kernel⟩, List.mem_of_getElem? (i := 1312) (by decide +kernel), List.mem_of_getElem? (i := 1694) (by decide +kernel), List.mem_of_getElem? (i := 1695) (by decide +kernel)⟩
theorem lw_p93 : lw_okq (⟨"StoneHomeModel", "isBarred", "(III)Z"⟩, 70) := ⟨⟨by decide +kernel, by decide +kernel⟩, List.mem_of_getElem? (i := 1312) (by decide +kernel), List.mem_of_getElem? (i := 1705) (by decide +kernel), List.mem_of_getElem? (i := 1706) (by decide +kernel)⟩
theorem lw_p94 : lw_okq (⟨"StoneHomeModel", "asks", "(I)I"⟩, 70) := ⟨⟨by decide +kernel, by decide +kernel⟩, List.mem_of_getElem? (i := 1312) (by decide +kernel), List.mem_of_getElem? (i := 1709) (by decide +kernel), List.mem_of_getElem? (i := 1710) (by decide +kernel)⟩
theorem lw_p95 : lw_okq (⟨"StoneHomeModel", "termOf", "(II)I"⟩, 70) := ⟨⟨by decide +kernel, by decide +kernel⟩, List.mem_of_getElem? (i := 1312) (by decide +kernel), List.mem_of_getElem? (i := 1713) (by decide +kernel), List.mem_of_getElem? (i := 1714) (by decide +kernel)⟩
def lw_privs_6 : List (MethodName × Nat) := [(⟨"StoneHomeModel", "tellOutcome", "(I)V"⟩, 70), (⟨"StoneHomeModel", "tellLaw", "(I)V"⟩, 70), (⟨"StoneHomeModel", "expression", "()V"⟩, 70), (⟨"StoneHomeModel", "unit", "()V"⟩, 70), (⟨"StoneHomeModel", "emit", "(II)V"⟩, 70), (⟨"StoneHomeModel", "comesOut", "(Z)V"⟩, 70), (⟨"StoneHomeModel", "term", "()V"⟩, 70), (⟨"StoneHomeModel", "isThere", "([I)Z"⟩, 70), (⟨"StoneHomeModel", "stateNow", "()I"⟩, 70), (⟨"StoneHomeModel", "isHome", "(I)Z"⟩, 70), (⟨"StoneHomeModel", "sortOf", "(I)I"⟩, 70), (⟨"StoneHomeModel", "sortAt", "(II)I"⟩, 70), (⟨"StoneHomeModel", "isPlace", "(II)Z"⟩, 70), (⟨"StoneHomeModel", "isBarred", "(III)Z"⟩, 70), (⟨"StoneHomeModel", "asks", "(I)I"⟩, 70), (⟨"StoneHomeModel", "termOf", "(II)I"⟩, 70)]
theorem lw_r6 : ∀ q ∈ lw_privs_6, lw_okq q := List.forall_mem_cons.mpr ⟨lw_p80, List.forall_mem_cons.mpr ⟨lw_p81, List.forall_mem_cons.mpr ⟨lw_p82, List.forall_mem_cons.mpr ⟨lw_p83, List.forall_mem_cons.mpr ⟨lw_p84, List.forall_mem_cons.mpr ⟨lw_p85, List.forall_mem_cons.mpr ⟨lw_p86, List.forall_mem_cons.mpr ⟨lw_p87, List.forall_mem_cons.mpr ⟨lw_p88, List.forall_mem_cons.mpr ⟨lw_p89, List.forall_mem_cons.mpr ⟨lw_p90, List.forall_mem_cons.mpr ⟨lw_p91, List.forall_mem_cons.mpr ⟨lw_p92, List.forall_mem_cons.mpr ⟨lw_p93, List.forall_mem_cons.mpr ⟨lw_p94, List.forall_mem_cons.mpr ⟨lw_p95, fun _ h => absurd h List.not_mem_nil⟩⟩⟩⟩⟩⟩⟩⟩⟩⟩⟩⟩⟩⟩⟩⟩
theorem lw_p96 : lw_okq (⟨"StoneHomeModel", "isOver", "()Z"⟩, 70) := ⟨⟨by decide +kernel, by decide +kernel⟩, List.mem_of_getElem? (i := 1312) (by decide +kernel), List.mem_of_getElem? (i := 1721) (by decide +kernel), List.mem_of_getElem? (i := 1722) (by decide +kernel)⟩
theorem lw_p97 : lw_okq (⟨"StoneHomeModel", "canKick", "(II)Z"⟩, 70) := ⟨⟨by decide +kernel, by decide +kernel⟩, List.mem_of_getElem? (i := 1312) (by decide +kernel), List.mem_of_getElem? (i := 1725) (by decide +kernel), List.mem_of_getElem? (i := 1726) (by decide +kernel)⟩
theorem lw_p98 : lw_okq (⟨"StoneHomeModel", "brought", "(IIII)I"⟩, 70) := ⟨⟨by decide +kernel, by decide +kernel⟩, List.mem_of_getElem? (i := 1312) (by decide +kernel), List.mem_of_getElem? (i := 1733) (by decide +kernel), List.mem_of_getElem? (i := 1734) (by decide +kernel)⟩
theorem lw_p99 : lw_okq (⟨"StoneHomeModel", "comesTo", "(IZ)I"⟩, 70) := ⟨⟨by decide +kernel, by decide +kernel⟩, List.mem_of_getElem? (i := 1312) (by decide +kernel), List.mem_of_getElem? (i := 1746) (by decide +kernel), List.mem_of_getElem? (i := 1747) (by decide +kernel)⟩
theorem lw_p100 : lw_okq (⟨"StoneHomeModel", "copies", "()V"⟩, 70) := ⟨⟨by decide +kernel, by decide +kernel⟩, List.mem_of_getElem? (i := 1312) (by decide +kernel), List.mem_of_getElem? (i := 1750) (by decide +kernel), List.mem_of_getElem? (i := 1751) (by decide +kernel)⟩
theorem lw_p101 : lw_okq (⟨"StoneHomeModel", "keeps", "()V"⟩, 70) := ⟨⟨by decide +kernel, by decide +kernel⟩, List.mem_of_getElem? (i := 1312) (by decide +kernel), List.mem_of_getElem? (i := 1754) (by decide +kernel), List.mem_of_getElem? (i := 1755) (by decide +kernel)⟩
theorem lw_p102 : lw_okq (⟨"StoneHomeModel", "waited", "(II)I"⟩, 70) := ⟨⟨by decide +kernel, by decide +kernel⟩, List.mem_of_getElem? (i := 1312) (by decide +kernel), List.mem_of_getElem? (i := 1762) (by decide +kernel), List.mem_of_getElem? (i := 1763) (by decide +kernel)⟩
theorem lw_p103 : lw_okq (⟨"StoneHomeModel", "touched", "(II)I"⟩, 70) := ⟨⟨by decide +kernel, by decide +kernel⟩, List.mem_of_getElem? (i := 1312) (by decide +kernel), List.mem_of_getElem? (i := 1770) (by decide +kernel), List.mem_of_getElem? (i := 1771) (by decide +kernel)⟩
theorem lw_p104 : lw_okq (⟨"StoneHomeModel", "fills", "(I)V"⟩, 70) := ⟨⟨by decide +kernel, by decide +kernel⟩, List.mem_of_getElem? (i := 1312) (by decide +kernel), List.mem_of_getElem? (i := 1793) (by decide +kernel), List.mem_of_getElem? (i := 1794) (by decide +kernel)⟩
theorem lw_p105 : lw_okq (⟨"StoneHomeModel", "fillsFrom", "(IIII)V"⟩, 70) := ⟨⟨by decide +kernel, by decide +kernel⟩, List.mem_of_getElem? (i := 1312) (by decide +kernel), List.mem_of_getElem? (i := 1797) (by decide +kernel), List.mem_of_getElem? (i := 1798) (by decide +kernel)⟩
theorem lw_p106 : lw_okq (⟨"StoneHomeModel", "isSquare", "(I)Z"⟩, 70) := ⟨⟨by decide +kernel, by decide +kernel⟩, List.mem_of_getElem? (i := 1312) (by decide +kernel), List.mem_of_getElem? (i := 1801) (by decide +kernel), List.mem_of_getElem? (i := 1802) (by decide +kernel)⟩
theorem lw_p107 : lw_okq (⟨"StoneHomeModel", "earlier", "(III)V"⟩, 70) := ⟨⟨by decide +kernel, by decide +kernel⟩, List.mem_of_getElem? (i := 1312) (by decide +kernel), List.mem_of_getElem? (i := 1808) (by decide +kernel), List.mem_of_getElem? (i := 1809) (by decide +kernel)⟩
theorem lw_p108 : lw_okq (⟨"StoneHomeModel", "bestOf", "(II)I"⟩, 70) := ⟨⟨by decide +kernel, by decide +kernel⟩, List.mem_of_getElem? (i := 1312) (by decide +kernel), List.mem_of_getElem? (i := 1812) (by decide +kernel), List.mem_of_getElem? (i := 1813) (by decide +kernel)⟩
theorem lw_p109 : lw_okq (⟨"StoneHomeModel", "valueOf", "(III)I"⟩, 70) := ⟨⟨by decide +kernel, by decide +kernel⟩, List.mem_of_getElem? (i := 1312) (by decide +kernel), List.mem_of_getElem? (i := 1816) (by decide +kernel), List.mem_of_getElem? (i := 1817) (by decide +kernel)⟩
theorem lw_p110 : lw_okq (⟨"StoneHomeModel", "isRule", "(II)Z"⟩, 70) := ⟨⟨by decide +kernel, by decide +kernel⟩, List.mem_of_getElem? (i := 1312) (by decide +kernel), List.mem_of_getElem? (i := 1843) (by decide +kernel), List.mem_of_getElem? (i := 1844) (by decide +kernel)⟩
theorem lw_p111 : lw_okq (⟨"StoneHomeModel", "spreads", "(II)V"⟩, 70) := ⟨⟨by decide +kernel, by decide +kernel⟩, List.mem_of_getElem? (i := 1312) (by decide +kernel), List.mem_of_getElem? (i := 1851) (by decide +kernel), List.mem_of_getElem? (i := 1852) (by decide +kernel)⟩
def lw_privs_7 : List (MethodName × Nat) := [(⟨"StoneHomeModel", "isOver", "()Z"⟩, 70), (⟨"StoneHomeModel", "canKick", "(II)Z"⟩, 70), (⟨"StoneHomeModel", "brought", "(IIII)I"⟩, 70), (⟨"StoneHomeModel", "comesTo", "(IZ)I"⟩, 70), (⟨"StoneHomeModel", "copies", "()V"⟩, 70), (⟨"StoneHomeModel", "keeps", "()V"⟩, 70), (⟨"StoneHomeModel", "waited", "(II)I"⟩, 70), (⟨"StoneHomeModel", "touched", "(II)I"⟩, 70), (⟨"StoneHomeModel", "fills", "(I)V"⟩, 70), (⟨"StoneHomeModel", "fillsFrom", "(IIII)V"⟩, 70), (⟨"StoneHomeModel", "isSquare", "(I)Z"⟩, 70), (⟨"StoneHomeModel", "earlier", "(III)V"⟩, 70), (⟨"StoneHomeModel", "bestOf", "(II)I"⟩, 70), (⟨"StoneHomeModel", "valueOf", "(III)I"⟩, 70), (⟨"StoneHomeModel", "isRule", "(II)Z"⟩, 70), (⟨"StoneHomeModel", "spreads", "(II)V"⟩, 70)]
theorem lw_r7 : ∀ q ∈ lw_privs_7, lw_okq q := List.forall_mem_cons.mpr ⟨lw_p96, List.forall_mem_cons.mpr ⟨lw_p97, List.forall_mem_cons.mpr ⟨lw_p98, List.forall_mem_cons.mpr ⟨lw_p99, List.forall_mem_cons.mpr ⟨lw_p100, List.forall_mem_cons.mpr ⟨lw_p101, List.forall_mem_cons.mpr ⟨lw_p102, List.forall_mem_cons.mpr ⟨lw_p103, List.forall_mem_cons.mpr ⟨lw_p104, List.forall_mem_cons.mpr ⟨lw_p105, List.forall_mem_cons.mpr ⟨lw_p106, List.forall_mem_cons.mpr ⟨lw_p107, List.forall_mem_cons.mpr ⟨lw_p108, List.forall_mem_cons.mpr ⟨lw_p109, List.forall_mem_cons.mpr ⟨lw_p110, List.forall_mem_cons.mpr ⟨lw_p111, fun _ h => absurd h List.not_mem_nil⟩⟩⟩⟩⟩⟩⟩⟩⟩⟩⟩⟩⟩⟩⟩⟩
theorem lw_p112 : lw_okq (⟨"StoneHomeModel", "spreadsOne", "(III)V"⟩, 70) := ⟨⟨by decide +kernel, by decide +kernel⟩, List.mem_of_getElem? (i := 1312) (by decide +kernel), List.mem_of_getElem? (i := 1855) (by decide +kernel), List.mem_of_getElem? (i := 1856) (by decide +kernel)⟩
theorem lw_p113 : lw_okq (⟨"StoneHomeModel", "fillsCameTo", "(I)V"⟩, 70) := ⟨⟨by decide +kernel, by decide +kernel⟩, List.mem_of_getElem? (i := 1312) (by decide +kernel), List.mem_of_getElem? (i := 1887) (by decide +kernel), List.mem_of_getElem? (i := 1888) (by decide +kernel)⟩
theorem lw_p114 : lw_okq (⟨"StoneHomeModel", "isLone", "(I)Z"⟩, 70) := ⟨⟨by decide +kernel, by decide +kernel⟩, List.mem_of_getElem? (i := 1312) (by decide +kernel), List.mem_of_getElem? (i := 1891) (by decide +kernel), List.mem_of_getElem? (i := 1892) (by decide +kernel)⟩
theorem lw_p115 : lw_okq (⟨"StoneHomeModel", "pairOf", "(IIZI)I"⟩, 70) := ⟨⟨by decide +kernel, by decide +kernel⟩, List.mem_of_getElem? (i := 1312) (by decide +kernel), List.mem_of_getElem? (i := 1895) (by decide +kernel), List.mem_of_getElem? (i := 1896) (by decide +kernel)⟩
theorem lw_p116 : lw_okq (⟨"StoneHomeModel", "pairBy", "(IIZI)I"⟩, 70) := ⟨⟨by decide +kernel, by decide +kernel⟩, List.mem_of_getElem? (i := 1312) (by decide +kernel), List.mem_of_getElem? (i := 1899) (by decide +kernel), List.mem_of_getElem? (i := 1900) (by decide +kernel)⟩
theorem lw_p117 : lw_okq (⟨"StoneHomeModel", "fitting", "(II)I"⟩, 70) := ⟨⟨by decide +kernel, by decide +kernel⟩, List.mem_of_getElem? (i := 1312) (by decide +kernel), List.mem_of_getElem? (i := 1915) (by decide +kernel), List.mem_of_getElem? (i := 1916) (by decide +kernel)⟩
theorem lw_p118 : lw_okq (⟨"StoneHomeModel", "oftenBy", "(II)I"⟩, 70) := ⟨⟨by decide +kernel, by decide +kernel⟩, List.mem_of_getElem? (i := 1312) (by decide +kernel), List.mem_of_getElem? (i := 1919) (by decide +kernel), List.mem_of_getElem? (i := 1920) (by decide +kernel)⟩
theorem lw_p119 : lw_okq (⟨"StoneHomeModel", "scratches", "(II)V"⟩, 70) := ⟨⟨by decide +kernel, by decide +kernel⟩, List.mem_of_getElem? (i := 1312) (by decide +kernel), List.mem_of_getElem? (i := 1923) (by decide +kernel), List.mem_of_getElem? (i := 1924) (by decide +kernel)⟩
def lw_privs_8 : List (MethodName × Nat) := [(⟨"StoneHomeModel", "spreadsOne", "(III)V"⟩, 70), (⟨"StoneHomeModel", "fillsCameTo", "(I)V"⟩, 70), (⟨"StoneHomeModel", "isLone", "(I)Z"⟩, 70), (⟨"StoneHomeModel", "pairOf", "(IIZI)I"⟩, 70), (⟨"StoneHomeModel", "pairBy", "(IIZI)I"⟩, 70), (⟨"StoneHomeModel", "fitting", "(II)I"⟩, 70), (⟨"StoneHomeModel", "oftenBy", "(II)I"⟩, 70), (⟨"StoneHomeModel", "scratches", "(II)V"⟩, 70)]
theorem lw_r8 : ∀ q ∈ lw_privs_8, lw_okq q := List.forall_mem_cons.mpr ⟨lw_p112, List.forall_mem_cons.mpr ⟨lw_p113, List.forall_mem_cons.mpr ⟨lw_p114, List.forall_mem_cons.mpr ⟨lw_p115, List.forall_mem_cons.mpr ⟨lw_p116, List.forall_mem_cons.mpr ⟨lw_p117, List.forall_mem_cons.mpr ⟨lw_p118, List.forall_mem_cons.mpr ⟨lw_p119, fun _ h => absurd h List.not_mem_nil⟩⟩⟩⟩⟩⟩⟩⟩
def lw_privs : List (MethodName × Nat) := lw_privs_1 ++ (lw_privs_2 ++ (lw_privs_3 ++ (lw_privs_4 ++ (lw_privs_5 ++ (lw_privs_6 ++ (lw_privs_7 ++ (lw_privs_8)))))))
def lw_tbl : List Cond := k2_sels lw_privs ++ tables_1
theorem lw_privs_ok : ∀ q ∈ lw_privs, lw_okq q := by
  show ∀ q ∈ lw_privs_1 ++ (lw_privs_2 ++ (lw_privs_3 ++ (lw_privs_4 ++ (lw_privs_5 ++ (lw_privs_6 ++ (lw_privs_7 ++ (lw_privs_8))))))), lw_okq q
  exact List.forall_mem_append.mpr ⟨lw_r1, List.forall_mem_append.mpr ⟨lw_r2, List.forall_mem_append.mpr ⟨lw_r3, List.forall_mem_append.mpr ⟨lw_r4, List.forall_mem_append.mpr ⟨lw_r5, List.forall_mem_append.mpr ⟨lw_r6, List.forall_mem_append.mpr ⟨lw_r7, lw_r8⟩⟩⟩⟩⟩⟩⟩
-- ===== end of PART A; then your names; then what follows =====
end
section
def RX0 : String := "StoneHome$Forecast"
def TX0 : u_T := fun k => match k with
  | 0 => ("StoneHome$Forecast", "table", "LStoneHome$Table;", true)
  | 1 => ("StoneHome$Forecast", "street", "LStoneHome$Street;", false)
  | 2 => ("StoneHome$Forecast", "chances", "[I", false)
  | 3 => ("StoneHome$Forecast", "later", "[I", false)
  | 4 => ("StoneHome$Forecast", "isReady", "Z", false)
  | 5 => ("StoneHome$Forecast", "readyStep", "I", false)
  | 6 => ("StoneHome$Forecast", "readySteps", "I", false)
  | 7 => ("StoneHome$Forecast", "readyRule", "I", false)
  | _ => ("StoneHome$Forecast", "readyGoal", "I", false)
def tyX0 : Nat → FieldType := fun k => match k with
  | 0 => .object "StoneHome$Table"
  | 1 => .object "StoneHome$Street"
  | 2 => .array .int
  | 3 => .array .int
  | 4 => .boolean
  | 5 => .int
  | 6 => .int
  | 7 => .int
  | _ => .int
abbrev wsX00 : List Cond := u_ws RX0 TX0 9
theorem nmX0 : ∀ a, a < 9 → ∀ b, b < 9 → a ≠ b → (TX0 a).2.1 ≠ (TX0 b).2.1 := by decide +kernel
theorem tyX0_ok : ∀ k, k < 9 → parseFieldDescriptor (TX0 k).2.2.1 = some (tyX0 k) := by decide +kernel
def RX1 : String := "StoneHome$Laws"
def TX1 : u_T := fun k => match k with
  | 0 => ("StoneHome$Laws", "steps", "[I", true)
  | 1 => ("StoneHome$Laws", "size", "I", false)
  | 2 => ("StoneHome$Laws", "starts", "[I", true)
  | 3 => ("StoneHome$Laws", "timed", "I", false)
  | 4 => ("StoneHome$Laws", "waiting", "[I", true)
  | 5 => ("StoneHome$Laws", "waitingSize", "I", false)
  | 6 => ("StoneHome$Laws", "facts", "[I", true)
  | _ => ("StoneHome$Laws", "stack", "[I", true)
def tyX1 : Nat → FieldType := fun k => match k with
  | 0 => .array .int
  | 1 => .int
  | 2 => .array .int
  | 3 => .int
  | 4 => .array .int
  | 5 => .int
  | 6 => .array .int
  | _ => .array .int
abbrev wsX10 : List Cond := u_ws RX1 TX1 8
theorem nmX1 : ∀ a, a < 8 → ∀ b, b < 8 → a ≠ b → (TX1 a).2.1 ≠ (TX1 b).2.1 := by decide +kernel
theorem tyX1_ok : ∀ k, k < 8 → parseFieldDescriptor (TX1 k).2.2.1 = some (tyX1 k) := by decide +kernel
def RX2 : String := "StoneHome$Past"
def TX2 : u_T := fun k => match k with
  | 0 => ("StoneHome$Past", "ring", "[LStoneHome$Stone;", true)
  | 1 => ("StoneHome$Past", "next", "I", false)
  | _ => ("StoneHome$Past", "size", "I", false)
def tyX2 : Nat → FieldType := fun k => match k with
  | 0 => .array (.object "StoneHome$Stone")
  | 1 => .int
  | _ => .int
abbrev wsX20 : List Cond := u_ws RX2 TX2 3
theorem nmX2 : ∀ a, a < 3 → ∀ b, b < 3 → a ≠ b → (TX2 a).2.1 ≠ (TX2 b).2.1 := by decide +kernel
theorem tyX2_ok : ∀ k, k < 3 → parseFieldDescriptor (TX2 k).2.2.1 = some (tyX2 k) := by decide +kernel
def RX3 : String := "StoneHome$Race"
def TX3 : u_T := fun k => match k with
  | 0 => ("StoneHome$Race", "table", "LStoneHome$Table;", true)
  | 1 => ("StoneHome$Race", "street", "LStoneHome$Street;", false)
  | 2 => ("StoneHome$Race", "odds", "[I", true)
  | 3 => ("StoneHome$Race", "line", "[I", true)
  | 4 => ("StoneHome$Race", "mySoonest", "[I", true)
  | _ => ("StoneHome$Race", "hisSoonest", "[I", true)
def tyX3 : Nat → FieldType := fun k => match k with
  | 0 => .object "StoneHome$Table"
  | 1 => .object "StoneHome$Street"
  | 2 => .array .int
  | 3 => .array .int
  | 4 => .array .int
  | _ => .array .int
abbrev wsX30 : List Cond := u_ws RX3 TX3 6
theorem nmX3 : ∀ a, a < 6 → ∀ b, b < 6 → a ≠ b → (TX3 a).2.1 ≠ (TX3 b).2.1 := by decide +kernel
theorem tyX3_ok : ∀ k, k < 6 → parseFieldDescriptor (TX3 k).2.2.1 = some (tyX3 k) := by decide +kernel
def RX4 : String := "StoneHome$Reader"
def TX4 : u_T := fun k => match k with
  | 0 => ("StoneHome$Reader", "tokens", "LStoneHome$Tokens;", true)
  | 1 => ("StoneHome$Reader", "street", "LStoneHome$Street;", false)
  | 2 => ("StoneHome$Reader", "taken", "I", false)
  | 3 => ("StoneHome$Reader", "kind", "I", false)
  | 4 => ("StoneHome$Reader", "from", "I", false)
  | 5 => ("StoneHome$Reader", "number", "I", false)
  | 6 => ("StoneHome$Reader", "law", "I", false)
  | 7 => ("StoneHome$Reader", "kickNames", "[J", true)
  | 8 => ("StoneHome$Reader", "fault", "I", false)
  | 9 => ("StoneHome$Reader", "faultAt", "I", false)
  | 10 => ("StoneHome$Reader", "lateFault", "I", false)
  | _ => ("StoneHome$Reader", "lateAt", "I", false)
def tyX4 : Nat → FieldType := fun k => match k with
  | 0 => .object "StoneHome$Tokens"
  | 1 => .object "StoneHome$Street"
  | 2 => .int
  | 3 => .int
  | 4 => .int
  | 5 => .int
  | 6 => .int
  | 7 => .array .long
  | 8 => .int
  | 9 => .int
  | 10 => .int
  | _ => .int
abbrev wsX40 : List Cond := u_ws RX4 TX4 12
theorem nmX4 : ∀ a, a < 12 → ∀ b, b < 12 → a ≠ b → (TX4 a).2.1 ≠ (TX4 b).2.1 := by decide +kernel
theorem tyX4_ok : ∀ k, k < 12 → parseFieldDescriptor (TX4 k).2.2.1 = some (tyX4 k) := by decide +kernel
def RX5 : String := "StoneHome$Scratches"
def TX5 : u_T := fun k => match k with
  | 0 => ("StoneHome$Scratches", "squares", "[I", true)
  | 1 => ("StoneHome$Scratches", "told", "I", false)
  | 2 => ("StoneHome$Scratches", "ways", "[I", true)
  | 3 => ("StoneHome$Scratches", "kicks", "I", false)
  | 4 => ("StoneHome$Scratches", "startSide", "I", false)
  | 5 => ("StoneHome$Scratches", "sides", "[I", true)
  | _ => ("StoneHome$Scratches", "sidesBehind", "[I", true)
def tyX5 : Nat → FieldType := fun k => match k with
  | 0 => .array .int
  | 1 => .int
  | 2 => .array .int
  | 3 => .int
  | 4 => .int
  | 5 => .array .int
  | _ => .array .int
abbrev wsX50 : List Cond := u_ws RX5 TX5 7
theorem nmX5 : ∀ a, a < 7 → ∀ b, b < 7 → a ≠ b → (TX5 a).2.1 ≠ (TX5 b).2.1 := by decide +kernel
theorem tyX5_ok : ∀ k, k < 7 → parseFieldDescriptor (TX5 k).2.2.1 = some (tyX5 k) := by decide +kernel
def RX6 : String := "StoneHome$Stone"
def TX6 : u_T := fun k => match k with
  | 0 => ("StoneHome$Stone", "square", "I", false)
  | 1 => ("StoneHome$Stone", "side", "I", false)
  | 2 => ("StoneHome$Stone", "lives", "I", false)
  | 3 => ("StoneHome$Stone", "livesLost", "I", false)
  | 4 => ("StoneHome$Stone", "done", "I", false)
  | 5 => ("StoneHome$Stone", "touches", "I", false)
  | 6 => ("StoneHome$Stone", "state", "I", false)
  | _ => ("StoneHome$Stone", "isHeld", "Z", false)
def tyX6 : Nat → FieldType := fun k => match k with
  | 0 => .int
  | 1 => .int
  | 2 => .int
  | 3 => .int
  | 4 => .int
  | 5 => .int
  | 6 => .int
  | _ => .boolean
abbrev wsX60 : List Cond := u_ws RX6 TX6 8
theorem nmX6 : ∀ a, a < 8 → ∀ b, b < 8 → a ≠ b → (TX6 a).2.1 ≠ (TX6 b).2.1 := by decide +kernel
theorem tyX6_ok : ∀ k, k < 8 → parseFieldDescriptor (TX6 k).2.2.1 = some (tyX6 k) := by decide +kernel
def RX7 : String := "StoneHome$Street"
def TX7 : u_T := fun k => match k with
  | 0 => ("StoneHome$Street", "length", "I", false)
  | 1 => ("StoneHome$Street", "rows", "I", false)
  | 2 => ("StoneHome$Street", "sorts", "[I", true)
  | 3 => ("StoneHome$Street", "faces", "I", false)
  | 4 => ("StoneHome$Street", "kicks", "I", false)
  | 5 => ("StoneHome$Street", "outcomes", "[I", true)
  | 6 => ("StoneHome$Street", "sixths", "[I", true)
  | 7 => ("StoneHome$Street", "far", "[I", true)
  | 8 => ("StoneHome$Street", "aside", "[I", true)
  | 9 => ("StoneHome$Street", "turns", "[I", true)
  | 10 => ("StoneHome$Street", "laws", "LStoneHome$Laws;", true)
  | 11 => ("StoneHome$Street", "stoneSpot", "[I", true)
  | 12 => ("StoneHome$Street", "friendSpot", "[I", true)
  | 13 => ("StoneHome$Street", "lives", "I", false)
  | 14 => ("StoneHome$Street", "takes", "I", false)
  | _ => ("StoneHome$Street", "seed", "I", false)
def tyX7 : Nat → FieldType := fun k => match k with
  | 0 => .int
  | 1 => .int
  | 2 => .array .int
  | 3 => .int
  | 4 => .int
  | 5 => .array .int
  | 6 => .array .int
  | 7 => .array .int
  | 8 => .array .int
  | 9 => .array .int
  | 10 => .object "StoneHome$Laws"
  | 11 => .array .int
  | 12 => .array .int
  | 13 => .int
  | 14 => .int
  | _ => .int
abbrev wsX70 : List Cond := u_ws RX7 TX7 16
theorem nmX7 : ∀ a, a < 16 → ∀ b, b < 16 → a ≠ b → (TX7 a).2.1 ≠ (TX7 b).2.1 := by decide +kernel
theorem tyX7_ok : ∀ k, k < 16 → parseFieldDescriptor (TX7 k).2.2.1 = some (tyX7 k) := by decide +kernel
def RX8 : String := "StoneHome$Table"
def TX8 : u_T := fun k => match k with
  | 0 => ("StoneHome$Table", "street", "LStoneHome$Street;", false)
  | 1 => ("StoneHome$Table", "rows", "[[I", true)
  | 2 => ("StoneHome$Table", "steps", "[I", true)
  | 3 => ("StoneHome$Table", "landings", "[I", false)
  | 4 => ("StoneHome$Table", "lies", "[I", true)
  | 5 => ("StoneHome$Table", "openLies", "I", false)
  | _ => ("StoneHome$Table", "allLies", "I", false)
def tyX8 : Nat → FieldType := fun k => match k with
  | 0 => .object "StoneHome$Street"
  | 1 => .array (.array .int)
  | 2 => .array .int
  | 3 => .array .int
  | 4 => .array .int
  | 5 => .int
  | _ => .int
abbrev wsX80 : List Cond := u_ws RX8 TX8 7
theorem nmX8 : ∀ a, a < 7 → ∀ b, b < 7 → a ≠ b → (TX8 a).2.1 ≠ (TX8 b).2.1 := by decide +kernel
theorem tyX8_ok : ∀ k, k < 7 → parseFieldDescriptor (TX8 k).2.2.1 = some (tyX8 k) := by decide +kernel
def RX9 : String := "StoneHome$Tokens"
def TX9 : u_T := fun k => match k with
  | 0 => ("StoneHome$Tokens", "kinds", "[I", true)
  | 1 => ("StoneHome$Tokens", "places", "[I", true)
  | 2 => ("StoneHome$Tokens", "numbers", "[I", true)
  | 3 => ("StoneHome$Tokens", "text", "[B", true)
  | 4 => ("StoneHome$Tokens", "size", "I", false)
  | 5 => ("StoneHome$Tokens", "at", "I", false)
  | 6 => ("StoneHome$Tokens", "kind", "I", false)
  | _ => ("StoneHome$Tokens", "number", "I", false)
def tyX9 : Nat → FieldType := fun k => match k with
  | 0 => .array .int
  | 1 => .array .int
  | 2 => .array .int
  | 3 => .array .byte
  | 4 => .int
  | 5 => .int
  | 6 => .int
  | _ => .int
abbrev wsX90 : List Cond := u_ws RX9 TX9 8
theorem nmX9 : ∀ a, a < 8 → ∀ b, b < 8 → a ≠ b → (TX9 a).2.1 ≠ (TX9 b).2.1 := by decide +kernel
theorem tyX9_ok : ∀ k, k < 8 → parseFieldDescriptor (TX9 k).2.2.1 = some (tyX9 k) := by decide +kernel
def RX10 : String := "StoneHome"
def TX10 : u_T := fun k => match k with
  | 0 => ("StoneHome", "tape", "[B", true)
  | 1 => ("StoneHome", "tapeSize", "I", false)
  | 2 => ("StoneHome", "faultPlace", "I", false)
  | 3 => ("StoneHome", "street", "LStoneHome$Street;", false)
  | 4 => ("StoneHome", "spare", "LStoneHome$Street;", false)
  | 5 => ("StoneHome", "reader", "LStoneHome$Reader;", true)
  | 6 => ("StoneHome", "stone", "LStoneHome$Stone;", true)
  | 7 => ("StoneHome", "past", "LStoneHome$Past;", true)
  | 8 => ("StoneHome", "slots", "[LStoneHome$Stone;", true)
  | 9 => ("StoneHome", "table", "LStoneHome$Table;", true)
  | 10 => ("StoneHome", "forecast", "LStoneHome$Forecast;", true)
  | 11 => ("StoneHome", "race", "LStoneHome$Race;", true)
  | _ => ("StoneHome", "scratches", "LStoneHome$Scratches;", true)
def tyX10 : Nat → FieldType := fun k => match k with
  | 0 => .array .byte
  | 1 => .int
  | 2 => .int
  | 3 => .object "StoneHome$Street"
  | 4 => .object "StoneHome$Street"
  | 5 => .object "StoneHome$Reader"
  | 6 => .object "StoneHome$Stone"
  | 7 => .object "StoneHome$Past"
  | 8 => .array (.object "StoneHome$Stone")
  | 9 => .object "StoneHome$Table"
  | 10 => .object "StoneHome$Forecast"
  | 11 => .object "StoneHome$Race"
  | _ => .object "StoneHome$Scratches"
abbrev wsX100 : List Cond := u_ws RX10 TX10 13
theorem nmX10 : ∀ a, a < 13 → ∀ b, b < 13 → a ≠ b → (TX10 a).2.1 ≠ (TX10 b).2.1 := by decide +kernel
theorem tyX10_ok : ∀ k, k < 13 → parseFieldDescriptor (TX10 k).2.2.1 = some (tyX10 k) := by decide +kernel
def RX11 : String := "StoneHomeModel"
def TX11 : u_T := fun k => match k with
  | 0 => ("StoneHomeModel", "thrown", "I", false)
  | 1 => ("StoneHomeModel", "tape", "[B", true)
  | 2 => ("StoneHomeModel", "taped", "I", false)
  | 3 => ("StoneHomeModel", "text", "[B", true)
  | 4 => ("StoneHomeModel", "size", "I", false)
  | 5 => ("StoneHomeModel", "tKind", "[I", true)
  | 6 => ("StoneHomeModel", "tPlace", "[I", true)
  | 7 => ("StoneHomeModel", "tValue", "[I", true)
  | 8 => ("StoneHomeModel", "tName", "[J", true)
  | 9 => ("StoneHomeModel", "keys", "[J", true)
  | 10 => ("StoneHomeModel", "tokens", "I", false)
  | 11 => ("StoneHomeModel", "t", "I", false)
  | 12 => ("StoneHomeModel", "open", "I", false)
  | 13 => ("StoneHomeModel", "fault", "I", false)
  | 14 => ("StoneHomeModel", "faultPlace", "I", false)
  | 15 => ("StoneHomeModel", "worst", "I", false)
  | 16 => ("StoneHomeModel", "worstPlace", "I", false)
  | 17 => ("StoneHomeModel", "place", "I", false)
  | 18 => ("StoneHomeModel", "live", "I", false)
  | 19 => ("StoneHomeModel", "side", "I", false)
  | 20 => ("StoneHomeModel", "names", "I", false)
  | 21 => ("StoneHomeModel", "nameOf", "[J", true)
  | 22 => ("StoneHomeModel", "rows", "[I", true)
  | 23 => ("StoneHomeModel", "wide", "[I", true)
  | 24 => ("StoneHomeModel", "squareOf", "[I", true)
  | 25 => ("StoneHomeModel", "faces", "[I", true)
  | 26 => ("StoneHomeModel", "kicks", "[I", true)
  | 27 => ("StoneHomeModel", "outcomes", "[I", true)
  | 28 => ("StoneHomeModel", "sixths", "[I", true)
  | 29 => ("StoneHomeModel", "byAlong", "[I", true)
  | 30 => ("StoneHomeModel", "byAcross", "[I", true)
  | 31 => ("StoneHomeModel", "turns", "[I", true)
  | 32 => ("StoneHomeModel", "stone", "[I", true)
  | 33 => ("StoneHomeModel", "friend", "[I", true)
  | 34 => ("StoneHomeModel", "livesTold", "[I", true)
  | 35 => ("StoneHomeModel", "takes", "[I", true)
  | 36 => ("StoneHomeModel", "seed", "[I", true)
  | 37 => ("StoneHomeModel", "lawFirst", "[I", true)
  | 38 => ("StoneHomeModel", "lawLast", "[I", true)
  | 39 => ("StoneHomeModel", "branches", "I", false)
  | 40 => ("StoneHomeModel", "hasTest", "[Z", true)
  | 41 => ("StoneHomeModel", "testFrom", "[I", true)
  | 42 => ("StoneHomeModel", "testMid", "[I", true)
  | 43 => ("StoneHomeModel", "testTo", "[I", true)
  | 44 => ("StoneHomeModel", "termTo", "[I", true)
  | 45 => ("StoneHomeModel", "codes", "I", false)
  | 46 => ("StoneHomeModel", "code", "[I", true)
  | 47 => ("StoneHomeModel", "codeInt", "[I", true)
  | 48 => ("StoneHomeModel", "waits", "[I", true)
  | 49 => ("StoneHomeModel", "waiting", "I", false)
  | 50 => ("StoneHomeModel", "variables", "[I", true)
  | 51 => ("StoneHomeModel", "pile", "[I", true)
  | 52 => ("StoneHomeModel", "isBroken", "Z", false)
  | 53 => ("StoneHomeModel", "now", "[I", true)
  | 54 => ("StoneHomeModel", "row", "[I", true)
  | 55 => ("StoneHomeModel", "isLosing", "Z", false)
  | 56 => ("StoneHomeModel", "chance", "[I", true)
  | 57 => ("StoneHomeModel", "chanceThen", "[I", true)
  | 58 => ("StoneHomeModel", "undos", "I", false)
  | 59 => ("StoneHomeModel", "history", "[I", true)
  | 60 => ("StoneHomeModel", "pair", "[I", true)
  | 61 => ("StoneHomeModel", "pairThen", "[I", true)
  | 62 => ("StoneHomeModel", "cameTo", "[I", true)
  | 63 => ("StoneHomeModel", "told", "I", false)
  | 64 => ("StoneHomeModel", "toldAlong", "[I", true)
  | 65 => ("StoneHomeModel", "toldAcross", "[I", true)
  | 66 => ("StoneHomeModel", "byFace", "[I", true)
  | 67 => ("StoneHomeModel", "byFaceThen", "[I", true)
  | 68 => ("StoneHomeModel", "isHeld", "[Z", true)
  | _ => ("StoneHomeModel", "heldRows", "[I", true)
def tyX11 : Nat → FieldType := fun k => match k with
  | 0 => .int
  | 1 => .array .byte
  | 2 => .int
  | 3 => .array .byte
  | 4 => .int
  | 5 => .array .int
  | 6 => .array .int
  | 7 => .array .int
  | 8 => .array .long
  | 9 => .array .long
  | 10 => .int
  | 11 => .int
  | 12 => .int
  | 13 => .int
  | 14 => .int
  | 15 => .int
  | 16 => .int
  | 17 => .int
  | 18 => .int
  | 19 => .int
  | 20 => .int
  | 21 => .array .long
  | 22 => .array .int
  | 23 => .array .int
  | 24 => .array .int
  | 25 => .array .int
  | 26 => .array .int
  | 27 => .array .int
  | 28 => .array .int
  | 29 => .array .int
  | 30 => .array .int
  | 31 => .array .int
  | 32 => .array .int
  | 33 => .array .int
  | 34 => .array .int
  | 35 => .array .int
  | 36 => .array .int
  | 37 => .array .int
  | 38 => .array .int
  | 39 => .int
  | 40 => .array .boolean
  | 41 => .array .int
  | 42 => .array .int
  | 43 => .array .int
  | 44 => .array .int
  | 45 => .int
  | 46 => .array .int
  | 47 => .array .int
  | 48 => .array .int
  | 49 => .int
  | 50 => .array .int
  | 51 => .array .int
  | 52 => .boolean
  | 53 => .array .int
  | 54 => .array .int
  | 55 => .boolean
  | 56 => .array .int
  | 57 => .array .int
  | 58 => .int
  | 59 => .array .int
  | 60 => .array .int
  | 61 => .array .int
  | 62 => .array .int
  | 63 => .int
  | 64 => .array .int
  | 65 => .array .int
  | 66 => .array .int
  | 67 => .array .int
  | 68 => .array .boolean
  | _ => .array .int
abbrev wsX110 : List Cond := u_ws RX11 TX11 70
theorem nmX11 : ∀ a, a < 70 → ∀ b, b < 70 → a ≠ b → (TX11 a).2.1 ≠ (TX11 b).2.1 := by decide +kernel
theorem tyX11_ok : ∀ k, k < 70 → parseFieldDescriptor (TX11 k).2.2.1 = some (tyX11 k) := by decide +kernel
def RJ11 : String := "java/lang/Character"
def RJ9 : String := "java/lang/Math"
def RJ0 : String := "java/lang/String"
def RJ1 : String := "java/lang/StringLatin1"
def RJ2 : String := "java/lang/StringUTF16"
def RJ10 : String := "java/lang/System"
def RJ7 : String := "java/util/Arrays"
def RJ3 : String := "jdk/internal/util/Preconditions"
def RL : String := "StoneHomeLaw"
abbrev am_cl : List vw_C := [(RX0, TX0, 9), (RX1, TX1, 8), (RX2, TX2, 3), (RX3, TX3, 6), (RX4, TX4, 12), (RX5, TX5, 7), (RX6, TX6, 8), (RX7, TX7, 16), (RX8, TX8, 7), (RX9, TX9, 8), (RX10, TX10, 13), (RX11, TX11, 70)]
/-- a class' name by its number -/
def am_cn : Nat → String
  | 0 => RX0 | 1 => RX1 | 2 => RX2 | 3 => RX3 | 4 => RX4 | 5 => RX5 | 6 => RX6 | 7 => RX7 | 8 => RX8 | 9 => RX9 | 10 => RX10 | 11 => RX11
  | 12 => RL | 13 => RJ7 | 14 => RJ9 | 15 => RJ0 | _ => RJ1
/-- how many fields, and of which types -/
def am_nf : Nat → Nat
  | 0 => 9 | 1 => 8 | 2 => 3 | 3 => 6 | 4 => 12 | 5 => 7 | 6 => 8 | 7 => 16 | 8 => 7 | 9 => 8 | 10 => 13 | 11 => 70 | _ => 0
def am_ft : Nat → Nat → FieldType
  | 0 => tyX0 | 1 => tyX1 | 2 => tyX2 | 3 => tyX3 | 4 => tyX4 | 5 => tyX5 | 6 => tyX6 | 7 => tyX7 | 8 => tyX8 | 9 => tyX9 | 10 => tyX10 | _ => tyX11
def am_tb : Nat → u_T
  | 0 => TX0 | 1 => TX1 | 2 => TX2 | 3 => TX3 | 4 => TX4 | 5 => TX5 | 6 => TX6 | 7 => TX7 | 8 => TX8 | 9 => TX9 | 10 => TX10 | _ => TX11
/-- an object's fields as they are born -/
def am_df (c : Nat) : List Value := (List.range (am_nf c)).map (fun k => defaultValue (am_ft c k))
theorem am_clAt : ∀ c, c < 12 → am_cl[c]? = some (am_cn c, am_tb c, am_nf c) := by
  intro c hc
  rcases (show c = 0 ∨ c = 1 ∨ c = 2 ∨ c = 3 ∨ c = 4 ∨ c = 5 ∨ c = 6 ∨ c = 7 ∨ c = 8 ∨ c = 9 ∨ c = 10 ∨ c = 11 by omega) with h | h | h | h | h | h | h | h | h | h | h | h <;> subst h <;> rfl
theorem am_nmAt : ∀ c, c < 12 → ∀ a, a < am_nf c → ∀ b, b < am_nf c → a ≠ b → (am_tb c a).2.1 ≠ (am_tb c b).2.1 := by
  intro c hc
  rcases (show c = 0 ∨ c = 1 ∨ c = 2 ∨ c = 3 ∨ c = 4 ∨ c = 5 ∨ c = 6 ∨ c = 7 ∨ c = 8 ∨ c = 9 ∨ c = 10 ∨ c = 11 by omega) with h | h | h | h | h | h | h | h | h | h | h | h <;> subst h
  · exact nmX0
  · exact nmX1
  · exact nmX2
  · exact nmX3
  · exact nmX4
  · exact nmX5
  · exact nmX6
  · exact nmX7
  · exact nmX8
  · exact nmX9
  · exact nmX10
  · exact nmX11
theorem am_tyAt : ∀ c, c < 12 → ∀ k, k < am_nf c → parseFieldDescriptor (am_tb c k).2.2.1 = some (am_ft c k) := by
  intro c hc
  rcases (show c = 0 ∨ c = 1 ∨ c = 2 ∨ c = 3 ∨ c = 4 ∨ c = 5 ∨ c = 6 ∨ c = 7 ∨ c = 8 ∨ c = 9 ∨ c = 10 ∨ c = 11 by omega) with h | h | h | h | h | h | h | h | h | h | h | h <;> subst h
  · exact tyX0_ok
  · exact tyX1_ok
  · exact tyX2_ok
  · exact tyX3_ok
  · exact tyX4_ok
  · exact tyX5_ok
  · exact tyX6_ok
  · exact tyX7_ok
  · exact tyX8_ok
  · exact tyX9_ok
  · exact tyX10_ok
  · exact tyX11_ok
end
section
/-! ===== THE ABSTRACT MACHINE: the instructions that the class, the reference and the law use, over a heap by places; am_run is a function; part 04 shows that the JVM does what it says ===== -/
/-- a cell: an object (class, fields), or an array (0 int, 1 byte, 2 boolean, 3 long, 4 stones, 5 int rows; length; contents); a reference is a place -/
abbrev am_C : Type := (Nat × List Value) ⊕ (Nat × Nat × ((Nat → Int32) ⊕ (Nat → Int64) ⊕ (Nat → Option Nat)))
/-- a heap: how many places are taken, how many slots, what lies there. Places 0 to 7: the script, SIXES, three Strings, their bytes: they are never written -/
abbrev am_H : Type := Nat × Nat × (Nat → am_C)
/-- an instruction, the pc behind it, two numbers that it needs -/
abbrev am_I : Type := Instr × Nat × Nat × Nat
/-- a method: its class, its locals, what it returns (0 nothing, 1 int, 2 boolean, 3 char, 4 long, 5 byte), its instructions -/
abbrev am_M : Type := Nat × Nat × Nat × List (Nat × am_I)
abbrev am_S : Type := Nat × List (Option Value) × List Value × am_H
abbrev am_O : Type := Option (am_S ⊕ (Option Value) ⊕ (Nat × List Value × am_S))
def am_at : List (Nat × am_I) → Nat → Option am_I
  | [], _ => none
  | q :: t, pc => bif Nat.beq q.1 pc then some q.2 else am_at t pc
def am_get : List (Option Value) → Nat → Option Value
  | [], _ => none
  | v :: _, 0 => v
  | _ :: t, n + 1 => am_get t n
def am_set : List (Option Value) → Nat → Option Value → List (Option Value)
  | [], _, _ => []
  | _ :: t, 0, v => v :: t
  | w :: t, n + 1, v => w :: am_set t n v
def am_isL : Option Value → Bool
  | some (.long _) => true
  | _ => false
def am_cut (ls : List (Option Value)) : Nat → List (Option Value)
  | 0 => ls
  | i + 1 => bif am_isL (am_get ls i) then am_set ls i none else ls
def am_st1 (ls : List (Option Value)) (i : Nat) (v : Value) : List (Option Value) := am_set (am_cut ls i) i (some v)
def am_st2 (ls : List (Option Value)) (i : Nat) (v : Value) : List (Option Value) := am_set (am_set (am_cut ls i) i (some v)) (i + 1) none
def am_ent0 : List Value → List (Option Value)
  | [] => []
  | .long x :: t => some (.long x) :: none :: am_ent0 t
  | .double _ :: t => none :: none :: am_ent0 t
  | v :: t => some v :: am_ent0 t
def am_pad : Nat → List (Option Value) → List (Option Value)
  | 0, _ => []
  | n + 1, [] => none :: am_pad n []
  | n + 1, v :: t => v :: am_pad n t
def am_ent (vs : List Value) (n : Nat) : List (Option Value) := am_pad n (am_ent0 vs)
def am_take : Nat → List Value → List Value → Option (List Value × List Value)
  | 0, acc, st => some (acc, st)
  | _ + 1, _, [] => none
  | n + 1, acc, v :: st => am_take n (v :: acc) st
def am_cat : List Value → Nat
  | [] => 0
  | .long _ :: t => 2 + am_cat t
  | .double _ :: t => 2 + am_cat t
  | _ :: t => 1 + am_cat t
def am_fit : Nat → Value → Bool
  | 0, .int _ => true
  | 1, .int x => x == 0 || x == 1
  | 2, .ref _ => true
  | 2, .null => true
  | _, _ => false
def am_cnd : ClassFile.Cond → Int32 → Int32 → Bool
  | .eq, x, y => decide (x = y)
  | .ne, x, y => decide (¬ x = y)
  | .lt, x, y => decide (x < y)
  | .ge, x, y => decide (y ≤ x)
  | .gt, x, y => decide (y < x)
  | .le, x, y => decide (x ≤ y)
def am_rt : Nat → Int32 → Bool
  | 1, _ => true
  | 2, x => x == 0 || x == 1
  | 3, x => decide (vp_nar .char x = x)
  | 5, x => decide (vp_nar .byte x = x)
  | _, _ => false
def am_ii (st : List Value) (k : Int32 → Int32 → List Value → am_O) : am_O := match st with
  | .int y :: .int x :: r => k x y r
  | _ => none
def am_i1 (st : List Value) (k : Int32 → List Value → am_O) : am_O := match st with
  | .int x :: r => k x r
  | _ => none
def am_ll (st : List Value) (k : Int64 → Int64 → List Value → am_O) : am_O := match st with
  | .long y :: .long x :: r => k x y r
  | _ => none
def am_l1 (st : List Value) (k : Int64 → List Value → am_O) : am_O := match st with
  | .long x :: r => k x r
  | _ => none
def am_r1 (st : List Value) (k : Nat → List Value → am_O) : am_O := match st with
  | .ref p :: r => k p r
  | _ => none
def am_ri (st : List Value) (k : Nat → Int32 → List Value → am_O) : am_O := match st with
  | .int j :: .ref p :: r => k p j r
  | _ => none
def am_cA (c : am_C) (ty : Nat) (k : Nat → (Nat → Int32) → am_O) : am_O := match c with
  | .inr (t, n, .inl f) => bif Nat.beq t ty then k n f else none
  | _ => none
def am_cL (c : am_C) (k : Nat → (Nat → Int64) → am_O) : am_O := match c with
  | .inr (t, n, .inr (.inl f)) => bif Nat.beq t 3 then k n f else none
  | _ => none
def am_cQ (c : am_C) (k : Nat → Nat → (Nat → Option Nat) → am_O) : am_O := match c with
  | .inr (t, n, .inr (.inr f)) => k t n f
  | _ => none
def am_cO (c : am_C) (k : Nat → List Value → am_O) : am_O := match c with
  | .inl (ci, fs) => k ci fs
  | _ => none
def am_ix (j : Int32) (n : Nat) (o : am_O) : am_O := if j < 0 ∨ n ≤ j.toNatClampNeg then none else o
def am_up (h : am_H) (p : Nat) (c : am_C) : am_H := (h.1, h.2.1, va_up h.2.2 p c)
def am_nw (h : am_H) (k : Nat) (c : am_C) : am_H := (h.1 + 1, h.2.1 + k, va_up h.2.2 h.1 c)
def am_z (ty n : Nat) : am_C := bif Nat.beq ty 3 then .inr (3, n, .inr (.inl (fun _ => 0))) else bif Nat.blt ty 3 then .inr (ty, n, .inl (fun _ => 0)) else .inr (ty, n, .inr (.inr (fun _ => none)))
def am_aty : ArrayType → Nat
  | .int => 0
  | .byte => 1
  | .boolean => 2
  | .long => 3
  | _ => 9
/-- the object q may lie in an array of the kind t -/
def am_elt (t : Nat) (c : am_C) : Bool := match t, c with
  | 4, .inl (6, _) => true
  | 5, .inr (0, _, .inl _) => true
  | _, _ => false
def am_do (P : Nat → am_M) (d L : Nat) (ret : Nat) (i : Instr) (pc nx a b : Nat) (ls : List (Option Value)) (st : List Value) (h : am_H) : am_O :=
  let go : List Value → am_O := fun st' => some (.inl (nx, ls, st', h))
  match i with
  | .aload _ | .aload_n _ => match am_get ls a with
    | some (.ref p) => go (.ref p :: st)
    | _ => none
  | .iload _ | .iload_n _ => match am_get ls a with
    | some (.int x) => go (.int x :: st)
    | _ => none
  | .lload _ | .lload_n _ => match am_get ls a with
    | some (.long x) => go (.long x :: st)
    | _ => none
  | .astore _ | .astore_n _ => am_r1 st fun p r => some (.inl (nx, am_st1 ls a (.ref p), r, h))
  | .istore _ | .istore_n _ => am_i1 st fun x r => some (.inl (nx, am_st1 ls a (.int x), r, h))
  | .lstore _ | .lstore_n _ => am_l1 st fun x r => some (.inl (nx, am_st2 ls a (.long x), r, h))
  | .iinc _ n => match am_get ls a with
    | some (.int x) => some (.inl (nx, am_st1 ls a (.int (x + Int32.ofInt n)), st, h))
    | _ => none
  | .iconst n => go (.int (Int32.ofInt n) :: st)
  | .bipush n => go (.int ((Int8.ofInt n).toInt32) :: st)
  | .sipush n => go (.int ((Int16.ofInt n).toInt32) :: st)
  | .ldc _ => bif Nat.beq a 0 then go (.int (Int32.ofNat b) :: st) else go (.ref b :: st)
  | .ldc2_w _ => go (.long (Int64.ofNat b) :: st)
  | .lconst n => go (.long (Int64.ofNat n) :: st)
  | .iadd => am_ii st fun x y r => go (.int (x + y) :: r)
  | .isub => am_ii st fun x y r => go (.int (x - y) :: r)
  | .imul => am_ii st fun x y r => go (.int (x * y) :: r)
  | .idiv => am_ii st fun x y r => if y = 0 then none else go (.int (x / y) :: r)
  | .irem => am_ii st fun x y r => if y = 0 then none else go (.int (x - x / y * y) :: r)
  | .iand => am_ii st fun x y r => go (.int (x &&& y) :: r)
  | .ior => am_ii st fun x y r => go (.int (x ||| y) :: r)
  | .ixor => am_ii st fun x y r => go (.int (x ^^^ y) :: r)
  | .ishl => am_ii st fun x y r => go (.int (x <<< (y &&& 31)) :: r)
  | .ishr => am_ii st fun x y r => go (.int (x >>> (y &&& 31)) :: r)
  | .iushr => am_ii st fun x y r => go (.int ((x.toUInt32 >>> (y.toUInt32 &&& Int32.toUInt32 31)).toInt32) :: r)
  | .ineg => am_i1 st fun x r => go (.int (-x) :: r)
  | .ladd => am_ll st fun x y r => go (.long (x + y) :: r)
  | .lmul => am_ll st fun x y r => go (.long (x * y) :: r)
  | .ldiv => am_ll st fun x y r => if y = 0 then none else go (.long (x / y) :: r)
  | .lrem => am_ll st fun x y r => if y = 0 then none else go (.long (x - x / y * y) :: r)
  | .lor => am_ll st fun x y r => go (.long (x ||| y) :: r)
  | .lcmp => am_ll st fun x y r => go (.int (lg_cmp x y) :: r)
  | .lshl => am_i1 st fun y r => am_l1 r fun x r => go (.long (x <<< (y.toInt64 &&& 63)) :: r)
  | .i2l => am_i1 st fun x r => go (.long x.toInt64 :: r)
  | .l2i => am_l1 st fun x r => go (.int x.toInt32 :: r)
  | .i2b => am_i1 st fun x r => go (.int x.toInt8.toInt32 :: r)
  | .i2c => am_i1 st fun x r => go (.int (x.toUInt32 % 65536).toInt32 :: r)
  | .dup => match st with
    | .int x :: r => go (.int x :: .int x :: r)
    | .ref x :: r => go (.ref x :: .ref x :: r)
    | _ => none
  | .dup2 => am_ri st fun p j r => go (.int j :: .ref p :: .int j :: .ref p :: r)
  | .pop => am_i1 st fun _ r => go r
  | .goto _ => some (.inl (a, ls, st, h))
  | .ifCond c _ => am_i1 st fun x r => some (.inl (bif am_cnd c x 0 then a else nx, ls, r, h))
  | .if_icmp c _ => am_ii st fun x y r => some (.inl (bif am_cnd c x y then a else nx, ls, r, h))
  | .ifnonnull _ => match st with
    | .ref _ :: r => some (.inl (a, ls, r, h))
    | .null :: r => some (.inl (nx, ls, r, h))
    | _ => none
  | .tableswitch _ lo hi offs => am_i1 st fun x r => if x.toInt < lo ∨ hi < x.toInt then some (.inl (a, ls, r, h)) else
      match offs[(x.toInt - lo).toNat]? with
      | some off => if (pc : Int) + off < 0 then none else some (.inl (((pc : Int) + off).toNat, ls, r, h))
      | none => none
  | .iaload => am_ri st fun p j r => am_cA (h.2.2 p) 0 fun n f => am_ix j n (go (.int (f j.toNatClampNeg) :: r))
  | .baload => am_ri st fun p j r => am_cA (h.2.2 p) a fun n f => am_ix j n (go (.int (f j.toNatClampNeg) :: r))
  | .laload => am_ri st fun p j r => am_cL (h.2.2 p) fun n f => am_ix j n (go (.long (f j.toNatClampNeg) :: r))
  | .aaload => am_ri st fun p j r => am_cQ (h.2.2 p) fun t n f => bif Nat.beq t a then am_ix j n (go (va_rf (f j.toNatClampNeg) :: r)) else none
  | .iastore => am_i1 st fun x r => am_ri r fun p j r => am_cA (h.2.2 p) 0 fun n f => am_ix j n (if p < 8 then none else some (.inl (nx, ls, r, am_up h p (.inr (0, n, .inl (upd f j.toNatClampNeg x))))))
  | .bastore => am_i1 st fun x r => am_ri r fun p j r => am_cA (h.2.2 p) a fun n f => am_ix j n (if p < 8 then none else some (.inl (nx, ls, r, am_up h p (.inr (a, n, .inl (upd f j.toNatClampNeg (vp_nar (bif Nat.beq a 1 then .byte else .boolean) x)))))))
  | .lastore => am_l1 st fun x r => am_ri r fun p j r => am_cL (h.2.2 p) fun n f => am_ix j n (if p < 8 then none else some (.inl (nx, ls, r, am_up h p (.inr (3, n, .inr (.inl (vp_updL f j.toNatClampNeg x)))))))
  | .aastore => am_r1 st fun q r => am_ri r fun p j r => am_cQ (h.2.2 p) fun t n f => am_ix j n (if p < 8 ∨ q < 8 ∨ h.1 ≤ q then none else bif am_elt t (h.2.2 q) then some (.inl (nx, ls, r, am_up h p (.inr (t, n, .inr (.inr (va_up f j.toNatClampNeg (some q))))))) else none)
  | .arraylength => am_r1 st fun p r => match h.2.2 p with
    | .inr (t, n, _) => bif Nat.blt t 6 then go (.int (Int32.ofNat n) :: r) else none
    | _ => none
  | .newarray ty => am_i1 st fun x r => if x < 0 ∨ 1000000 < x.toNatClampNeg then none else some (.inl (nx, ls, .ref h.1 :: r, am_nw h x.toNatClampNeg (am_z (am_aty ty) x.toNatClampNeg)))
  | .anewarray _ => am_i1 st fun x r => if x < 0 ∨ 1000000 < x.toNatClampNeg then none else some (.inl (nx, ls, .ref h.1 :: r, am_nw h x.toNatClampNeg (.inr (a, x.toNatClampNeg, .inr (.inr (fun _ => none))))))
  | .new _ => some (.inl (nx, ls, .ref h.1 :: st, am_nw h (am_nf a) (.inl (a, am_df a))))
  | .getfield _ => am_r1 st fun p r => am_cO (h.2.2 p) fun ci fs => bif Nat.beq ci a then (match fs[b]? with
    | some v => go (v :: r)
    | none => none) else none
  | .putfield _ => match st with
    | v :: .ref p :: r => am_cO (h.2.2 p) fun ci fs => bif Nat.beq ci a && Nat.blt (b / 8) fs.length && am_fit (b % 4) v && Nat.ble 8 p then some (.inl (nx, ls, r, am_up h p (.inl (ci, fs.set (b / 8) v)))) else none
    | _ => none
  | .getstatic _ => bif Nat.beq a 0 then go (.ref 1 :: st) else go (.int 1 :: st)
  | .invokevirtual _ => match am_take (b + 1) [] st with
    | some (.ref p :: vs, r) => am_cO (h.2.2 p) fun ci _ => bif Nat.beq ci (P a).1 && Nat.ble (am_cat r) 8 then some (.inr (.inr (a, .ref p :: vs, nx, ls, r, h))) else none
    | _ => none
  | .invokespecial _ => bif Nat.beq a 999 then am_r1 st fun _ r => (bif Nat.ble 1 d && Nat.ble (am_cat r + 12) L then go r else none) else match am_take (b + 1) [] st with
    | some (.ref p :: vs, r) => bif Nat.ble (am_cat r) 8 then some (.inr (.inr (a, .ref p :: vs, nx, ls, r, h))) else none
    | _ => none
  | .invokestatic _ => bif Nat.beq a 998 then (match st with
      | .int n :: .int dp :: .ref q :: .int sp :: .ref p :: r => am_cA (h.2.2 p) 0 fun n0 f => am_cA (h.2.2 q) 0 fun n1 g =>
        if n < 0 ∨ dp < 0 ∨ sp < 0 ∨ n0 < sp.toNatClampNeg + n.toNatClampNeg ∨ n1 < dp.toNatClampNeg + n.toNatClampNeg ∨ p < 8 ∨ q < 8 ∨ d < 1 ∨ L < am_cat r + 40 then none
        else some (.inl (nx, ls, r, am_up h q (.inr (0, n1, .inl (va_cpy f g sp.toNatClampNeg dp.toNatClampNeg n.toNatClampNeg)))))
      | _ => none) else bif Nat.beq a 997 then (am_ii st fun x y r => bif Nat.ble 1 d && Nat.ble (am_cat r + 13) L then go (.int (if y < x then y else x) :: r) else none)
      else bif Nat.beq a 996 then (am_ii st fun x y r => bif Nat.ble 1 d && Nat.ble (am_cat r + 13) L then go (.int (if x < y then y else x) :: r) else none)
      else bif Nat.beq a 994 then (am_ii st fun x y r => if x < 0 ∨ ¬ x < y then none else bif Nat.ble 2 d && Nat.ble (am_cat r) 8 && Nat.ble 60 L then go r else none)
      else match am_take b [] st with
    | some (vs, r) => bif Nat.ble (am_cat r) 8 then some (.inr (.inr (a, vs, nx, ls, r, h))) else none
    | _ => none
  | .ireturn => match st with
    | [.int x] => bif am_rt ret x then some (.inr (.inl (some (.int x)))) else none
    | _ => none
  | .lreturn => match st with
    | [.long x] => bif Nat.beq ret 4 then some (.inr (.inl (some (.long x)))) else none
    | _ => none
  | .return_ => match st with
    | [] => bif Nat.beq ret 0 then some (.inr (.inl none)) else none
    | _ => none
  | _ => none
def am_step (P : Nat → am_M) (d L M : Nat) (c : am_S) : am_O := match am_at (P M).2.2.2 c.1 with
  | some (i, nx, a, b) => am_do P d L (P M).2.2.1 i c.1 nx a b c.2.1 c.2.2.1 c.2.2.2
  | none => none
/-- what a call costs of the locals -/
def am_lc (P : Nat → am_M) (y : Nat) : Nat := 8 + ((P y).2.1 + 11)
def am_run (P : Nat → am_M) : Nat → Nat → Nat → Nat → am_S → Option (Option Value × am_H)
  | 0, _, _, _, _ => none
  | n + 1, d, L, M, c => match am_step P d L M c with
    | none => none
    | some (.inl c') => am_run P n d L M c'
    | some (.inr (.inl r)) => some (r, c.2.2.2)
    | some (.inr (.inr (y, vs, c'))) => match d with
      | 0 => none
      | d' + 1 => if L < am_lc P y ∨ (P y).2.1 < (am_ent0 vs).length then none else
        match am_run P n d' (L - am_lc P y) y (0, am_ent vs (P y).2.1, [], c'.2.2.2) with
        | none => none
        | some (r, h) => am_run P n (d' + 1) L M (c'.1, c'.2.1, r.toList ++ c'.2.2.1, h)
theorem am_run_mono (P : Nat → am_M) : ∀ (n d L M : Nat) (c : am_S) (x : Option Value × am_H), am_run P n d L M c = some x → am_run P (n + 1) d L M c = some x := by
  intro n
  induction n with
  | zero => intro d L M c x h; simp [am_run] at h
  | succ n ih =>
    intro d L M c x h
    rw [am_run] at h ⊢
    cases hs : am_step P d L M c with
    | none => rw [hs] at h; simp at h
    | some o =>
      rw [hs] at h
      match o, h with
      | .inl c', h => exact ih _ _ _ _ _ h
      | .inr (.inl r), h => exact h
      | .inr (.inr (y, vs, c')), h =>
        cases d with
        | zero => simp at h
        | succ d' =>
          dsimp only at h ⊢
          split at h
          · cases h
          · rename_i hL
            rw [if_neg hL]
            cases hr : am_run P n d' (L - am_lc P y) y (0, am_ent vs (P y).2.1, [], c'.2.2.2) with
            | none => rw [hr] at h; simp at h
            | some q =>
              obtain ⟨r, h1⟩ := q
              rw [hr] at h
              rw [ih _ _ _ _ _ hr]
              exact ih _ _ _ _ _ h
theorem am_run_le (P : Nat → am_M) {n k d L M : Nat} {c : am_S} {x : Option Value × am_H} (h : am_run P n d L M c = some x) (hk : n ≤ k) : am_run P k d L M c = some x := by
  obtain ⟨j, rfl⟩ := Nat.le.dest hk
  induction j with
  | zero => exact h
  | succ j ih => exact am_run_mono P _ _ _ _ _ _ (ih (Nat.le_add_right _ _))
/-- from this frame on the method returns, and Q holds of its answer and of the heap -/
def AW (P : Nat → am_M) (d L M pc : Nat) (ls : List (Option Value)) (st : List Value) (h : am_H) (Q : Option Value → am_H → Prop) : Prop := ∃ n r h', am_run P n d L M (pc, ls, st, h) = some (r, h') ∧ Q r h'
/-- a call of method y returns, and Q holds of its answer and of the heap -/
def AC (P : Nat → am_M) (d L y : Nat) (vs : List Value) (h : am_H) (Q : Option Value → am_H → Prop) : Prop := AW P d L y 0 (am_ent vs (P y).2.1) [] h Q
section AMR
variable {P : Nat → am_M} {d L M pc : Nat} {ls : List (Option Value)} {st : List Value} {h : am_H} {Q : Option Value → am_H → Prop}
theorem AW.step {pc' : Nat} {ls' : List (Option Value)} {st' : List Value} {h' : am_H} (hs : am_step P d L M (pc, ls, st, h) = some (.inl (pc', ls', st', h'))) (k : AW P d L M pc' ls' st' h' Q) : AW P d L M pc ls st h Q := by
  obtain ⟨n, r, h1, e, q⟩ := k
  refine ⟨n + 1, r, h1, ?_, q⟩
  rw [am_run, hs]
  exact e
theorem AW.ret {r : Option Value} (hs : am_step P d L M (pc, ls, st, h) = some (.inr (.inl r))) (q : Q r h) : AW P d L M pc ls st h Q := by
  refine ⟨1, r, h, ?_, q⟩
  rw [am_run, hs]
theorem AW.call {y pc' : Nat} {vs : List Value} {ls' : List (Option Value)} {st' : List Value} {h' : am_H} {Q1 : Option Value → am_H → Prop} (hs : am_step P (d + 1) L M (pc, ls, st, h) = some (.inr (.inr (y, vs, pc', ls', st', h')))) (hL : am_lc P y ≤ L) (hA : (am_ent0 vs).length ≤ (P y).2.1) (hc : AC P d (L - am_lc P y) y vs h' Q1)
    (k : ∀ r h1, Q1 r h1 → AW P (d + 1) L M pc' ls' (r.toList ++ st') h1 Q) : AW P (d + 1) L M pc ls st h Q := by
  obtain ⟨n1, r1, h1, e1, q1⟩ := hc
  obtain ⟨n2, r2, h2, e2, q2⟩ := k r1 h1 q1
  refine ⟨max n1 n2 + 1, r2, h2, ?_, q2⟩
  rw [am_run, hs]
  dsimp only
  rw [if_neg (show ¬ (L < am_lc P y ∨ (P y).2.1 < (am_ent0 vs).length) by omega), am_run_le P e1 (Nat.le_max_left n1 n2)]
  exact am_run_le P e2 (Nat.le_max_right n1 n2)
theorem AW.mono {Q' : Option Value → am_H → Prop} (k : AW P d L M pc ls st h Q) (hq : ∀ r h1, Q r h1 → Q' r h1) : AW P d L M pc ls st h Q' := by
  obtain ⟨n, r, h1, e, q⟩ := k
  exact ⟨n, r, h1, e, hq r h1 q⟩
theorem AC.mono {vs : List Value} {y : Nat} {Q' : Option Value → am_H → Prop} (k : AC P d L y vs h Q) (hq : ∀ r h1, Q r h1 → Q' r h1) : AC P d L y vs h Q' := AW.mono k hq
end AMR
end
section
/-! ===== what the abstract machine's state is on the JVM ===== -/
def am_nil : am_C := .inr (9, 0, .inl (fun _ => 0))
def am_sl : List Int32 := [1, 6, 36, 216, 1296, 7776, 46656, 279936, 1679616, 10077696, 60466176]
/-- the bytes of the three Strings -/
def am_by : List (List Int32) := [[114, 111, 119, 32, 102, 97, 99, 101, 115, 32, 107, 105, 99, 107, 32, 100, 114, 105, 102, 116, 32, 114, 117, 110, 115, 32, 99, 97, 114, 115, 32, 115, 116, 111, 110, 101, 32, 102, 114, 105, 101, 110, 100, 32, 108, 105, 118, 101, 115, 32, 116, 97, 107, 101, 115, 32, 115, 101, 101, 100, 32, 98, 121, 32, 116, 117, 114, 110, 32, 105, 102, 32, 116, 104, 101, 110, 32, 101, 108, 115, 101, 32, 97, 108, 111, 110, 103, 32, 97, 99, 114, 111, 115, 115, 32, 102, 97, 99, 101, 32, 115, 111, 114, 116, 32, 119, 104, 105, 99, 104, 32, 104, 97, 114, 100, 32, 115, 101, 99, 111, 110, 100, 32], [59, 61, 43, 45, 42, 47, 60, 40, 41], [116, 99, 115, 112, 103, 119, 104]]
def am_im (Ls : Nat) (xs : Nat → Int32) : Nat → am_C
  | 0 => .inr (0, Ls, .inl xs)
  | 1 => .inr (0, 11, .inl (fun j => am_sl.getD j 0))
  | 2 => .inl (15, [.ref 5, .int 0])
  | 3 => .inl (15, [.ref 6, .int 0])
  | 4 => .inl (15, [.ref 7, .int 0])
  | 5 => .inr (1, 123, .inl (fun j => (am_by.getD 0 []).getD j 0))
  | 6 => .inr (1, 9, .inl (fun j => (am_by.getD 1 []).getD j 0))
  | _ => .inr (1, 7, .inl (fun j => (am_by.getD 2 []).getD j 0))
def am_tx : Nat → String
  | 0 => "row faces kick drift runs cars stone friend lives takes seed by turn if then else along across face sort which hard second "
  | 1 => ";=+-*/<()"
  | _ => "tcspgwh"
def am_v (ad : Nat → Nat) : Value → Value
  | .ref a => .ref (ad a)
  | v => v
theorem am_v_cat (ad : Nat → Nat) (v : Value) : (am_v ad v).category = v.category := by cases v <;> rfl
theorem am_v_sum (ad : Nat → Nat) (l : List Value) : ((l.map (am_v ad)).map fun v => v.category).sum = am_cat l := by
  induction l with
  | nil => rfl
  | cons v t ih =>
    rw [List.map_cons, List.map_cons, List.sum_cons, ih]
    cases v <;> rfl
def am_e (ad dA : Nat → Nat) : am_C → va_E
  | .inl (ci, fs) => .inr (ci, fs.map (am_v ad))
  | .inr (t, n, .inl f) => .inl (dA t, n, .inl f)
  | .inr (t, n, .inr (.inl f)) => .inl (dA t, n, .inr (.inl f))
  | .inr (t, n, .inr (.inr f)) => .inl (dA t, n, .inr (.inr (.inr (.inr (fun j => (f j).map ad)))))
def am_W (ad dA : Nat → Nat) (h : am_H) : va_W := (List.range (h.1 - 8)).map (fun i => (ad (i + 8), am_e ad dA (h.2.2 (i + 8))))
def am_A (ad : Nat → Nat) : Nat → Prop := fun q => ad 8 ≤ q
def am_ty (dA : Nat → Nat) : List (ClassId × FieldType) := [(dA 0, .int), (dA 1, .byte), (dA 2, .boolean), (dA 3, .long), (dA 4, .object RX6), (dA 5, .array .int)]
def am_K5 (dA : Nat → Nat) (U : State) : Prop := ∃ kA : Class, U.vm.classes[dA 5]? = some kA ∧ kA.kind = .array (dA 0) (.array .int)
/-- what never changes: the script, SIXES, the Strings -/
def am_Z (ad : Nat → Nat) (Ls : Nat) (xs : Nat → Int32) (U : State) (H : Heap) : Prop := va_X (ad 0) Ls xs U H ∧ ¬ am_A ad (ad 0) ∧ va_Z "StoneHome" "SIXES" "[I" (.ref (ad 1)) (am_A ad) U H ∧ va_T .int (ad 1) 11 (fun j => .int (am_sl.getD j 0)) (am_A ad) U H ∧ va_Z "java/lang/String" "COMPACT_STRINGS" "Z" (.int 1) (am_A ad) U H ∧ vk_R RX9 84 (am_tx 0) (ad 2) U ∧ vk_R RX9 73 (am_tx 1) (ad 3) U ∧ vk_R RX4 139 (am_tx 2) (ad 4) U ∧ vk_S 3 [123, 9, 7] am_by (fun i => ad (i + 2)) (fun i => ad (i + 5)) (am_A ad) U H ∧ va_Zq "jdk/internal/util/Preconditions" "SIOOBE_FORMATTER" "Ljava/util/function/BiFunction;" (am_A ad) U H
def am_K (D : va_G) (ad dA : Nat → Nat) (Ls : Nat) (xs : Nat → Int32) (U : State) : Prop := va_K D am_cl (am_ty dA) U ∧ am_K5 dA U ∧ am_Z ad Ls xs U U.heap ∧ ad 8 ≤ U.heap.size ∧ ∀ i, 8 ≤ i → ad (i + 1) = ad i + 1
def am_G (D : va_G) (ad dA : Nat → Nat) (Ls : Nat) (xs : Nat → Int32) (H0 H : Heap) (h : am_H) (locs : List Loc) : Prop := va_P D am_cl (am_W ad dA h) H ∧ va_D (am_A ad) (am_W ad dA h) ∧ va_S (am_A ad) H0 H locs ∧ 8 ≤ h.1 ∧ ad h.1 = H.size ∧ (∀ p, h.1 ≤ p → h.2.2 p = am_nil) ∧ (∀ p, p < 8 → h.2.2 p = am_im Ls xs p)
theorem am_ad {ad : Nat → Nat} (h : ∀ i, 8 ≤ i → ad (i + 1) = ad i + 1) : ∀ k, ad (8 + k) = ad 8 + k := by
  intro k
  induction k with
  | zero => rfl
  | succ k ih => rw [← Nat.add_assoc, h (8 + k) (by omega), ih, Nat.add_assoc]
theorem am_W_at {ad dA : Nat → Nat} {h : am_H} {p : Nat} (h8 : 8 ≤ p) (hp : p < h.1) : (am_W ad dA h)[p - 8]? = some (ad p, am_e ad dA (h.2.2 p)) := by
  unfold am_W
  rw [List.getElem?_map, List.getElem?_range (by omega)]
  simp [show p - 8 + 8 = p by omega]
theorem am_W_get {ad dA : Nat → Nat} {h : am_H} {k : Nat} {q : Nat × va_E} (hq : (am_W ad dA h)[k]? = some q) : k + 8 < h.1 ∧ q = (ad (k + 8), am_e ad dA (h.2.2 (k + 8))) := by
  unfold am_W at hq
  rw [List.getElem?_map] at hq
  by_cases hk : k < h.1 - 8
  · rw [List.getElem?_range hk] at hq
    simp at hq
    exact ⟨by omega, hq.symm⟩
  · rw [List.getElem?_eq_none (by simp; omega)] at hq
    simp at hq
theorem am_W_set {ad dA : Nat → Nat} {h : am_H} {p : Nat} (c : am_C) (h8 : 8 ≤ p) : (am_W ad dA h).set (p - 8) (ad p, am_e ad dA c) = am_W ad dA (am_up h p c) := by
  apply List.ext_getElem?
  intro k
  unfold am_W am_up
  rw [List.getElem?_set, List.getElem?_map, List.getElem?_map]
  dsimp only
  by_cases hk : k < h.1 - 8
  · rw [List.getElem?_range hk]
    by_cases e : p - 8 = k
    · subst e
      simp [va_up, show p - 8 + 8 = p by omega, hk]
    · rw [if_neg e]
      simp [va_up, show ¬ k + 8 = p by omega]
  · rw [List.getElem?_eq_none (show (List.range (h.1 - 8)).length ≤ k by simp; omega)]
    by_cases e : p - 8 = k
    · rw [if_pos e, if_neg (by simp; omega)]
      rfl
    · rw [if_neg e]
      rfl
theorem am_W_push {ad dA : Nat → Nat} {h : am_H} {k : Nat} (c : am_C) (h8 : 8 ≤ h.1) : am_W ad dA h ++ [(ad h.1, am_e ad dA c)] = am_W ad dA (am_nw h k c) := by
  unfold am_W am_nw
  dsimp only
  rw [show h.1 + 1 - 8 = h.1 - 8 + 1 by omega, List.range_succ, List.map_append]
  congr 1
  · apply List.map_congr_left
    intro i hi
    have := List.mem_range.mp hi
    simp [va_up, show ¬ i + 8 = h.1 by omega]
  · simp [va_up, show h.1 - 8 + 8 = h.1 by omega]
theorem am_S_tr {A : Nat → Prop} {H0 H H1 : Heap} {l l1 : List Loc} (h : va_S A H0 H l) (h1 : va_S A H H1 l1) : va_S A H0 H1 l1 :=
  ⟨Nat.le_trans h.1 h1.1, fun q a b => (h1.2.1 q (Nat.lt_of_lt_of_le a h.1) b).trans (h.2.1 q a b), h1.2.2⟩
theorem am_S_self {A : Nat → Prop} {H0 H : Heap} {l : List Loc} (h : va_S A H0 H l) : va_S A H H l := ⟨Nat.le_refl _, fun _ _ _ => rfl, h.2.2⟩
section AMS
variable {p : Program} {l : Launch} {e : Env} {R : Room} {s : State} {m : MethodId} {args : Array Value} {below : List Frame} {meth : Method} {c : Code} {H : Heap} {locs : List Loc} {cells slots : Nat} {Q : State → Prop}
variable {D : va_G} {ad dA : Nat → Nat} {Ls : Nat} {xs : Nat → Int32} {H0 H1 : Heap} {h : am_H} {locs1 : List Loc}
theorem am_sz {g : JFrame} (k : H.size ≤ s.heap.size + cells → W p l e R s m args below meth c H locs cells slots Q g) : W p l e R s m args below meth c H locs cells slots Q g := by
  intro T hT X
  exact k (by rw [← hT]; exact X.heapSize) T hT X
/-- a cell was written -/
theorem am_G_up {q : Nat} {x : am_C} (g : am_G D ad dA Ls xs H0 H h locs) (h8 : 8 ≤ q) (hq : q < h.1) (hz : H1.size ≤ H.size) (hP : va_P D am_cl ((am_W ad dA h).set (q - 8) (ad q, am_e ad dA x)) H1) (hD : va_D (am_A ad) ((am_W ad dA h).set (q - 8) (ad q, am_e ad dA x))) (hS : va_S (am_A ad) H H1 locs1) : am_G D ad dA Ls xs H0 H1 (am_up h q x) locs1 := by
  obtain ⟨g1, g2, g3, g4, g5, g6, g7⟩ := g
  rw [am_W_set x h8] at hP hD
  refine ⟨hP, hD, am_S_tr g3 hS, g4, ?_, fun p hp => ?_, fun p hp => ?_⟩
  · show ad h.1 = H1.size
    have := hS.1
    omega
  · show va_up h.2.2 q x p = am_nil
    have : p ≠ q := by intro e; subst e; exact absurd (show h.1 ≤ p from hp) (by omega)
    simp only [va_up, if_neg this]
    exact g6 p hp
  · show va_up h.2.2 q x p = am_im Ls xs p
    simp only [va_up, if_neg (show ¬ p = q by omega)]
    exact g7 p hp
/-- a cell was made -/
theorem am_G_nw {k : Nat} {x : am_C} (g : am_G D ad dA Ls xs H0 H h locs) (hA : ∀ i, 8 ≤ i → ad (i + 1) = ad i + 1) (hz : H1.size = H.size + 1) (hx : va_at D am_cl (ad h.1, am_e ad dA x) H1) (ho : ∀ q : Nat, q < H.size → H1[q]? = H[q]?) : am_G D ad dA Ls xs H0 H1 (am_nw h k x) locs := by
  obtain ⟨g1, g2, g3, g4, g5, g6, g7⟩ := g
  have hP : va_P D am_cl (am_W ad dA h ++ [(ad h.1, am_e ad dA x)]) H1 := by
    refine va_P.app (va_P.kept g1 (fun i q hq => ho q.1 ((g1 i q hq).lt))) (fun i q hq => ?_)
    have hi : i < 1 := (List.getElem?_eq_some_iff.mp hq).1
    rw [show i = 0 by omega] at hq
    cases hq
    exact hx
  have hD : va_D (am_A ad) (am_W ad dA h ++ [(ad h.1, am_e ad dA x)]) := g2.push g1 g5 (by
    show ad 8 ≤ ad h.1
    have := am_ad hA (h.1 - 8)
    rw [show 8 + (h.1 - 8) = h.1 by omega] at this
    omega)
  rw [am_W_push (k := k) x g4] at hP hD
  refine ⟨hP, hD, ⟨Nat.le_trans g3.1 (by omega), fun q a b => (ho q (Nat.lt_of_lt_of_le a g3.1)).trans (g3.2.1 q a b), g3.2.2⟩, Nat.le_succ_of_le g4, ?_, fun q hq => ?_, fun q hq => ?_⟩
  · show ad (h.1 + 1) = H1.size
    rw [hA h.1 g4, g5, hz]
  · show va_up h.2.2 h.1 x q = am_nil
    have hq' : h.1 + 1 ≤ q := hq
    simp only [va_up, if_neg (show ¬ q = h.1 by omega)]
    exact g6 q (by omega)
  · show va_up h.2.2 h.1 x q = am_im Ls xs q
    simp only [va_up, if_neg (show ¬ q = h.1 by omega)]
    exact g7 q hq
end AMS
/-- the locals: what is known of them lies there -/
def am_L (ad : Nat → Nat) (ls : List (Option Value)) (lsr : Array Slot) (nL : Nat) : Prop := lsr.size = nL ∧ lv_wf lsr ∧ ∀ i v, am_get ls i = some v → lsr[i]? = some (.val (am_v ad v))
def am_prs (ad : Nat → Nat) : Nat → List (Option Value) → List (Nat × Value)
  | _, [] => []
  | k, none :: t => am_prs ad (k + 1) t
  | k, some v :: t => (k, am_v ad v) :: am_prs ad (k + 1) t
theorem am_prs_mem {ad : Nat → Nat} : ∀ (ls : List (Option Value)) (k : Nat) (q : Nat × Value), q ∈ am_prs ad k ls ↔ ∃ i v, am_get ls i = some v ∧ q = (k + i, am_v ad v) := by
  intro ls
  induction ls with
  | nil => intro k q; simp [am_prs, am_get]
  | cons w t ih =>
    intro k q
    cases w with
    | none =>
      rw [am_prs, ih]
      constructor
      · rintro ⟨i, v, h, rfl⟩
        exact ⟨i + 1, v, h, by rw [Nat.add_assoc, Nat.add_comm 1 i]⟩
      · rintro ⟨i, v, h, rfl⟩
        cases i with
        | zero => simp [am_get] at h
        | succ i => exact ⟨i, v, h, by rw [Nat.add_assoc, Nat.add_comm 1 i]⟩
    | some w =>
      rw [am_prs, List.mem_cons, ih]
      constructor
      · rintro (rfl | ⟨i, v, h, rfl⟩)
        · exact ⟨0, w, rfl, rfl⟩
        · exact ⟨i + 1, v, h, by rw [Nat.add_assoc, Nat.add_comm 1 i]⟩
      · rintro ⟨i, v, h, rfl⟩
        cases i with
        | zero => left; simp [am_get] at h; subst h; rfl
        | succ i => right; exact ⟨i, v, h, by rw [Nat.add_assoc, Nat.add_comm 1 i]⟩
theorem am_L_has {ad : Nat → Nat} {ls : List (Option Value)} {lsr : Array Slot} {nL : Nat} (h : am_L ad ls lsr nL) : lv_has lsr nL (am_prs ad 0 ls) := by
  refine ⟨h.1, h.2.1, fun q hq => ?_⟩
  obtain ⟨i, v, hv, rfl⟩ := (am_prs_mem ls 0 q).mp hq
  rw [Nat.zero_add]
  exact h.2.2 i v hv
theorem am_get_set : ∀ (ls : List (Option Value)) (i j : Nat) (v : Option Value) (w : Value), am_get (am_set ls i v) j = some w → (j = i ∧ v = some w) ∨ (j ≠ i ∧ am_get ls j = some w) := by
  intro ls
  induction ls with
  | nil => intro i j v w h; simp [am_set, am_get] at h
  | cons a t ih =>
    intro i j v w h
    cases i with
    | zero =>
      cases j with
      | zero => left; exact ⟨rfl, h⟩
      | succ j => right; exact ⟨by omega, h⟩
    | succ i =>
      cases j with
      | zero => right; exact ⟨by omega, h⟩
      | succ j =>
        rcases ih i j v w h with ⟨a, b⟩ | ⟨a, b⟩
        · left; exact ⟨by omega, b⟩
        · right; exact ⟨by omega, b⟩
theorem am_get_cut {ls : List (Option Value)} {i j : Nat} {w : Value} (h : am_get (am_cut ls i) j = some w) : am_get ls j = some w ∧ ¬ (j + 1 = i ∧ w.category = 2 ∧ am_isL (some w) = true) := by
  cases i with
  | zero => exact ⟨h, by omega⟩
  | succ i =>
    change am_get (bif am_isL (am_get ls i) then am_set ls i none else ls) j = some w at h
    cases hb : am_isL (am_get ls i) with
    | true =>
      rw [hb] at h
      rcases am_get_set _ _ _ _ _ h with ⟨a, b⟩ | ⟨a, b⟩
      · cases b
      · exact ⟨b, by omega⟩
    | false =>
      rw [hb] at h
      refine ⟨h, fun z => ?_⟩
      have : j = i := by omega
      subst this
      rw [show am_get ls j = some w from h, z.2.2] at hb
      cases hb
/-- no double lies in the locals -/
def am_nd (ls : List (Option Value)) : Prop := ∀ i v, am_get ls i = some v → v.category = 2 → am_isL (some v) = true
theorem am_L_st1 {ad : Nat → Nat} {ls : List (Option Value)} {lsr : Array Slot} {nL i : Nat} {v : Value} (hn : am_nd ls) (h : lv_has lsr nL ((i, am_v ad v) :: (am_prs ad 0 ls).filter (fun q => !(q.1 == i) && !(q.1 + 1 == i && q.2.category == 2)))) : am_L ad (am_st1 ls i v) lsr nL := by
  refine ⟨h.1, h.2.1, fun j w hw => ?_⟩
  rcases am_get_set _ _ _ _ _ hw with ⟨a, b⟩ | ⟨a, b⟩
  · subst a; cases b
    exact h.2.2 (j, am_v ad v) List.mem_cons_self
  · obtain ⟨h1, h2⟩ := am_get_cut b
    refine h.2.2 (j, am_v ad w) (List.mem_cons_of_mem _ (List.mem_filter.mpr ⟨(am_prs_mem ls 0 _).mpr ⟨j, w, h1, by rw [Nat.zero_add]⟩, ?_⟩))
    have e1 : (j == i) = false := by simp [a]
    dsimp only
    rw [e1, am_v_cat]
    by_cases e2 : j + 1 = i
    · by_cases e3 : w.category = 2
      · exact absurd ⟨e2, e3, hn j w h1 e3⟩ h2
      · simp [e3]
    · simp [e2]
theorem am_L_st2 {ad : Nat → Nat} {ls : List (Option Value)} {lsr : Array Slot} {nL i : Nat} {v : Value} (hn : am_nd ls) (h : lv_has lsr nL ((i, am_v ad v) :: (am_prs ad 0 ls).filter (fun q => !(q.1 == i) && (!(q.1 == i + 1) && !(q.1 + 1 == i && q.2.category == 2))))) : am_L ad (am_st2 ls i v) lsr nL := by
  refine ⟨h.1, h.2.1, fun j w hw => ?_⟩
  rcases am_get_set _ _ _ _ _ hw with ⟨a, b⟩ | ⟨a0, b⟩
  · cases b
  · rcases am_get_set _ _ _ _ _ b with ⟨a, b2⟩ | ⟨a, b2⟩
    · cases b2; subst a
      exact h.2.2 (j, am_v ad v) List.mem_cons_self
    · obtain ⟨h1, h2⟩ := am_get_cut b2
      refine h.2.2 (j, am_v ad w) (List.mem_cons_of_mem _ (List.mem_filter.mpr ⟨(am_prs_mem ls 0 _).mpr ⟨j, w, h1, by rw [Nat.zero_add]⟩, ?_⟩))
      have e1 : (j == i) = false := by simp [a]
      have e0 : (j == i + 1) = false := by simp [a0]
      dsimp only
      rw [e1, e0, am_v_cat]
      by_cases e2 : j + 1 = i
      · by_cases e3 : w.category = 2
        · exact absurd ⟨e2, e3, hn j w h1 e3⟩ h2
        · simp [e3]
      · simp [e2]
end
section
/-! ===== the JVM does what the abstract machine says: what is asked of a table, and the plain instructions ===== -/
def am_rty : Nat → Option FieldType
  | 0 => none
  | 1 => some .int
  | 2 => some .boolean
  | 3 => some .char
  | 4 => some .long
  | _ => some .byte
def am_len : Instr → Nat
  | .aload _ | .iload _ | .lload _ | .astore _ | .istore _ | .lstore _ | .bipush _ | .ldc _ | .newarray _ => 2
  | .iinc _ _ | .sipush _ | .ldc2_w _ | .goto _ | .ifCond _ _ | .if_icmp _ _ | .ifnonnull _ | .getfield _ | .putfield _ | .getstatic _ | .new _ | .anewarray _ | .invokevirtual _ | .invokespecial _ | .invokestatic _ => 3
  | _ => 1
/-- String.checkIndex and what it calls: one instruction of the abstract machine -/
def am_yCk : MethodName := ⟨"java/lang/String", "checkIndex", "(II)V"⟩
def am_yPr : MethodName := ⟨"jdk/internal/util/Preconditions", "checkIndex", "(IILjava/util/function/BiFunction;)I"⟩
def am_ckw : List Cond := [.code am_yCk prog_16_method_155_code 2 none, .static am_yCk, .initialized "java/lang/String", .methodLink "java/lang/String" 1059 am_yPr, .static am_yPr, .initialized "jdk/internal/util/Preconditions", .code am_yPr prog_21_method_11_code 3 (some .int), .fieldLink "java/lang/String" 1053 "jdk/internal/util/Preconditions" "SIOOBE_FORMATTER" "Ljava/util/function/BiFunction;"]
/-- what the tables must say of an instruction of a method of class own, with maxL locals -/
def am_Ei (P : Nat → am_M) (yN : Nat → MethodName) (NM : Nat) (Ts : List Cond) (own yn : String) (maxL : Nat) (i : Instr) (pc a b : Nat) : Prop := match i with
  | .aload k | .iload k | .lload k => a = k
  | .aload_n k | .iload_n k | .lload_n k => a = k.val
  | .astore k | .istore k => a = k ∧ k < maxL
  | .astore_n k | .istore_n k => a = k.val ∧ k.val < maxL
  | .lstore k => a = k ∧ k + 1 < maxL
  | .lstore_n k => a = k.val ∧ k.val + 1 < maxL
  | .iinc k _ => a = k ∧ k < maxL
  | .ldc idx => (a = 0 ∧ Cond.constant own idx (Int32.ofNat b) ∈ Ts) ∨ (a = 1 ∧ ((b = 2 ∧ own = RX9 ∧ idx = 84) ∨ (b = 3 ∧ own = RX9 ∧ idx = 73) ∨ (b = 4 ∧ own = RX4 ∧ idx = 139)))
  | .ldc2_w idx => Cond.constantLong own idx (Int64.ofNat b) ∈ Ts
  | .goto off | .ifCond _ off | .if_icmp _ off | .ifnonnull off => (pc : Int) + off = (a : Int)
  | .tableswitch dflt _ _ _ => (pc : Int) + dflt = (a : Int)
  | .baload | .bastore => a = 1 ∨ a = 2
  | .aaload => a = 4 ∨ a = 5
  | .newarray ty => am_aty ty < 4 ∧ Cond.arrayClass (newarray.typeOf ty) ∈ Ts
  | .anewarray idx => (a = 4 ∧ Cond.classLink own idx RX6 ∈ Ts ∧ Cond.arrayOver (.object RX6) ∈ Ts) ∨ (a = 5 ∧ Cond.classLink own idx "[I" ∈ Ts ∧ Cond.arrayOver (.array .int) ∈ Ts)
  | .new idx => a < 12 ∧ Cond.classLink own idx (am_cn a) ∈ Ts ∧ Cond.instantiable (am_cn a) (am_nf a) ∈ Ts ∧ Cond.initialized (am_cn a) ∈ Ts
  | .getfield idx => (a < 12 ∧ b < am_nf a ∧ Cond.fieldLink own idx (am_tb a b).1 (am_tb a b).2.1 (am_tb a b).2.2.1 ∈ Ts) ∨ (a = 15 ∧ ((b = 0 ∧ Cond.fieldLink own idx "java/lang/String" "value" "[B" ∈ Ts) ∨ (b = 1 ∧ Cond.fieldLink own idx "java/lang/String" "coder" "B" ∈ Ts)))
  | .putfield idx => a < 12 ∧ b / 8 < am_nf a ∧ Cond.fieldLink own idx (am_tb a (b / 8)).1 (am_tb a (b / 8)).2.1 (am_tb a (b / 8)).2.2.1 ∈ Ts ∧ ((b % 4 = 0 ∧ am_ft a (b / 8) = .int) ∨ (b % 4 = 1 ∧ am_ft a (b / 8) = .boolean) ∨ (b % 4 = 2 ∧ ∃ n, am_ft a (b / 8) = .object n) ∨ (b % 4 = 2 ∧ ∃ n, am_ft a (b / 8) = .array n)) ∧ ((am_tb a (b / 8)).2.2.2 = false ∨ ((am_tb a (b / 8)).2.2.2 = true ∧ yn = "<init>" ∧ (am_tb a (b / 8)).1 = own))
  | .getstatic idx => (a = 0 ∧ Cond.fieldLink own idx "StoneHome" "SIXES" "[I" ∈ Ts) ∨ (a = 1 ∧ Cond.fieldLink own idx "java/lang/String" "COMPACT_STRINGS" "Z" ∈ Ts)
  | .invokevirtual idx => a < NM ∧ Cond.methodLink own idx (yN a) ∈ Ts ∧ Cond.instanceMethod (yN a) ∈ Ts ∧ Cond.selects (yN a).cls (yN a) (yN a) ∈ Ts ∧ (parseMethodDescriptor (yN a).desc).map (fun d => d.parameters.length) = some b
  | .invokespecial idx => (a = 999 ∧ Cond.methodLink own idx objectInit ∈ Ts ∧ Cond.instanceMethod objectInit ∈ Ts ∧ Cond.code objectInit ⟨#[0xb1]⟩ 1 none ∈ Ts) ∨ (¬ a = 999 ∧ a < NM ∧ (Cond.methodLink own idx (yN a) ∈ Ts ∨ ∃ host, Cond.methodLinkNest own idx (yN a) host ∈ Ts) ∧ Cond.instanceMethod (yN a) ∈ Ts ∧ (yN a).name = "<init>" ∧ (P a).2.2.1 = 0 ∧ (parseMethodDescriptor (yN a).desc).map (fun d => d.parameters.length) = some b)
  | .invokestatic idx => (a = 998 ∧ Cond.methodLink own idx arraycopyName ∈ Ts ∧ Cond.native arraycopyName ∈ Ts ∧ Cond.static arraycopyName ∈ Ts ∧ Cond.initialized "java/lang/System" ∈ Ts) ∨ (a = 997 ∧ Cond.methodLink own idx Lib.Math.min.name ∈ Ts ∧ Cond.static Lib.Math.min.name ∈ Ts ∧ Cond.initialized "java/lang/Math" ∈ Ts ∧ Cond.code Lib.Math.min.name Lib.Math.min.code 2 (some .int) ∈ Ts) ∨ (a = 996 ∧ Cond.methodLink own idx Lib.Math.max.name ∈ Ts ∧ Cond.static Lib.Math.max.name ∈ Ts ∧ Cond.initialized "java/lang/Math" ∈ Ts ∧ Cond.code Lib.Math.max.name Lib.Math.max.code 2 (some .int) ∈ Ts) ∨ (a = 994 ∧ Cond.methodLink own idx am_yCk ∈ Ts ∧ ∀ w ∈ am_ckw, w ∈ Ts) ∨ (¬ a = 998 ∧ ¬ a = 997 ∧ ¬ a = 996 ∧ ¬ a = 994 ∧ a < NM ∧ (Cond.methodLink own idx (yN a) ∈ Ts ∨ ∃ host, Cond.methodLinkNest own idx (yN a) host ∈ Ts) ∧ Cond.static (yN a) ∈ Ts ∧ (parseMethodDescriptor (yN a).desc).map (fun d => d.parameters.length) = some b)
  | _ => True
/-- an entry of a table is right -/
def am_E (P : Nat → am_M) (yN : Nat → MethodName) (cN : Nat → ByteArray) (NM : Nat) (Ts : List Cond) (M pc : Nat) (q : am_I) : Prop :=
  (∃ len, decode (cN M) pc = .ok (q.1, len) ∧ ((∃ d lo hi os, q.1 = .tableswitch d lo hi os) ∨ (len = am_len q.1 ∧ q.2.1 = pc + len))) ∧ am_Ei P yN NM Ts (am_cn (P M).1) (yN M).name (P M).2.1 q.1 pc q.2.2.1 q.2.2.2
/-- the frame in which a method is walked -/
def am_X (P : Nat → am_M) (yN : Nat → MethodName) (cN : Nat → ByteArray) (Ts : List Cond) (p : Program) (s : State) (m : MethodId) (args : Array Value) (meth : Method) (c : Code) (M : Nat) : Prop :=
  p.tables.exec = Jvm.exec ∧ c.code = cN M ∧ c.maxLocals = (P M).2.1 ∧ s.vm.findClass (am_cn (P M).1) = some m.cls ∧ (∀ w ∈ Ts, w.before args s = true) ∧ meth.sig.returnType = am_rty (P M).2.2.1 ∧ meth.locks = false ∧ meth.name = (yN M).name
def am_LN (ad : Nat → Nat) (ls : List (Option Value)) (lsr : Array Slot) (nL : Nat) : Prop := am_L ad ls lsr nL ∧ am_nd ls
theorem am_nd_set {ls : List (Option Value)} {i : Nat} {v : Option Value} (h : am_nd ls) (hv : ∀ w, v = some w → w.category = 2 → am_isL (some w) = true) : am_nd (am_set ls i v) := by
  intro j w hw h2
  rcases am_get_set _ _ _ _ _ hw with ⟨a, b⟩ | ⟨a, b⟩
  · exact hv w b h2
  · exact h j w b h2
theorem am_nd_cut {ls : List (Option Value)} {i : Nat} (h : am_nd ls) : am_nd (am_cut ls i) := fun j w hw h2 => h j w (am_get_cut hw).1 h2
theorem am_ii_inv {st : List Value} {k : Int32 → Int32 → List Value → am_O} {o : am_S ⊕ (Option Value) ⊕ (Nat × List Value × am_S)} (h : am_ii st k = some o) : ∃ x y r, st = .int y :: .int x :: r ∧ k x y r = some o := by
  unfold am_ii at h
  split at h
  · exact ⟨_, _, _, rfl, h⟩
  · cases h
theorem am_i1_inv {st : List Value} {k : Int32 → List Value → am_O} {o : am_S ⊕ (Option Value) ⊕ (Nat × List Value × am_S)} (h : am_i1 st k = some o) : ∃ x r, st = .int x :: r ∧ k x r = some o := by
  unfold am_i1 at h
  split at h
  · exact ⟨_, _, rfl, h⟩
  · cases h
theorem am_ll_inv {st : List Value} {k : Int64 → Int64 → List Value → am_O} {o : am_S ⊕ (Option Value) ⊕ (Nat × List Value × am_S)} (h : am_ll st k = some o) : ∃ x y r, st = .long y :: .long x :: r ∧ k x y r = some o := by
  unfold am_ll at h
  split at h
  · exact ⟨_, _, _, rfl, h⟩
  · cases h
theorem am_l1_inv {st : List Value} {k : Int64 → List Value → am_O} {o : am_S ⊕ (Option Value) ⊕ (Nat × List Value × am_S)} (h : am_l1 st k = some o) : ∃ x r, st = .long x :: r ∧ k x r = some o := by
  unfold am_l1 at h
  split at h
  · exact ⟨_, _, rfl, h⟩
  · cases h
theorem am_r1_inv {st : List Value} {k : Nat → List Value → am_O} {o : am_S ⊕ (Option Value) ⊕ (Nat × List Value × am_S)} (h : am_r1 st k = some o) : ∃ x r, st = .ref x :: r ∧ k x r = some o := by
  unfold am_r1 at h
  split at h
  · exact ⟨_, _, rfl, h⟩
  · cases h
theorem am_ri_inv {st : List Value} {k : Nat → Int32 → List Value → am_O} {o : am_S ⊕ (Option Value) ⊕ (Nat × List Value × am_S)} (h : am_ri st k = some o) : ∃ q j r, st = .int j :: .ref q :: r ∧ k q j r = some o := by
  unfold am_ri at h
  split at h
  · exact ⟨_, _, _, rfl, h⟩
  · cases h
theorem am_cA_inv {x : am_C} {ty : Nat} {k : Nat → (Nat → Int32) → am_O} {o : am_S ⊕ (Option Value) ⊕ (Nat × List Value × am_S)} (h : am_cA x ty k = some o) : ∃ n f, x = .inr (ty, n, .inl f) ∧ k n f = some o := by
  unfold am_cA at h
  split at h
  · rename_i t n f
    cases e : Nat.beq t ty with
    | true => rw [e] at h; have := Nat.eq_of_beq_eq_true e; subst this; exact ⟨n, f, rfl, h⟩
    | false => rw [e] at h; cases h
  · cases h
theorem am_cL_inv {x : am_C} {k : Nat → (Nat → Int64) → am_O} {o : am_S ⊕ (Option Value) ⊕ (Nat × List Value × am_S)} (h : am_cL x k = some o) : ∃ n f, x = .inr (3, n, .inr (.inl f)) ∧ k n f = some o := by
  unfold am_cL at h
  split at h
  · rename_i t n f
    cases e : Nat.beq t 3 with
    | true => rw [e] at h; have := Nat.eq_of_beq_eq_true e; subst this; exact ⟨n, f, rfl, h⟩
    | false => rw [e] at h; cases h
  · cases h
theorem am_cQ_inv {x : am_C} {k : Nat → Nat → (Nat → Option Nat) → am_O} {o : am_S ⊕ (Option Value) ⊕ (Nat × List Value × am_S)} (h : am_cQ x k = some o) : ∃ t n f, x = .inr (t, n, .inr (.inr f)) ∧ k t n f = some o := by
  unfold am_cQ at h
  split at h
  · exact ⟨_, _, _, rfl, h⟩
  · cases h
theorem am_cO_inv {x : am_C} {k : Nat → List Value → am_O} {o : am_S ⊕ (Option Value) ⊕ (Nat × List Value × am_S)} (h : am_cO x k = some o) : ∃ t f, x = .inl (t, f) ∧ k t f = some o := by
  unfold am_cO at h
  split at h
  · exact ⟨_, _, rfl, h⟩
  · cases h
theorem am_ix_inv {j : Int32} {n : Nat} {o : am_O} {x : am_S ⊕ (Option Value) ⊕ (Nat × List Value × am_S)} (h : am_ix j n o = some x) : vp_in j n ∧ o = some x := by
  unfold am_ix at h
  split at h
  · cases h
  · rename_i e
    exact ⟨e, h⟩
theorem am_bif_inv {b : Bool} {o : am_O} {x : am_S ⊕ (Option Value) ⊕ (Nat × List Value × am_S)} (h : (bif b then o else none) = some x) : b = true ∧ o = some x := by
  cases b
  · cases h
  · exact ⟨rfl, h⟩
section AMP
variable {p : Program} {l : Launch} {e : Env} {R : Room} {s : State} {m : MethodId} {args : Array Value} {below : List Frame} {meth : Method} {c : Code} {H : Heap} {locs : List Loc} {cells slots : Nat} {Q : State → Prop}
variable {D : va_G} {ad dA : Nat → Nat} {Ls : Nat} {xs : Nat → Int32} {h : am_H} {P : Nat → am_M} {yN : Nat → MethodName} {cN : Nat → ByteArray} {Ts : List Cond} {NM M pc nx a b d L ret nL : Nat} {ls : List (Option Value)} {lsr : Array Slot} {st : List Value} {S' : am_S}
/-- what stands behind an instruction -/
def am_KK (p : Program) (l : Launch) (e : Env) (R : Room) (s : State) (m : MethodId) (args : Array Value) (below : List Frame) (meth : Method) (c : Code) (cells slots : Nat) (Q : State → Prop) (D : va_G) (ad dA : Nat → Nat) (Ls : Nat) (xs : Nat → Int32) (nL : Nat) (h : am_H) (S' : am_S) : Prop :=
  ∀ (H1 : Heap) (locs1 : List Loc) (lsr1 : Array Slot), am_G D ad dA Ls xs s.heap H1 S'.2.2.2 locs1 → am_LN ad S'.2.1 lsr1 nL → H1.size = s.heap.size + (cells + (S'.2.2.2.1 - h.1)) → W p l e R s m args below meth c H1 locs1 (cells + (S'.2.2.2.1 - h.1)) (slots + (S'.2.2.2.2.1 - h.2.1)) Q (F0 m S'.1 lsr1 (S'.2.2.1.map (am_v ad)))
theorem am_go {pc' : Nat} {ls' : List (Option Value)} {lsr' : Array Slot} {st' : List Value} (kk : am_KK p l e R s m args below meth c cells slots Q D ad dA Ls xs nL h (pc', ls', st', h)) (g : am_G D ad dA Ls xs s.heap H h locs) (hl : am_LN ad ls' lsr' nL) (hz : H.size = s.heap.size + cells) : W p l e R s m args below meth c H locs cells slots Q (F0 m pc' lsr' (st'.map (am_v ad))) := by
  have := kk H locs lsr' g hl (by show H.size = s.heap.size + (cells + (h.1 - h.1)); rw [Nat.sub_self]; exact hz)
  simpa only [Nat.sub_self, Nat.add_zero] using this
/-- the instructions that look at the heap or at the tables -/
def am_hp : Instr → Bool
  | .iaload | .baload | .laload | .aaload | .iastore | .bastore | .lastore | .aastore | .arraylength | .newarray _ | .anewarray _ | .new _ | .getfield _ | .putfield _ | .getstatic _ | .invokevirtual _ | .invokespecial _ | .invokestatic _ | .ldc _ => true
  | _ => false
/-- the plain instructions: stack and locals alone -/
theorem am_sd1 (X : am_X P yN cN Ts p s m args meth c M) (hml : nL = (P M).2.1) (hK : am_K D ad dA Ls xs s) {i : Instr} (hd : ∃ len, decode (cN M) pc = .ok (i, len) ∧ ((∃ d lo hi os, i = .tableswitch d lo hi os) ∨ (len = am_len i ∧ nx = pc + len))) (hE : am_Ei P yN NM Ts (am_cn (P M).1) (yN M).name (P M).2.1 i pc a b)
    (g : am_G D ad dA Ls xs s.heap H h locs) (hl : am_LN ad ls lsr nL) (hz : H.size = s.heap.size + cells) (kk : am_KK p l e R s m args below meth c cells slots Q D ad dA Ls xs nL h S') (hs : am_do P d L ret i pc nx a b ls st h = some (.inl S'))
    (hh : am_hp i = false) :
    W p l e R s m args below meth c H locs cells slots Q (F0 m pc lsr (st.map (am_v ad))) := by
  obtain ⟨hx, hb, hml2, hown, hts, hr, hlocks, hnm⟩ := X
  obtain ⟨len, hd, hlen⟩ := hd
  cases i
  case tableswitch dflt lo hi offs =>
    have hs0 := am_i1_inv hs; clear hs; obtain ⟨x, r, hst, hs⟩ := hs0; subst hst
    split at hs
    · rename_i hc
      cases hs
      exact lv_tableOut hx hb hd hc hE (am_go kk g hl hz)
    · rename_i hc
      split at hs
      · rename_i off ho
        split at hs
        · cases hs
        · rename_i hn
          cases hs
          exact lv_tableIn hx hb hd (fun z => hc (Or.inl z)) (fun z => hc (Or.inr z)) ho (by omega) (am_go kk g hl hz)
      · cases hs
  all_goals (have hl1 := hlen.resolve_left (by rintro ⟨_, _, _, _, hq⟩; cases hq); have hl2 := hl1.1; have hl3 := hl1.2; clear hl1 hlen; subst hl2; subst hl3)
  case aload k =>
    cases hE
    dsimp only [am_do] at hs
    split at hs
    · rename_i q hq
      cases hs
      exact lv_aload hx hb hd (hl.1.2.2 _ _ hq) (am_go kk g hl hz)
    · cases hs
  case aload_n k =>
    cases hE
    dsimp only [am_do] at hs
    split at hs
    · rename_i q hq
      cases hs
      exact lv_aload_n hx hb hd rfl (hl.1.2.2 _ _ hq) (am_go kk g hl hz)
    · cases hs
  case iload k =>
    cases hE
    dsimp only [am_do] at hs
    split at hs
    · rename_i q hq
      cases hs
      exact lv_iload hx hb hd (hl.1.2.2 _ _ hq) (am_go kk g hl hz)
    · cases hs
  case iload_n k =>
    cases hE
    dsimp only [am_do] at hs
    split at hs
    · rename_i q hq
      cases hs
      exact lv_iload_n hx hb hd rfl (hl.1.2.2 _ _ hq) (am_go kk g hl hz)
    · cases hs
  case lload k =>
    cases hE
    dsimp only [am_do] at hs
    split at hs
    · rename_i q hq
      cases hs
      exact lv_lload hx hb hd (hl.1.2.2 _ _ hq) (am_go kk g hl hz)
    · cases hs
  case lload_n k =>
    cases hE
    dsimp only [am_do] at hs
    split at hs
    · rename_i q hq
      cases hs
      exact lv_lload_n hx hb hd rfl (hl.1.2.2 _ _ hq) (am_go kk g hl hz)
    · cases hs
  case astore k =>
    obtain ⟨rfl, hk⟩ := hE
    have hs0 := am_r1_inv hs; clear hs; obtain ⟨q, r, hst, hs⟩ := hs0; subst hst
    cases hs
    exact lv_astore hx hb hd (am_L_has hl.1) (by rw [hml]; exact hk) rfl (fun ls' h' => am_go kk g ⟨am_L_st1 (v := .ref q) hl.2 h', am_nd_set (am_nd_cut hl.2) (fun w e h2 => by cases e; cases h2)⟩ hz)
  case astore_n k =>
    obtain ⟨rfl, hk⟩ := hE
    have hs0 := am_r1_inv hs; clear hs; obtain ⟨q, r, hst, hs⟩ := hs0; subst hst
    cases hs
    exact lv_astore_n hx hb hd rfl (am_L_has hl.1) (by rw [hml]; exact hk) rfl (fun ls' h' => am_go kk g ⟨am_L_st1 (v := .ref q) hl.2 h', am_nd_set (am_nd_cut hl.2) (fun w e h2 => by cases e; cases h2)⟩ hz)
  case istore k =>
    obtain ⟨rfl, hk⟩ := hE
    have hs0 := am_i1_inv hs; clear hs; obtain ⟨q, r, hst, hs⟩ := hs0; subst hst
    cases hs
    exact lv_istore hx hb hd (am_L_has hl.1) (by rw [hml]; exact hk) rfl (fun ls' h' => am_go kk g ⟨am_L_st1 (v := .int q) hl.2 h', am_nd_set (am_nd_cut hl.2) (fun w e h2 => by cases e; cases h2)⟩ hz)
  case istore_n k =>
    obtain ⟨rfl, hk⟩ := hE
    have hs0 := am_i1_inv hs; clear hs; obtain ⟨q, r, hst, hs⟩ := hs0; subst hst
    cases hs
    exact lv_istore_n hx hb hd rfl (am_L_has hl.1) (by rw [hml]; exact hk) rfl (fun ls' h' => am_go kk g ⟨am_L_st1 (v := .int q) hl.2 h', am_nd_set (am_nd_cut hl.2) (fun w e h2 => by cases e; cases h2)⟩ hz)
  case lstore k =>
    obtain ⟨rfl, hk⟩ := hE
    have hs0 := am_l1_inv hs; clear hs; obtain ⟨q, r, hst, hs⟩ := hs0; subst hst
    cases hs
    exact lv_lstore hx hb hd (am_L_has hl.1) (by rw [hml]; exact hk) rfl (fun ls' h' => am_go kk g ⟨am_L_st2 (v := .long q) hl.2 h', am_nd_set (am_nd_set (am_nd_cut hl.2) (fun w e h2 => by cases e; rfl)) (fun w e => by cases e)⟩ hz)
  case lstore_n k =>
    obtain ⟨rfl, hk⟩ := hE
    have hs0 := am_l1_inv hs; clear hs; obtain ⟨q, r, hst, hs⟩ := hs0; subst hst
    cases hs
    exact lv_lstore_n hx hb hd rfl (am_L_has hl.1) (by rw [hml]; exact hk) rfl (fun ls' h' => am_go kk g ⟨am_L_st2 (v := .long q) hl.2 h', am_nd_set (am_nd_set (am_nd_cut hl.2) (fun w e h2 => by cases e; rfl)) (fun w e => by cases e)⟩ hz)
  case iinc k n =>
    obtain ⟨rfl, hk⟩ := hE
    dsimp only [am_do] at hs
    split at hs
    · rename_i q hq
      cases hs
      obtain ⟨j, hj⟩ := List.mem_iff_getElem?.mp ((am_prs_mem ls 0 (a, .int q)).mpr ⟨a, .int q, hq, by rw [Nat.zero_add]; rfl⟩)
      exact lv_iinc hx hb hd (am_L_has hl.1) hj rfl (by rw [hml]; exact hk) rfl (fun ls' h' => am_go kk g ⟨am_L_st1 (v := .int _) hl.2 h', am_nd_set (am_nd_cut hl.2) (fun w e h2 => by cases e; cases h2)⟩ hz)
    · cases hs
  case iconst n => cases hs; exact lv_iconst hx hb hd rfl (am_go kk g hl hz)
  case bipush n => cases hs; exact lv_bipush hx hb hd rfl (am_go kk g hl hz)
  case sipush n => cases hs; exact lv_sipush hx hb hd rfl (am_go kk g hl hz)
  case lconst n => cases hs; exact lv_lconst hx hb hd rfl (am_go kk g hl hz)
  case ldc2_w idx => cases hs; exact lv_ldc2 hx hb hown (hts _ hE) hd (am_go kk g hl hz)
  case iadd => have hs0 := am_ii_inv hs; clear hs; obtain ⟨x, y, r, hst, hs⟩ := hs0; subst hst; cases hs; exact lv_iadd hx hb hd (am_go kk g hl hz)
  case isub => have hs0 := am_ii_inv hs; clear hs; obtain ⟨x, y, r, hst, hs⟩ := hs0; subst hst; cases hs; exact lv_isub hx hb hd (am_go kk g hl hz)
  case imul => have hs0 := am_ii_inv hs; clear hs; obtain ⟨x, y, r, hst, hs⟩ := hs0; subst hst; cases hs; exact lv_imul hx hb hd (am_go kk g hl hz)
  case iand => have hs0 := am_ii_inv hs; clear hs; obtain ⟨x, y, r, hst, hs⟩ := hs0; subst hst; cases hs; exact lv_iand hx hb hd (am_go kk g hl hz)
  case ior => have hs0 := am_ii_inv hs; clear hs; obtain ⟨x, y, r, hst, hs⟩ := hs0; subst hst; cases hs; exact lv_ior hx hb hd (am_go kk g hl hz)
  case ixor => have hs0 := am_ii_inv hs; clear hs; obtain ⟨x, y, r, hst, hs⟩ := hs0; subst hst; cases hs; exact lv_ixor hx hb hd (am_go kk g hl hz)
  case ishl => have hs0 := am_ii_inv hs; clear hs; obtain ⟨x, y, r, hst, hs⟩ := hs0; subst hst; cases hs; exact lv_ishl hx hb hd (am_go kk g hl hz)
  case ishr => have hs0 := am_ii_inv hs; clear hs; obtain ⟨x, y, r, hst, hs⟩ := hs0; subst hst; cases hs; exact lv_ishr hx hb hd (am_go kk g hl hz)
  case iushr => have hs0 := am_ii_inv hs; clear hs; obtain ⟨x, y, r, hst, hs⟩ := hs0; subst hst; cases hs; exact lv_iushr hx hb hd rfl (am_go kk g hl hz)
  case idiv =>
    have hs0 := am_ii_inv hs; clear hs; obtain ⟨x, y, r, hst, hs⟩ := hs0; subst hst
    split at hs
    · cases hs
    · rename_i hy
      cases hs; exact lv_idiv hx hb hd hy (am_go kk g hl hz)
  case irem =>
    have hs0 := am_ii_inv hs; clear hs; obtain ⟨x, y, r, hst, hs⟩ := hs0; subst hst
    split at hs
    · cases hs
    · rename_i hy
      cases hs; exact lv_irem hx hb hd hy (am_go kk g hl hz)
  case ineg => have hs0 := am_i1_inv hs; clear hs; obtain ⟨x, r, hst, hs⟩ := hs0; subst hst; cases hs; exact lv_ineg hx hb hd (am_go kk g hl hz)
  case ladd => have hs0 := am_ll_inv hs; clear hs; obtain ⟨x, y, r, hst, hs⟩ := hs0; subst hst; cases hs; exact lv_ladd hx hb hd (am_go kk g hl hz)
  case lmul => have hs0 := am_ll_inv hs; clear hs; obtain ⟨x, y, r, hst, hs⟩ := hs0; subst hst; cases hs; exact lv_lmul hx hb hd (am_go kk g hl hz)
  case lor => have hs0 := am_ll_inv hs; clear hs; obtain ⟨x, y, r, hst, hs⟩ := hs0; subst hst; cases hs; exact lv_lor hx hb hd (am_go kk g hl hz)
  case lcmp => have hs0 := am_ll_inv hs; clear hs; obtain ⟨x, y, r, hst, hs⟩ := hs0; subst hst; cases hs; exact W.lcmp hx hb hd (am_go kk g hl hz)
  case ldiv =>
    have hs0 := am_ll_inv hs; clear hs; obtain ⟨x, y, r, hst, hs⟩ := hs0; subst hst
    split at hs
    · cases hs
    · rename_i hy
      cases hs; exact lv_ldiv hx hb hd hy (am_go kk g hl hz)
  case lrem =>
    have hs0 := am_ll_inv hs; clear hs; obtain ⟨x, y, r, hst, hs⟩ := hs0; subst hst
    split at hs
    · cases hs
    · rename_i hy
      cases hs; exact lv_lrem hx hb hd hy (am_go kk g hl hz)
  case lshl =>
    have hs0 := am_i1_inv hs; clear hs; obtain ⟨y, r, hst, hs⟩ := hs0; subst hst
    have hs0 := am_l1_inv hs; clear hs; obtain ⟨x, r, hst, hs⟩ := hs0; subst hst
    cases hs; exact lv_lshl hx hb hd rfl (am_go kk g hl hz)
  case i2l => have hs0 := am_i1_inv hs; clear hs; obtain ⟨x, r, hst, hs⟩ := hs0; subst hst; cases hs; exact lv_i2l hx hb hd rfl (am_go kk g hl hz)
  case l2i => have hs0 := am_l1_inv hs; clear hs; obtain ⟨x, r, hst, hs⟩ := hs0; subst hst; cases hs; exact lv_l2i hx hb hd rfl (am_go kk g hl hz)
  case i2b => have hs0 := am_i1_inv hs; clear hs; obtain ⟨x, r, hst, hs⟩ := hs0; subst hst; cases hs; exact lv_i2b hx hb hd rfl (am_go kk g hl hz)
  case i2c => have hs0 := am_i1_inv hs; clear hs; obtain ⟨x, r, hst, hs⟩ := hs0; subst hst; cases hs; exact lv_i2c hx hb hd rfl (am_go kk g hl hz)
  case dup =>
    dsimp only [am_do] at hs
    split at hs
    · cases hs; exact lv_dup hx hb hd rfl (am_go kk g hl hz)
    · cases hs; exact lv_dup hx hb hd rfl (am_go kk g hl hz)
    · cases hs
  case dup2 => have hs0 := am_ri_inv hs; clear hs; obtain ⟨q, j, r, hst, hs⟩ := hs0; subst hst; cases hs; exact lv_dup2_11 hx hb hd rfl rfl (am_go kk g hl hz)
  case pop => have hs0 := am_i1_inv hs; clear hs; obtain ⟨x, r, hst, hs⟩ := hs0; subst hst; cases hs; exact lv_pop hx hb hd rfl (am_go kk g hl hz)
  case goto off => cases hs; exact lv_goto hx hb hd hE (am_go kk g hl hz)
  case ifnonnull off =>
    dsimp only [am_do] at hs
    split at hs
    · cases hs; exact lv_ifnonnull hx hb hd hE (am_go kk g hl hz)
    · cases hs; exact lv_ifnonnullN hx hb hd (am_go kk g hl hz)
    · cases hs
  case ifCond cd off =>
    have hs0 := am_i1_inv hs; clear hs; obtain ⟨x, r, hst, hs⟩ := hs0; subst hst
    cases hc : am_cnd cd x 0 with
    | true =>
      rw [hc] at hs; cases hs
      cases cd
      · exact lv_if_eq hx hb hd hE (fun _ => am_go kk g hl hz) (fun z => absurd (of_decide_eq_true hc) z)
      · exact lv_if_ne hx hb hd hE (fun _ => am_go kk g hl hz) (fun z => absurd z (of_decide_eq_true hc))
      · exact lv_if_lt hx hb hd hE (fun _ => am_go kk g hl hz) (fun z => absurd (of_decide_eq_true hc) z)
      · exact lv_if_ge hx hb hd hE (fun _ => am_go kk g hl hz) (fun z => absurd (of_decide_eq_true hc) z)
      · exact lv_if_gt hx hb hd hE (fun _ => am_go kk g hl hz) (fun z => absurd (of_decide_eq_true hc) z)
      · exact lv_if_le hx hb hd hE (fun _ => am_go kk g hl hz) (fun z => absurd (of_decide_eq_true hc) z)
    | false =>
      rw [hc] at hs; cases hs
      cases cd
      · exact lv_if_eq hx hb hd hE (fun z => absurd z (of_decide_eq_false hc)) (fun _ => am_go kk g hl hz)
      · exact lv_if_ne hx hb hd hE (fun z => absurd z (of_decide_eq_false hc)) (fun _ => am_go kk g hl hz)
      · exact lv_if_lt hx hb hd hE (fun z => absurd z (of_decide_eq_false hc)) (fun _ => am_go kk g hl hz)
      · exact lv_if_ge hx hb hd hE (fun z => absurd z (of_decide_eq_false hc)) (fun _ => am_go kk g hl hz)
      · exact lv_if_gt hx hb hd hE (fun z => absurd z (of_decide_eq_false hc)) (fun _ => am_go kk g hl hz)
      · exact lv_if_le hx hb hd hE (fun z => absurd z (of_decide_eq_false hc)) (fun _ => am_go kk g hl hz)
  case if_icmp cd off =>
    have hs0 := am_ii_inv hs; clear hs; obtain ⟨x, y, r, hst, hs⟩ := hs0; subst hst
    cases hc : am_cnd cd x y with
    | true =>
      rw [hc] at hs; cases hs
      cases cd
      · exact lv_icmp_eq hx hb hd hE (fun _ => am_go kk g hl hz) (fun z => absurd (of_decide_eq_true hc) z)
      · exact lv_icmp_ne hx hb hd hE (fun _ => am_go kk g hl hz) (fun z => absurd z (of_decide_eq_true hc))
      · exact lv_icmp_lt hx hb hd hE (fun _ => am_go kk g hl hz) (fun z => absurd (of_decide_eq_true hc) z)
      · exact lv_icmp_ge hx hb hd hE (fun _ => am_go kk g hl hz) (fun z => absurd (of_decide_eq_true hc) z)
      · exact lv_icmp_gt hx hb hd hE (fun _ => am_go kk g hl hz) (fun z => absurd (of_decide_eq_true hc) z)
      · exact lv_icmp_le hx hb hd hE (fun _ => am_go kk g hl hz) (fun z => absurd (of_decide_eq_true hc) z)
    | false =>
      rw [hc] at hs; cases hs
      cases cd
      · exact lv_icmp_eq hx hb hd hE (fun z => absurd z (of_decide_eq_false hc)) (fun _ => am_go kk g hl hz)
      · exact lv_icmp_ne hx hb hd hE (fun z => absurd z (of_decide_eq_false hc)) (fun _ => am_go kk g hl hz)
      · exact lv_icmp_lt hx hb hd hE (fun z => absurd z (of_decide_eq_false hc)) (fun _ => am_go kk g hl hz)
      · exact lv_icmp_ge hx hb hd hE (fun z => absurd z (of_decide_eq_false hc)) (fun _ => am_go kk g hl hz)
      · exact lv_icmp_gt hx hb hd hE (fun z => absurd z (of_decide_eq_false hc)) (fun _ => am_go kk g hl hz)
      · exact lv_icmp_le hx hb hd hE (fun z => absurd z (of_decide_eq_false hc)) (fun _ => am_go kk g hl hz)
  all_goals (first | (cases hh; done) | (cases hs; done) | (exfalso; dsimp only [am_do] at hs; split at hs <;> first | (cases hs; done) | (have hs1 := (am_bif_inv hs).2; cases hs1)))
end AMP
end
section
/-! ===== calls and the main theorem ===== -/
section AMC
variable {D : va_G} {ad dA : Nat → Nat} {Ls : Nat} {xs : Nat → Int32}
theorem am_K_moved {s U : State} {H : Heap} {locs : List Loc} (hK : am_K D ad dA Ls xs s) (hU : U.heap = H) (hW : s.WarmedH U.vm) (hS : va_S (am_A ad) s.heap H locs) : am_K D ad dA Ls xs U := by
  obtain ⟨hKa, hK5, ⟨z1, z2, z3, z4, z5, z6, z7, z8, z9, z10⟩, h8, hA⟩ := hK
  subst hU
  have hal := hW.alike
  refine ⟨va_K.moved hal hKa, ?_, ⟨va_X.moved hal (z1.kept ?_), z2, (z3.moved hal).kept hS.2.1, (z4.moved hal).kept hS.2.1, (z5.moved hal).kept hS.2.1, z6.warm hW, z7.warm hW, z8.warm hW, (z9.moved hal).kept hS.2.1, (z10.moved hal).kept hS.2.1⟩, Nat.le_trans h8 hS.1, hA⟩
  · obtain ⟨kA, h1, h2⟩ := hK5
    obtain ⟨k', hk', he⟩ := hal.2.2 _ _ h1
    exact ⟨k', hk', by rw [he]; exact h2⟩
  · obtain ⟨scr, h1, -⟩ := z1
    exact hS.2.1 _ (Array.getElem?_eq_some_iff.mp h1).1 z2
theorem am_K_cal {U : State} {g : JFrame} {mk : MethodId} {a : Array Value} (hK : am_K D ad dA Ls xs U) : am_K D ad dA Ls xs (U.calling g mk a) := by
  obtain ⟨hKa, hK5, ⟨z1, z2, z3, z4, z5, z6, z7, z8, z9, z10⟩, h8, hA⟩ := hK
  have hal : U.vm.Alike (U.calling g mk a).vm := Vm.Alike.refl U.vm
  exact ⟨va_K.moved hal hKa, hK5, ⟨va_X.moved hal z1, z2, z3.moved hal, z4.moved hal, z5.moved hal, z6.same rfl, z7.same rfl, z8.same rfl, z9.moved hal, z10.moved hal⟩, h8, hA⟩
/-- a method's start and end, as the abstract machine has them -/
def am_B (D : va_G) (ad dA : Nat → Nat) (Ls : Nat) (xs : Nat → Int32) (h : am_H) (U : State) : Prop := am_K D ad dA Ls xs U ∧ am_G D ad dA Ls xs U.heap U.heap h []
def am_Qc (D : va_G) (ad dA : Nat → Nat) (Ls : Nat) (xs : Nat → Int32) (r : Option Value) (h : am_H) : Array Value → State → Outcome → State → Prop := fun _ st o t => o = .returned (r.map (am_v ad)) ∧ ∃ locs, am_G D ad dA Ls xs st.heap t.heap h locs
theorem am_blind {vs : List Value} {h : am_H} : FrameBlind (va_Pc vs (am_B D ad dA Ls xs h)) := fun a U g mk q => ⟨q.1, am_K_cal q.2.1, q.2.2⟩
variable {p : Program} {l : Launch} {e : Env} {R : Room} {s : State} {m : MethodId} {args : Array Value} {below : List Frame} {meth : Method} {c : Code} {H : Heap} {locs : List Loc} {cells slots : Nat} {Q : State → Prop}
variable {h h1 : am_H} {lsr : Array Slot} {pc : Nat} {rest st0 : List Value} {r : Option Value} {a : Array Value}
theorem am_pre (g : am_G D ad dA Ls xs s.heap H h locs) (hK : am_K D ad dA Ls xs s) {U : State} (hU : U.heap = H) (hW : s.WarmedH U.vm) : am_B D ad dA Ls xs h U := by
  refine ⟨am_K_moved hK hU hW g.2.2.1, ?_⟩
  subst hU
  obtain ⟨g1, g2, g3, g4, g5, g6, g7⟩ := g
  exact ⟨g1, g2, va_S.rf, g4, g5, g6, g7⟩
theorem am_goC (hr : va_Run p l e R s m args below meth c H locs cells slots (h1.1 - h.1) (h1.2.1 - h.2.1) (F0 m pc lsr st0) rest (am_Qc D ad dA Ls xs r h1 a) (am_A ad)) (hA : ∀ i, 8 ≤ i → ad (i + 1) = ad i + 1) (g : am_G D ad dA Ls xs s.heap H h locs) (hz : H.size = s.heap.size + cells) (hle : h.1 ≤ h1.1)
    (kk : ∀ (H1 : Heap) (locs1 : List Loc), am_G D ad dA Ls xs s.heap H1 h1 locs1 → H1.size = s.heap.size + (cells + (h1.1 - h.1)) → W p l e R s m args below meth c H1 locs1 (cells + (h1.1 - h.1)) (slots + (h1.2.1 - h.2.1)) Q (F0 m (pc + 3) lsr ((r.map (am_v ad)).toList ++ rest))) : W p l e R s m args below meth c H locs cells slots Q (F0 m pc lsr st0) := by
  intro T hT X
  obtain ⟨v, st₀, t, T', L, h0, X', hL, e1, e2, ⟨hv, locs', hG⟩, st⟩ := hr T hT X
  cases hv
  have g3 := g.2.2.1
  obtain ⟨q1, q2, q3, q4, q5, q6, q7⟩ := hG
  rw [h0] at q3
  rw [← e1] at q1 q3 q5
  have hsz : T'.heap.size = s.heap.size + (cells + (h1.1 - h.1)) := by
    have a1 := am_ad hA (h.1 - 8)
    have a2 := am_ad hA (h1.1 - 8)
    rw [show 8 + (h.1 - 8) = h.1 by have := g.2.2.2.1; omega] at a1
    rw [show 8 + (h1.1 - 8) = h1.1 by omega] at a2
    have a3 := g.2.2.2.2.1
    have := g.2.2.2.1
    omega
  obtain ⟨t2, a1, b1⟩ := kk T'.heap (locs ++ L) ⟨q1, q2, ⟨(am_S_tr g3 q3).1, (am_S_tr g3 q3).2.1, fun q hq => by
      rcases List.mem_append.mp hq with h | h
      · exact g3.2.2 q h
      · exact hL q h⟩, q4, q5, q6, q7⟩ hsz T' rfl X'
  exact ⟨t2, st t2 a1, b1⟩
end AMC
end
section
/-! ===== String.checkIndex within its bounds: it returns and changes nothing ===== -/
section AMK
variable {Ts : List Cond} {l : Launch} {D : va_G} {ad dA : Nat → Nat} {Ls : Nat} {xs : Nat → Int32} {h : am_H}
theorem am_goodT (hG : ∀ w ∈ Ts, goodWord w = true) {ws : List Cond} (h : ∀ w ∈ ws, w ∈ Ts) : GoodIn Ts ws := fun w hw => ⟨h w hw, good_of_word (hG w (h w hw))⟩
theorem am_consT {w0 : Cond} (h : w0 ∈ Ts) : ∀ w ∈ w0 :: Ts, w ∈ Ts := by
  intro w hw
  rcases List.mem_cons.mp hw with e | e
  · rw [e]; exact h
  · exact e
theorem am_dP0 : decode prog_21_method_11_code 0 = .ok (.iload_n 0, 1) := by decide +kernel
theorem am_dP1 : decode prog_21_method_11_code 1 = .ok (.ifCond .lt 8, 3) := by decide +kernel
theorem am_dP4 : decode prog_21_method_11_code 4 = .ok (.iload_n 0, 1) := by decide +kernel
theorem am_dP5 : decode prog_21_method_11_code 5 = .ok (.iload_n 1, 1) := by decide +kernel
theorem am_dP6 : decode prog_21_method_11_code 6 = .ok (.if_icmp .lt 10, 3) := by decide +kernel
theorem am_dP16 : decode prog_21_method_11_code 16 = .ok (.iload_n 0, 1) := by decide +kernel
theorem am_dP17 : decode prog_21_method_11_code 17 = .ok (.ireturn, 1) := by decide +kernel
theorem am_dC0 : decode prog_16_method_155_code 0 = .ok (.iload_n 0, 1) := by decide +kernel
theorem am_dC1 : decode prog_16_method_155_code 1 = .ok (.iload_n 1, 1) := by decide +kernel
theorem am_dC2 : decode prog_16_method_155_code 2 = .ok (.getstatic 1053, 3) := by decide +kernel
theorem am_dC5 : decode prog_16_method_155_code 5 = .ok (.invokestatic 1059, 3) := by decide +kernel
theorem am_dC8 : decode prog_16_method_155_code 8 = .ok (.pop, 1) := by decide +kernel
theorem am_dC9 : decode prog_16_method_155_code 9 = .ok (.return_, 1) := by decide +kernel
theorem am_ck0 {x y : Int32} {fv : Value} (hf : fv.category = 1) (h0 : ¬ x < 0) (hy : x < y) : Met l am_yPr (Cond.code am_yPr prog_21_method_11_code 3 (some .int) :: Ts) ({ frames := 0, cells := h.1 - h.1, slots := h.2.1 - h.2.1, locals := 0 }) (va_Pc [.int x, .int y, fv] (am_B D ad dA Ls xs h)) (am_Qc D ad dA Ls xs (some (.int x)) h) (h.1 - h.1) (h.2.1 - h.2.1) (am_A ad) := by
  refine Met.ofW (cc := prog_21_method_11_code) (maxL := 3) (ret := some .int) (by decide) rfl ?_
  intro p e s m args below meth c s₁ B hml hv
  obtain ⟨rfl, hK, hGh⟩ := hv
  have hx := B.exec
  have hb := B.bytes
  have hlen : (lg_sl [.int x, .int y, fv]).length ≤ 3 := by cases fv <;> first | (cases hf; done) | exact Nat.le_refl 3
  have hl := lv_entry ([.int x, .int y, fv]) (n := 3) hlen
  rw [lg_entry_eq]
  generalize (lg_sl [.int x, .int y, fv] ++ List.replicate (3 - (lg_sl [.int x, .int y, fv]).length) Slot.unset).toArray = ls at hl ⊢
  have h0l : ls[0]? = some (.val (.int x)) := hl.2.2 (0, .int x) (by simp [lv_args])
  have h1l : ls[1]? = some (.val (.int y)) := hl.2.2 (1, .int y) (by simp [lv_args, Value.category])
  refine lv_iload_n hx hb am_dP0 rfl h0l ?_
  refine lv_if_lt (tgt := 9) hx hb am_dP1 (by decide) (fun z => absurd z h0) (fun _ => ?_)
  refine lv_iload_n hx hb am_dP4 rfl h0l ?_
  refine lv_iload_n hx hb am_dP5 rfl h1l ?_
  refine lv_icmp_lt (tgt := 16) hx hb am_dP6 (by decide) (fun _ => ?_) (fun z => absurd hy z)
  refine lv_iload_n hx hb am_dP16 rfl h0l ?_
  refine W.widen (k := h.1 - h.1) (n := h.2.1 - h.2.1) (by omega) (by omega) ?_
  exact W.iret hx hb B.returns (fun t ht _ => ⟨rfl, [], by rw [ht]; exact hGh⟩) (fun q hq => by cases hq) am_dP17 B.notSynchronized
theorem am_ck1 (hG : ∀ w ∈ Ts, goodWord w = true) (hw : ∀ w ∈ am_ckw, w ∈ Ts) {x y : Int32} (h0 : ¬ x < 0) (hy : x < y) : Met l am_yCk (Cond.code am_yCk prog_16_method_155_code 2 none :: Ts) ({ frames := 1, cells := h.1 - h.1, slots := h.2.1 - h.2.1, locals := 22 }) (va_Pc [.int x, .int y] (am_B D ad dA Ls xs h)) (am_Qc D ad dA Ls xs none h) (h.1 - h.1) (h.2.1 - h.2.1) (am_A ad) := by
  refine Met.ofW (cc := prog_16_method_155_code) (maxL := 2) (ret := none) (by decide) rfl ?_
  intro p e s m args below meth c s₁ B hml hv
  obtain ⟨rfl, hK, hGh⟩ := hv
  have hx := B.exec
  have hb := B.bytes
  have hts0 := atoms_spec (ws := Cond.code am_yCk prog_16_method_155_code 2 none :: Ts) B.pre
  have hts : ∀ w ∈ Ts, w.before [Value.int x, Value.int y].toArray s = true := fun w h => hts0 w (List.mem_cons_of_mem _ h)
  have hown : s.vm.findClass "java/lang/String" = some m.cls := findClass_of_methodNamed B.named
  have hl := lv_entry ([.int x, .int y]) (n := 2) (Nat.le_of_ble_eq_true rfl)
  rw [lg_entry_eq]
  generalize (lg_sl [.int x, .int y] ++ List.replicate (2 - (lg_sl [.int x, .int y]).length) Slot.unset).toArray = ls at hl ⊢
  have h0l : ls[0]? = some (.val (.int x)) := hl.2.2 (0, .int x) (by simp [lv_args])
  have h1l : ls[1]? = some (.val (.int y)) := hl.2.2 (1, .int y) (by simp [lv_args, Value.category])
  have hlw : ∀ w ∈ am_ckw, w.before [Value.int x, Value.int y].toArray s = true := fun w h => hts w (hw w h)
  have main : ∀ fv : Value, fv.category = 1 → va_Z "jdk/internal/util/Preconditions" "SIOOBE_FORMATTER" "Ljava/util/function/BiFunction;" fv (am_A ad) s s.heap → W p l e (headSpec (Cond.code am_yCk prog_16_method_155_code 2 none :: Ts) { frames := 1, cells := h.1 - h.1, slots := h.2.1 - h.2.1, locals := 22 }).room s m [Value.int x, Value.int y].toArray below meth c s.heap [] 0 0 (MQ below (am_Qc D ad dA Ls xs none h) [Value.int x, Value.int y].toArray s (h.1 - h.1) (h.2.1 - h.2.1) (am_A ad)) (F0 m 0 ls []) := by
    intro fv hf hZ
    refine lv_iload_n hx hb am_dC0 rfl h0l ?_
    refine lv_iload_n hx hb am_dC1 rfl h1l ?_
    refine va_gets hx hb hZ va_S.rf hown (hlw _ (by simp [am_ckw])) (fun _ h => h) am_dC2 ?_
    refine am_goC (h := h) (h1 := h) (r := some (.int x)) (rest := []) (va_runS (As := [.int x, .int y, fv]) ⟨hx, hb, hml, hown, hts⟩ (am_ck0 hf h0 hy) ⟨callB_of 3 hts (am_goodT hG (am_consT (hw _ (by simp [am_ckw])))) rfl rfl rfl (hlw _ (by simp [am_ckw, am_yPr])) (hlw _ (by simp [am_ckw])) (by decide +kernel) ⟨Nat.le_refl _, Nat.le_refl _⟩, hlw _ (by simp [am_ckw])⟩ ⟨am_blind, fun U hU hW => ⟨rfl, am_pre hGh hK hU hW⟩⟩ rfl rfl hl.1 rfl (lv_room (by decide)) am_dC5 ⟨Nat.le_of_eq (Nat.zero_add _), Nat.le_of_eq (Nat.zero_add _)⟩) hK.2.2.2.2 hGh rfl (Nat.le_refl _) ?_
    intro H1 locs1 g1 hz1
    refine lv_pop hx hb am_dC8 rfl ?_
    rw [Nat.zero_add, Nat.zero_add]
    exact W.vret hx hb B.returns (fun t ht _ => ⟨rfl, locs1, by rw [ht]; exact g1⟩) g1.2.2.1.2.2 am_dC9 B.notSynchronized
  rcases hK.2.2.1.2.2.2.2.2.2.2.2.2 with hZ | ⟨t, hZ⟩
  · exact main _ rfl hZ
  · exact main _ rfl hZ
variable {p : Program} {e : Env} {R : Room} {s : State} {m : MethodId} {args : Array Value} {below : List Frame} {meth : Method} {c : Code} {H : Heap} {locs : List Loc} {cells slots : Nat} {Q : State → Prop}
theorem am_ckrun (hG : ∀ w ∈ Ts, goodWord w = true) (hw : ∀ w ∈ am_ckw, w ∈ Ts) {cc : ByteArray} {nL pc index : Nat} {own : String} {lsr : Array Slot} {r : List Value} {x y : Int32} (hx : p.tables.exec = Jvm.exec) (hb : c.code = cc) (hml : c.maxLocals = nL) (hown : s.vm.findClass own = some m.cls) (hts : ∀ w ∈ Ts, w.before args s = true) (hsz : lsr.size = nL) (hK : am_K D ad dA Ls xs s) (g : am_G D ad dA Ls xs s.heap H h locs) (hz : H.size = s.heap.size + cells) (hlink : (Cond.methodLink own index am_yCk).before args s = true) (h0 : ¬ x < 0) (hy : x < y) (h8 : am_cat r ≤ 8) (hf : 2 ≤ R.frames) (hL : 60 ≤ R.locals) (hRc : cells + (h.1 - h.1) ≤ R.cells) (hRs : slots + (h.2.1 - h.2.1) ≤ R.slots) (hdg : decode cc pc = .ok (.invokestatic index, 3))
    (kk : ∀ (H1 : Heap) (locs1 : List Loc), am_G D ad dA Ls xs s.heap H1 h locs1 → H1.size = s.heap.size + cells → W p l e R s m args below meth c H1 locs1 cells slots Q (F0 m (pc + 3) lsr (r.map (am_v ad)))) : W p l e R s m args below meth c H locs cells slots Q (F0 m pc lsr ((.int y :: .int x :: r).map (am_v ad))) := by
  refine am_goC (h := h) (h1 := h) (r := none) (rest := r.map (am_v ad)) (va_runS (As := [.int x, .int y]) ⟨hx, hb, hml, hown, hts⟩ (am_ck1 hG hw h0 hy) ⟨callB_of 2 hts (am_goodT hG (am_consT (hw _ (by simp [am_ckw])))) rfl rfl rfl (hts _ (hw _ (by simp [am_ckw, am_yCk]))) hlink (by decide +kernel) ⟨hf, Nat.le_trans (show 8 + (2 + 11) + 22 ≤ 60 by decide) hL⟩, hts _ (hw _ (by simp [am_ckw]))⟩ ⟨am_blind, fun U hU hW => ⟨rfl, am_pre g hK hU hW⟩⟩ rfl rfl hsz rfl ?_ hdg ⟨hRc, hRs⟩) hK.2.2.2.2 g hz (Nat.le_refl _) ?_
  · rw [am_v_sum]
    show 2 * 0 + am_cat r ≤ 8
    omega
  · intro H1 locs1 g1 hz1
    rw [Nat.sub_self] at hz1
    have := kk H1 locs1 g1 hz1
    rw [Nat.sub_self, Nat.sub_self, Nat.add_zero, Nat.add_zero]
    exact this
end AMK
end
section
/-! ===== the JVM does what the abstract machine says: the instructions that look at the heap or at the tables ===== -/
section AMQ
variable {p : Program} {l : Launch} {e : Env} {R : Room} {s : State} {m : MethodId} {args : Array Value} {below : List Frame} {meth : Method} {c : Code} {H H1 : Heap} {locs locs1 : List Loc} {cells slots : Nat} {Q : State → Prop}
variable {D : va_G} {ad dA : Nat → Nat} {Ls : Nat} {xs : Nat → Int32} {h : am_H} {P : Nat → am_M} {yN : Nat → MethodName} {cN : Nat → ByteArray} {Ts : List Cond} {NM M pc nx a b d L ret nL : Nat} {ls : List (Option Value)} {lsr : Array Slot} {st : List Value} {S' : am_S}
theorem am_lt8 {q : Nat} (h : q < 8) : q = 0 ∨ q = 1 ∨ q = 2 ∨ q = 3 ∨ q = 4 ∨ q = 5 ∨ q = 6 ∨ q = 7 := by omega
theorem am_loc (g : am_G D ad dA Ls xs s.heap H h locs) (q : Nat) : (q < 8 ∧ h.2.2 q = am_im Ls xs q) ∨ (8 ≤ q ∧ q < h.1 ∧ (am_W ad dA h)[q - 8]? = some (ad q, am_e ad dA (h.2.2 q))) ∨ h.2.2 q = am_nil := by
  obtain ⟨g1, g2, g3, g4, g5, g6, g7⟩ := g
  by_cases h8 : q < 8
  · exact Or.inl ⟨h8, g7 q h8⟩
  · by_cases hq : q < h.1
    · exact Or.inr (Or.inl ⟨by omega, hq, am_W_at (by omega) hq⟩)
    · exact Or.inr (Or.inr (g6 q (by omega)))
theorem am_goU {q pc' : Nat} {x : am_C} {ls' : List (Option Value)} {lsr' : Array Slot} {st' : List Value} (kk : am_KK p l e R s m args below meth c cells slots Q D ad dA Ls xs nL h (pc', ls', st', am_up h q x)) (g : am_G D ad dA Ls xs s.heap H h locs) (hl : am_LN ad ls' lsr' nL) (hz : H.size = s.heap.size + cells) (h8 : 8 ≤ q) (hq : q < h.1)
    (hP : va_P D am_cl ((am_W ad dA h).set (q - 8) (ad q, am_e ad dA x)) H1) (hD : va_D (am_A ad) ((am_W ad dA h).set (q - 8) (ad q, am_e ad dA x))) (hS : va_S (am_A ad) H H1 locs1) : W p l e R s m args below meth c H1 locs1 cells slots Q (F0 m pc' lsr' (st'.map (am_v ad))) := by
  refine am_sz fun hz1 => ?_
  have h1 := hS.1
  have := kk H1 locs1 lsr' (am_G_up g h8 hq (by omega) hP hD hS) hl (by show H1.size = s.heap.size + (cells + (h.1 - h.1)); rw [Nat.sub_self]; omega)
  simpa only [am_up, Nat.sub_self, Nat.add_zero] using this
theorem am_goN {k pc' : Nat} {x : am_C} {ls' : List (Option Value)} {lsr' : Array Slot} {st' : List Value} (kk : am_KK p l e R s m args below meth c cells slots Q D ad dA Ls xs nL h (pc', ls', .ref h.1 :: st', am_nw h k x)) (g : am_G D ad dA Ls xs s.heap H h locs) (hA : ∀ i, 8 ≤ i → ad (i + 1) = ad i + 1) (hl : am_LN ad ls' lsr' nL) (hz : H.size = s.heap.size + cells) (hz1 : H1.size = H.size + 1)
    (hx : va_at D am_cl (ad h.1, am_e ad dA x) H1) (ho : ∀ q : Nat, q < H.size → H1[q]? = H[q]?) : W p l e R s m args below meth c H1 locs (cells + 1) (slots + k) Q (F0 m pc' lsr' (.ref H.size :: st'.map (am_v ad))) := by
  have := kk H1 locs lsr' (am_G_nw g hA hz1 hx ho) hl (by show H1.size = s.heap.size + (cells + (h.1 + 1 - h.1)); rw [Nat.add_sub_cancel_left]; omega)
  rw [← g.2.2.2.2.1]
  simp only [am_nw, Nat.add_sub_cancel_left] at this
  exact this
theorem am_rf (f : Nat → Option Nat) (j : Nat) : am_v ad (va_rf (f j)) = va_rf ((f j).map ad) := by
  cases f j <;> rfl
/-- an array's class by its kind -/
theorem am_cls {k : Nat} {ty : FieldType} (hK : va_K D am_cl (am_ty dA) s) (hk : (am_ty dA)[k]? = some (dA k, ty)) (hty : ∀ C, ty ≠ .object C) {cA : ClassId} (h : s.vm.findClass ("[" ++ ty.toString) = some cA) : cA = dA k := by
  have h2 := (hK.2 k _ hk).2
  cases ty <;> first | exact absurd rfl (hty _) | exact Option.some.inj (h.symm.trans h2)
theorem am_df_v (ad : Nat → Nat) (a j : Nat) (hj : j < am_nf a) : defaultValue (am_ft a j) = vp_V ((am_df a).map (am_v ad)) j := by
  unfold vp_V am_df
  rw [List.map_map, List.getD_eq_getElem?_getD, List.getElem?_map, List.getElem?_range hj]
  show _ = am_v ad (defaultValue (am_ft a j))
  cases am_ft a j <;> rfl
theorem am_asg (vm : Vm) (cA : ClassId) : vm.assignable cA cA = true := by
  show vm.assignableAux 256 cA cA = true
  unfold Vm.assignableAux
  simp
theorem am_up_map (f : Nat → Option Nat) (k w : Nat) : va_up (fun j => (f j).map ad) k (some (ad w)) = fun j => (va_up f k (some w) j).map ad := by
  funext j
  by_cases hj : j = k
  · simp [va_up, hj]
  · simp [va_up, hj]
/-- the heap's reads and writes, the tables' values -/
theorem am_sd2 (hG : ∀ w ∈ Ts, goodWord w = true) (X : am_X P yN cN Ts p s m args meth c M) (hml : nL = (P M).2.1) (hK : am_K D ad dA Ls xs s) (hU : ∀ k, k < 12 → ∀ w ∈ u_ws (am_cn k) (am_tb k) (am_nf k), w ∈ Ts) {i : Instr} (hd : ∃ len, decode (cN M) pc = .ok (i, len) ∧ ((∃ d lo hi os, i = .tableswitch d lo hi os) ∨ (len = am_len i ∧ nx = pc + len))) (hE : am_Ei P yN NM Ts (am_cn (P M).1) (yN M).name (P M).2.1 i pc a b)
    (g : am_G D ad dA Ls xs s.heap H h locs) (hl : am_LN ad ls lsr nL) (hz : H.size = s.heap.size + cells) (kk : am_KK p l e R s m args below meth c cells slots Q D ad dA Ls xs nL h S') (hs : am_do P d L ret i pc nx a b ls st h = some (.inl S'))
    (hRf : d ≤ R.frames) (hRl : L ≤ R.locals) (hRc : cells + (S'.2.2.2.1 - h.1) ≤ R.cells) (hRs : slots + (S'.2.2.2.2.1 - h.2.1) ≤ R.slots) (hh : am_hp i = true) :
    W p l e R s m args below meth c H locs cells slots Q (F0 m pc lsr (st.map (am_v ad))) := by
  obtain ⟨hx, hb, hml2, hown, hts, hr, hlocks, hnm⟩ := X
  have hK0 := hK
  obtain ⟨hKa, hK5, hZ, h8s, hA⟩ := hK
  obtain ⟨z1, z2, z3, z4, z5, z6, z7, z8, z9, z10⟩ := hZ
  obtain ⟨len, hd, hlen⟩ := hd
  have hS := g.2.2.1
  have hSs := am_S_self hS
  cases i
  all_goals first | (exact Bool.noConfusion hh) | skip
  all_goals (have hl1 := hlen.resolve_left (by rintro ⟨_, _, _, _, hq⟩; cases hq); have hl2 := hl1.1; have hl3 := hl1.2; clear hl1 hlen; subst hl2; subst hl3)
  case iaload =>
    have hs0 := am_ri_inv hs; clear hs; obtain ⟨q, j, r, hst, hs⟩ := hs0; subst hst
    have hs0 := am_cA_inv hs; clear hs; obtain ⟨n, f, hc, hs⟩ := hs0
    have hs0 := am_ix_inv hs; clear hs; obtain ⟨hin, hs⟩ := hs0
    cases hs
    rcases am_loc g q with ⟨h8, hq⟩ | ⟨h8, hlt, hq⟩ | hq
    · rw [hc] at hq
      rcases (am_lt8 h8) with e | e | e | e | e | e | e | e <;> subst e <;> first | (cases hq; done) | skip
      · cases hq
        exact va_sld hx hb z1 (by obtain ⟨scr, h1, -⟩ := z1; exact (Array.getElem?_eq_some_iff.mp h1).1) z2 hS hin hd (am_go kk g hl hz)
      · cases hq
        exact va_ti hx hb z4 hS hin rfl hd (am_go kk g hl hz)
    · rw [hc] at hq
      exact va_iald hx hb hKa g.1 (q - 8) 0 hq rfl hin hd (am_go kk g hl hz)
    · rw [hc] at hq; cases hq
  case baload =>
    have hs0 := am_ri_inv hs; clear hs; obtain ⟨q, j, r, hst, hs⟩ := hs0; subst hst
    have hs0 := am_cA_inv hs; clear hs; obtain ⟨n, f, hc, hs⟩ := hs0
    have hs0 := am_ix_inv hs; clear hs; obtain ⟨hin, hs⟩ := hs0
    cases hs
    rcases am_loc g q with ⟨h8, hq⟩ | ⟨h8, hlt, hq⟩ | hq
    · rw [hc] at hq
      rcases (am_lt8 h8) with e | e | e | e | e | e | e | e <;> subst e <;> rcases hE with hE | hE <;> subst hE <;> first | (cases hq; done) | skip
      · cases hq
        exact va_tb hx hb (z9.1 0 (by decide)).2.2.2 hS hin rfl hd (am_go kk g hl hz)
      · cases hq
        exact va_tb hx hb (z9.1 1 (by decide)).2.2.2 hS hin rfl hd (am_go kk g hl hz)
      · cases hq
        exact va_tb hx hb (z9.1 2 (by decide)).2.2.2 hS hin rfl hd (am_go kk g hl hz)
    · rw [hc] at hq
      rcases hE with hE | hE <;> subst hE
      · exact va_bald hx hb hKa g.1 (q - 8) 1 hq rfl hin hd (am_go kk g hl hz)
      · exact va_zald hx hb hKa g.1 (q - 8) 2 hq rfl hin hd (am_go kk g hl hz)
    · rw [hc] at hq; rcases hE with hE | hE <;> subst hE <;> cases hq
  case laload =>
    have hs0 := am_ri_inv hs; clear hs; obtain ⟨q, j, r, hst, hs⟩ := hs0; subst hst
    have hs0 := am_cL_inv hs; clear hs; obtain ⟨n, f, hc, hs⟩ := hs0
    have hs0 := am_ix_inv hs; clear hs; obtain ⟨hin, hs⟩ := hs0
    cases hs
    rcases am_loc g q with ⟨h8, hq⟩ | ⟨h8, hlt, hq⟩ | hq
    · rw [hc] at hq
      rcases (am_lt8 h8) with e | e | e | e | e | e | e | e <;> subst e <;> cases hq
    · rw [hc] at hq
      exact va_lald hx hb hKa g.1 (q - 8) 3 hq rfl hin hd (am_go kk g hl hz)
    · rw [hc] at hq; cases hq
  case aaload =>
    have hs0 := am_ri_inv hs; clear hs; obtain ⟨q, j, r, hst, hs⟩ := hs0; subst hst
    have hs0 := am_cQ_inv hs; clear hs; obtain ⟨t, n, f, hc, hs⟩ := hs0
    have hs0 := am_bif_inv hs; clear hs; obtain ⟨ht, hs⟩ := hs0
    have hs0 := am_ix_inv hs; clear hs; obtain ⟨hin, hs⟩ := hs0
    have ht := Nat.eq_of_beq_eq_true ht
    subst ht
    cases hs
    have kk2 := am_go kk g hl hz
    rw [List.map_cons, am_rf] at kk2
    rcases am_loc g q with ⟨h8, hq⟩ | ⟨h8, hlt, hq⟩ | hq
    · rw [hc] at hq
      rcases (am_lt8 h8) with e | e | e | e | e | e | e | e <;> subst e <;> cases hq
    · rw [hc] at hq
      rcases hE with hE | hE <;> subst hE
      · exact va_aldq (C := RX6) hx hb hKa g.1 (q - 8) 4 hq rfl hin hd kk2
      · have hlt : j.toNatClampNeg < n := Nat.not_le.mp fun q => hin (Or.inr q)
        exact W.aald (v := va_rf ((f j.toNatClampNeg).map ad)) (ty := .array .int) hx hb (g.1 (q - 8) _ hq) ((hKa.2 5 _ rfl).1 n (fun j => va_rf ((f j).map ad))) rfl (fun q => by cases q) (by show ¬ (j < 0 ∨ (arrV _ _ _).slots.size ≤ _); rw [arrV_size]; exact hin) (by show (arrV _ _ _).slots[_]? = _; rw [arrV_read _ _ hlt]) rfl rfl hd kk2
    · rw [hc] at hq; cases hq
  case arraylength =>
    have hs0 := am_r1_inv hs; clear hs; obtain ⟨q, r, hst, hs⟩ := hs0; subst hst
    split at hs
    · rename_i t n f hc
      have hs0 := am_bif_inv hs; clear hs; obtain ⟨ht, hs⟩ := hs0
      cases hs
      rcases am_loc g q with ⟨h8, hq⟩ | ⟨h8, hlt, hq⟩ | hq
      · rw [hc] at hq
        rcases (am_lt8 h8) with e | e | e | e | e | e | e | e <;> subst e <;> first | (cases hq; done) | skip
        · cases hq
          exact va_slen hx hb z1 (by obtain ⟨scr, h1, -⟩ := z1; exact (Array.getElem?_eq_some_iff.mp h1).1) z2 hS hd (am_go kk g hl hz)
        · cases hq
          exact va_tlen hx hb z4 hS rfl hd (am_go kk g hl hz)
        · cases hq
          exact va_tlen hx hb (z9.1 0 (by decide)).2.2.2 hS rfl hd (am_go kk g hl hz)
        · cases hq
          exact va_tlen hx hb (z9.1 1 (by decide)).2.2.2 hS rfl hd (am_go kk g hl hz)
        · cases hq
          exact va_tlen hx hb (z9.1 2 (by decide)).2.2.2 hS rfl hd (am_go kk g hl hz)
      · rw [hc] at hq
        have ht6 : t < 6 := Nat.lt_of_succ_le (Nat.le_of_ble_eq_true ht)
        have hty : ∃ ty, (am_ty dA)[t]? = some (dA t, ty) := by
          rcases (show t = 0 ∨ t = 1 ∨ t = 2 ∨ t = 3 ∨ t = 4 ∨ t = 5 by omega) with e | e | e | e | e | e <;> subst e <;> exact ⟨_, rfl⟩
        obtain ⟨ty, hty⟩ := hty
        rcases f with f | f | f
        · exact va_alen hx hb hKa g.1 (q - 8) t hq hty rfl hd (am_go kk g hl hz)
        · exact va_alen hx hb hKa g.1 (q - 8) t hq hty rfl hd (am_go kk g hl hz)
        · exact va_alen hx hb hKa g.1 (q - 8) t hq hty rfl hd (am_go kk g hl hz)
      · rw [hc] at hq; cases hq; cases ht
    · cases hs
  case getfield idx =>
    have hs0 := am_r1_inv hs; clear hs; obtain ⟨q, r, hst, hs⟩ := hs0; subst hst
    have hs0 := am_cO_inv hs; clear hs; obtain ⟨ci, fs, hc, hs⟩ := hs0
    have hs0 := am_bif_inv hs; clear hs; obtain ⟨hci, hs⟩ := hs0
    have hci := Nat.eq_of_beq_eq_true hci
    subst hci
    split at hs
    · rename_i v hv
      cases hs
      rcases am_loc g q with ⟨h8, hq⟩ | ⟨h8, hlt, hq⟩ | hq
      · rw [hc] at hq
        rcases (am_lt8 h8) with e | e | e | e | e | e | e | e <;> subst e <;> first | (cases hq; done) | skip
        all_goals cases hq
        all_goals (rcases hE with hE | ⟨-, hE⟩; · exact absurd hE.1 (by decide))
        all_goals (rcases hE with ⟨hb0, hlk⟩ | ⟨hb0, hlk⟩ <;> subst hb0 <;> cases hv)
        · exact vk_getf hx hb (z9.1 0 (by decide)).2.2.1 hS hown (hts _ hlk) (fun _ h => h) hd (am_go kk g hl hz)
        · exact vk_getf hx hb (z9.1 0 (by decide)).2.1 hS hown (hts _ hlk) (fun _ h => h) hd (am_go kk g hl hz)
        · exact vk_getf hx hb (z9.1 1 (by decide)).2.2.1 hS hown (hts _ hlk) (fun _ h => h) hd (am_go kk g hl hz)
        · exact vk_getf hx hb (z9.1 1 (by decide)).2.1 hS hown (hts _ hlk) (fun _ h => h) hd (am_go kk g hl hz)
        · exact vk_getf hx hb (z9.1 2 (by decide)).2.2.1 hS hown (hts _ hlk) (fun _ h => h) hd (am_go kk g hl hz)
        · exact vk_getf hx hb (z9.1 2 (by decide)).2.1 hS hown (hts _ hlk) (fun _ h => h) hd (am_go kk g hl hz)
      · rw [hc] at hq
        rcases hE with ⟨ha, hbn, hlk⟩ | ⟨ha, -⟩
        · exact va_get hx hb hts (hU _ ha) hown hKa g.1 (q - 8) hq (am_clAt _ ha) b hbn (hts _ hlk) (fun _ h => h) (v := am_v ad v) (by rw [List.getElem?_map, hv]; rfl) hd (am_go kk g hl hz)
        · exfalso
          subst ha
          obtain ⟨r0, hr0, -⟩ := g.1 (q - 8) _ hq
          cases hr0
      · rw [hc] at hq; cases hq
    · cases hs
  case getstatic idx =>
    rcases hE with ⟨ha, hlk⟩ | ⟨ha, hlk⟩ <;> subst ha
    · cases hs
      exact va_gets hx hb z3 hS hown (hts _ hlk) (fun _ h => h) hd (am_go kk g hl hz)
    · cases hs
      exact va_gets hx hb z5 hS hown (hts _ hlk) (fun _ h => h) hd (am_go kk g hl hz)
  case ldc idx =>
    rcases hE with ⟨ha, hlk⟩ | ⟨ha, hlk⟩
    · subst ha
      cases hs
      exact lv_ldc hx hb hown (hts _ hlk) hd (am_go kk g hl hz)
    · subst ha
      rcases hlk with ⟨hb0, ho, hi⟩ | ⟨hb0, ho, hi⟩ | ⟨hb0, ho, hi⟩ <;> subst hb0 <;> subst hi <;> cases hs
      · exact va_ldcS hx hb hown (by rw [ho]; exact z6) hd (am_go kk g hl hz)
      · exact va_ldcS hx hb hown (by rw [ho]; exact z7) hd (am_go kk g hl hz)
      · exact va_ldcS hx hb hown (by rw [ho]; exact z8) hd (am_go kk g hl hz)
  case iastore =>
    have hs0 := am_i1_inv hs; clear hs; obtain ⟨x, r, hst, hs⟩ := hs0; subst hst
    have hs0 := am_ri_inv hs; clear hs; obtain ⟨q, j, r, hst, hs⟩ := hs0; subst hst
    have hs0 := am_cA_inv hs; clear hs; obtain ⟨n, f, hc, hs⟩ := hs0
    have hs0 := am_ix_inv hs; clear hs; obtain ⟨hin, hs⟩ := hs0
    split at hs
    · cases hs
    rename_i h8
    cases hs
    rcases am_loc g q with ⟨h8', hq⟩ | ⟨h8', hlt, hq⟩ | hq
    · exact absurd h8' h8
    · rw [hc] at hq
      exact va_iast hx hb hKa g.1 g.2.1 hSs (q - 8) 0 hq rfl hin hd (fun H1 locs1 hP hD hS1 => am_goU kk g hl hz h8' hlt hP hD hS1)
    · rw [hc] at hq; cases hq
  case bastore =>
    have hs0 := am_i1_inv hs; clear hs; obtain ⟨x, r, hst, hs⟩ := hs0; subst hst
    have hs0 := am_ri_inv hs; clear hs; obtain ⟨q, j, r, hst, hs⟩ := hs0; subst hst
    have hs0 := am_cA_inv hs; clear hs; obtain ⟨n, f, hc, hs⟩ := hs0
    have hs0 := am_ix_inv hs; clear hs; obtain ⟨hin, hs⟩ := hs0
    split at hs
    · cases hs
    rename_i h8
    rcases am_loc g q with ⟨h8', hq⟩ | ⟨h8', hlt, hq⟩ | hq
    · exact absurd h8' h8
    · rw [hc] at hq
      rcases hE with hE | hE <;> subst hE <;> cases hs
      · exact va_bast hx hb hKa g.1 g.2.1 hSs (q - 8) 1 hq rfl hin hd (fun H1 locs1 hP hD hS1 => am_goU kk g hl hz h8' hlt hP hD hS1)
      · exact va_zast hx hb hKa g.1 g.2.1 hSs (q - 8) 2 hq rfl hin hd (fun H1 locs1 hP hD hS1 => am_goU kk g hl hz h8' hlt hP hD hS1)
    · rw [hc] at hq; rcases hE with hE | hE <;> subst hE <;> cases hq
  case lastore =>
    have hs0 := am_l1_inv hs; clear hs; obtain ⟨x, r, hst, hs⟩ := hs0; subst hst
    have hs0 := am_ri_inv hs; clear hs; obtain ⟨q, j, r, hst, hs⟩ := hs0; subst hst
    have hs0 := am_cL_inv hs; clear hs; obtain ⟨n, f, hc, hs⟩ := hs0
    have hs0 := am_ix_inv hs; clear hs; obtain ⟨hin, hs⟩ := hs0
    split at hs
    · cases hs
    rename_i h8
    cases hs
    rcases am_loc g q with ⟨h8', hq⟩ | ⟨h8', hlt, hq⟩ | hq
    · exact absurd h8' h8
    · rw [hc] at hq
      exact va_last hx hb hKa g.1 g.2.1 hSs (q - 8) 3 hq rfl hin hd (fun H1 locs1 hP hD hS1 => am_goU kk g hl hz h8' hlt hP hD hS1)
    · rw [hc] at hq; cases hq
  case aastore =>
    have hs0 := am_r1_inv hs; clear hs; obtain ⟨w, r, hst, hs⟩ := hs0; subst hst
    have hs0 := am_ri_inv hs; clear hs; obtain ⟨q, j, r, hst, hs⟩ := hs0; subst hst
    have hs0 := am_cQ_inv hs; clear hs; obtain ⟨t, n, f, hc, hs⟩ := hs0
    have hs0 := am_ix_inv hs; clear hs; obtain ⟨hin, hs⟩ := hs0
    split at hs
    · cases hs
    rename_i h8
    have hs0 := am_bif_inv hs; clear hs; obtain ⟨he, hs⟩ := hs0
    cases hs
    have hw : (am_W ad dA h)[w - 8]? = some (ad w, am_e ad dA (h.2.2 w)) := am_W_at (Nat.not_lt.mp fun z => h8 (Or.inr (Or.inl z))) (Nat.not_le.mp fun z => h8 (Or.inr (Or.inr z)))
    have hlt : j.toNatClampNeg < n := Nat.not_le.mp fun q => hin (Or.inr q)
    have h0 : ¬ j < 0 := fun q => hin (Or.inl q)
    rcases am_loc g q with ⟨h8', hq⟩ | ⟨h8', hlq, hq⟩ | hq
    · exact absurd (Or.inl h8') h8
    · rw [hc] at hq
      unfold am_elt at he
      split at he
      · rename_i fs hcw
        rw [hcw] at hw
        refine va_astq hx hb hKa g.1 g.2.1 hSs (q - 8) 4 (w - 8) 6 (r := (RX6, TX6, 8)) hq rfl hw rfl hin hd (fun H1 locs1 hP hD hS1 => ?_)
        rw [am_up_map] at hP hD
        exact am_goU kk g hl hz h8' hlq hP hD hS1
      · rename_i n2 f2 hcw
        rw [hcw] at hw
        obtain ⟨kA, hkA, hkind⟩ := hK5
        obtain ⟨-, kI, hkI, compI, hkindI⟩ := (hKa.2 0 _ rfl).1 0 (fun _ => .null)
        refine W.aast hx hb (g.1 (q - 8) _ hq) (fun q h => by cases h) (fun h => by cases h) hkA hkind rfl hkI ⟨h0, by show _ < (arrV _ _ _).slots.size; rw [arrV_size]; exact hlt⟩ (g.1 (w - 8) _ hw) (fun q h => by cases h) hkI (am_asg _ _) rfl rfl hd fun H1 e1 zz oq => ?_
        have hP : va_P D am_cl ((am_W ad dA h).set (q - 8) (ad q, .inl (dA 5, n, .inr (.inr (.inr (.inr (va_up (fun j => (f j).map ad) j.toNatClampNeg (some (ad w))))))))) H1 := by
          refine g.1.set g.2.1 hq ?_ oq
          show H1[ad q]? = some (vp_cell _ _)
          rw [e1]
          rw [vp_cell_q, vp_cell_q, arrV_store]
          congr 2
          funext k
          by_cases hk : k = j.toNatClampNeg
          · subst hk
            simp [updV, va_up, va_rf]
          · simp [updV, va_up, hk]
        have hD : va_D (am_A ad) ((am_W ad dA h).set (q - 8) (ad q, .inl (dA 5, n, .inr (.inr (.inr (.inr (va_up (fun j => (f j).map ad) j.toNatClampNeg (some (ad w))))))))) := g.2.1.set hq
        rw [am_up_map] at hP hD
        exact am_goU kk g hl hz h8' hlq hP hD (hSs.put zz oq (g.2.1.2 (q - 8) _ hq))
      · cases he
    · rw [hc] at hq; cases hq
  case newarray ty =>
    obtain ⟨hty, hlk⟩ := hE
    have hs0 := am_i1_inv hs; clear hs; obtain ⟨x, r, hst, hs⟩ := hs0; subst hst
    split at hs
    · cases hs
    rename_i hx0
    cases hs
    have hc1 : cells + 1 ≤ R.cells := by
      have : cells + (h.1 + 1 - h.1) ≤ R.cells := hRc
      omega
    have hc2 : slots + x.toNatClampNeg ≤ R.slots := by
      have : slots + (h.2.1 + x.toNatClampNeg - h.2.1) ≤ R.slots := hRs
      omega
    have hbytes : x.toNatClampNeg * componentBytes (newarray.typeOf ty) ≤ 536870912 := by
      have : x.toNatClampNeg ≤ 1000000 := Nat.not_lt.mp fun z => hx0 (Or.inr z)
      have h8 : componentBytes (newarray.typeOf ty) ≤ 8 := by cases ty <;> decide
      calc x.toNatClampNeg * componentBytes (newarray.typeOf ty) ≤ 1000000 * 8 := Nat.mul_le_mul this h8
        _ ≤ 536870912 := by decide
    refine va_newaK hx hb (hts _ hlk) rfl hd rfl (fun z => hx0 (Or.inl z)) rfl hbytes hc1 hc2 rfl fun H1 cA e1 zz o1 hAr hNm => ?_
    refine am_goN kk g hA hl hz zz ?_ o1
    show va_at D am_cl (ad h.1, am_e ad dA (am_z (am_aty ty) x.toNatClampNeg)) H1
    rw [g.2.2.2.2.1]
    cases ty <;> first | exact absurd hty (by decide) | skip
    · have hcA := am_cls (k := 2) hKa rfl (by intro C; exact fun z => by cases z) hNm
      subst hcA; exact e1
    · have hcA := am_cls (k := 1) hKa rfl (by intro C; exact fun z => by cases z) hNm
      subst hcA; exact e1
    · have hcA := am_cls (k := 0) hKa rfl (by intro C; exact fun z => by cases z) hNm
      subst hcA; exact e1
    · have hcA := am_cls (k := 3) hKa rfl (by intro C; exact fun z => by cases z) hNm
      subst hcA; exact e1
  case anewarray idx =>
    have hs0 := am_i1_inv hs; clear hs; obtain ⟨x, r, hst, hs⟩ := hs0; subst hst
    split at hs
    · cases hs
    rename_i hx0
    cases hs
    have hc1 : cells + 1 ≤ R.cells := by
      have : cells + (h.1 + 1 - h.1) ≤ R.cells := hRc
      omega
    have hc2 : slots + x.toNatClampNeg ≤ R.slots := by
      have : slots + (h.2.1 + x.toNatClampNeg - h.2.1) ≤ R.slots := hRs
      omega
    have hbytes : x.toNatClampNeg * 4 ≤ 536870912 := by
      have : x.toNatClampNeg ≤ 1000000 := Nat.not_lt.mp fun z => hx0 (Or.inr z)
      omega
    have hpush : ∀ cA : ClassId, (H.push ({ cls := cA, slots := Array.replicate x.toNatClampNeg .null, vm := .none } : Cell))[ad h.1]? = some (arrV cA x.toNatClampNeg (fun _ => .null)) := fun cA => by rw [g.2.2.2.2.1, Array.getElem?_push_size, ← arrV_new]
    have ho : ∀ (cA : ClassId) (q : Nat), q < H.size → (H.push ({ cls := cA, slots := Array.replicate x.toNatClampNeg .null, vm := .none } : Cell))[q]? = H[q]? := fun cA q hq => by rw [Array.getElem?_push, if_neg (Nat.ne_of_lt hq)]
    rcases hE with ⟨ha, hlk, hov⟩ | ⟨ha, hlk, hov⟩ <;> subst ha
    · refine W.anew hx hb hown (hts _ hlk) (hts _ hov) rfl hd rfl (fun z => hx0 (Or.inl z)) hbytes hc1 hc2 fun cA kA comp f1 f2 f3 f4 => ?_
      obtain ⟨kA', comp', -, -, -, f1'⟩ := (hKa.2 4 _ rfl).2
      have hcA : cA = dA 4 := Option.some.inj (f1.symm.trans f1')
      refine am_goN kk g hA hl hz (Array.size_push _) ?_ (ho cA)
      subst hcA
      exact hpush _
    · refine W.anewA (t := .int) hx hb hown (hts _ hlk) (hts _ hov) rfl hd rfl (fun z => hx0 (Or.inl z)) hbytes hc1 hc2 fun cA kA comp f1 f2 f3 f4 => ?_
      have hcA := am_cls (k := 5) hKa rfl (by intro C; exact fun z => by cases z) f1
      refine am_goN kk g hA hl hz (Array.size_push _) ?_ (ho cA)
      subst hcA
      exact hpush _
  case new idx =>
    obtain ⟨ha, hlk, hins, hini⟩ := hE
    cases hs
    have hc1 : cells + 1 ≤ R.cells := by
      have : cells + (h.1 + 1 - h.1) ≤ R.cells := hRc
      omega
    have hc2 : slots + am_nf a ≤ R.slots := by
      have : slots + (h.2.1 + am_nf a - h.2.1) ≤ R.slots := hRs
      omega
    have hKn := hKa.1 a _ (am_clAt a ha)
    refine W.newcK hx hb hown (hts _ hlk) (hts _ hins) (hts _ hini) rfl hd hc1 hc2 hKn.2.1 rfl fun H1 kC hkC e1 zz o1 => ?_
    refine am_goN kk g hA hl hz zz ?_ o1
    rw [g.2.2.2.2.1]
    exact ⟨_, am_clAt a ha, (u_born (am_ft a) hts (hU a ha) hKn hkC e1 (am_tyAt a ha)).to (am_df_v ad a)⟩
  case putfield idx =>
    obtain ⟨ha, hbn, hlk, hty, hfin⟩ := hE
    dsimp only [am_do] at hs
    split at hs
    · rename_i v q r
      have hs0 := am_cO_inv hs; clear hs; obtain ⟨ci, fs, hc, hs⟩ := hs0
      have hs0 := am_bif_inv hs; clear hs; obtain ⟨hcd, hs⟩ := hs0
      simp only [Bool.and_eq_true] at hcd
      obtain ⟨⟨⟨hci, hlt⟩, hft⟩, h8⟩ := hcd
      have hci := Nat.eq_of_beq_eq_true hci
      have h8 := Nat.le_of_ble_eq_true h8
      have hlt : b / 8 < fs.length := Nat.lt_of_succ_le (Nat.le_of_ble_eq_true hlt)
      subst hci
      cases hs
      have hnf : narrow (am_ft ci (b / 8)) (am_v ad v) = am_v ad v ∧ fits (am_ft ci (b / 8)) (am_v ad v) = true := by
        rcases hty with ⟨e1, e2⟩ | ⟨e1, e2⟩ | ⟨e1, n, e2⟩ | ⟨e1, n, e2⟩ <;> rw [e1] at hft <;> rw [e2] <;> cases v <;> first | (cases hft; done) | exact ⟨rfl, rfl⟩ | skip
        rename_i x
        simp only [am_fit, Bool.or_eq_true, beq_iff_eq] at hft
        rcases hft with hft | hft <;> subst hft <;> exact ⟨rfl, rfl⟩
      rcases am_loc g q with ⟨h8', hq⟩ | ⟨h8', hlq, hq⟩ | hq
      · omega
      · rw [hc] at hq
        have hset : (fs.map (am_v ad)).set (b / 8) (am_v ad v) = (fs.set (b / 8) v).map (am_v ad) := List.map_set.symm
        rcases hfin with hfin | ⟨hfin, hin, hdecl⟩
        · refine va_put hx hb hts (hU _ ha) (am_ft ci) (am_tyAt _ ha) (am_nmAt _ ha) hown hKa g.1 g.2.1 hSs (q - 8) hq (am_clAt _ ha) (b / 8) hbn (hts _ hlk) (fun _ h => h) hfin (am_tyAt _ ha _ hbn) hnf.1 hnf.2 (by simpa using hlt) hd (fun H1 locs1 hP hD hS1 => ?_)
          rw [hset] at hP hD
          exact am_goU kk g hl hz h8' hlq hP hD hS1
        · refine va_putF hx hb hts (hU _ ha) (am_ft ci) (am_tyAt _ ha) (am_nmAt _ ha) hown hKa g.1 g.2.1 hSs (q - 8) hq (am_clAt _ ha) (b / 8) hbn (hts _ hlk) (fun _ h => h) hfin (by rw [hnm]; exact hin) hdecl (am_tyAt _ ha _ hbn) hnf.1 hnf.2 (by simpa using hlt) hd (fun H1 locs1 hP hD hS1 => ?_)
          rw [hset] at hP hD
          exact am_goU kk g hl hz h8' hlq hP hD hS1
      · rw [hc] at hq; cases hq
    · cases hs
  case invokespecial idx =>
    rcases hE with ⟨ha, h1, h2, h3⟩ | ⟨ha, -⟩
    · subst ha
      have hs0 := am_r1_inv (show am_r1 st (fun _ r => bif Nat.ble 1 d && Nat.ble (am_cat r + 12) L then some (.inl (pc + am_len (.invokespecial idx), ls, r, h)) else none) = some (.inl S') from hs)
      clear hs
      obtain ⟨q, r, hst, hs⟩ := hs0
      subst hst
      have hs0 := am_bif_inv hs; clear hs; obtain ⟨hcd, hs⟩ := hs0
      simp only [Bool.and_eq_true] at hcd
      have hd1 := Nat.le_of_ble_eq_true hcd.1
      have hL1 := Nat.le_of_ble_eq_true hcd.2
      cases hs
      refine W.objInit hx hb hown (hts _ h1) (hts _ h2) (hts _ h3) rfl (by show lsr.size = _; rw [hl.1.1, hml, hml2]) rfl hd (by omega) ?_ (am_go kk g hl hz)
      rw [am_v_sum]
      show 2 * 0 + am_cat r + 12 ≤ R.locals
      omega
    · exfalso
      have hb0 : Nat.beq a 999 = false := by
        cases e : Nat.beq a 999
        · rfl
        · exact absurd (Nat.eq_of_beq_eq_true e) ha
      dsimp only [am_do] at hs
      rw [hb0] at hs
      dsimp only [cond] at hs
      split at hs
      · have hs1 := (am_bif_inv hs).2; cases hs1
      · cases hs
  case invokestatic idx =>
    rcases hE with ⟨ha, h1, h2, h3, h4⟩ | ⟨ha, h1, h2, h3, h4⟩ | ⟨ha, h1, h2, h3, h4⟩ | ⟨ha, h1, h2⟩ | ⟨ha, ha2, ha3, ha4, -⟩
    · subst ha
      dsimp only [am_do] at hs
      change (match st with
        | .int n :: .int dp :: .ref q :: .int sp :: .ref p :: r => am_cA (h.2.2 p) 0 fun n0 f => am_cA (h.2.2 q) 0 fun n1 g =>
          if n < 0 ∨ dp < 0 ∨ sp < 0 ∨ n0 < sp.toNatClampNeg + n.toNatClampNeg ∨ n1 < dp.toNatClampNeg + n.toNatClampNeg ∨ p < 8 ∨ q < 8 ∨ d < 1 ∨ L < am_cat r + 40 then none
          else some (.inl (pc + am_len (.invokestatic idx), ls, r, am_up h q (.inr (0, n1, .inl (va_cpy f g sp.toNatClampNeg dp.toNatClampNeg n.toNatClampNeg)))))
        | _ => (none : am_O)) = some (.inl S') at hs
      split at hs
      · rename_i n dp q sp q0 r
        have hs0 := am_cA_inv hs; clear hs; obtain ⟨n0, f, hc0, hs⟩ := hs0
        have hs0 := am_cA_inv hs; clear hs; obtain ⟨n1, f1, hc1, hs⟩ := hs0
        split at hs
        · cases hs
        rename_i hcd
        cases hs
        simp only [not_or] at hcd
        obtain ⟨c1, c2, c3, c4, c5, c6, c7, c8, c9⟩ := hcd
        rcases am_loc g q0 with ⟨h8', hq⟩ | ⟨h8', hlq, hq⟩ | hq
        · exact absurd h8' c6
        · rcases am_loc g q with ⟨h8w, hw⟩ | ⟨h8w, hlw, hw⟩ | hw
          · exact absurd h8w c7
          · rw [hc0] at hq
            rw [hc1] at hw
            refine va_copyi hx hb (by rw [hl.1.1, hml, hml2]) hown (hts _ h1) (hts _ h2) (hts _ h3) (hts _ h4) hKa g.1 g.2.1 hSs (q0 - 8) (q - 8) 0 0 hq hw rfl rfl rfl c3 c2 c1 (by omega) (by omega) (fun _ _ => rfl) (by omega) ?_ hd (fun H1 locs1 hP hD hS1 => am_goU kk g hl hz h8w hlw hP hD hS1)
            rw [am_v_sum]
            have : nativeFrameWords "java/lang/System" "arraycopy" 5 ≤ 29 := by decide
            omega
          · rw [hc1] at hw; cases hw
        · rw [hc0] at hq; cases hq
      · cases hs
    · subst ha
      have hs0 := am_ii_inv (show am_ii st (fun x y r => bif Nat.ble 1 d && Nat.ble (am_cat r + 13) L then some (.inl (pc + am_len (.invokestatic idx), ls, .int (if y < x then y else x) :: r, h)) else none) = some (.inl S') from hs)
      clear hs
      obtain ⟨x, y, r, hst, hs⟩ := hs0
      subst hst
      have hs0 := am_bif_inv hs; clear hs; obtain ⟨hcd, hs⟩ := hs0
      simp only [Bool.and_eq_true] at hcd
      have hd1 := Nat.le_of_ble_eq_true hcd.1
      have hL1 := Nat.le_of_ble_eq_true hcd.2
      cases hs
      have hc1 : cells + (h.1 - h.1) ≤ R.cells := hRc
      have hc2 : slots + (h.2.1 - h.2.1) ≤ R.slots := hRs
      refine va_mmin hx hb (by rw [hl.1.1, hml, hml2]) hown (hts _ h1) (hts _ h2) (hts _ h3) (hts _ h4) (by omega) ?_ (by omega) (by omega) hd (am_go kk g hl hz)
      rw [am_v_sum]
      omega
    · subst ha
      have hs0 := am_ii_inv (show am_ii st (fun x y r => bif Nat.ble 1 d && Nat.ble (am_cat r + 13) L then some (.inl (pc + am_len (.invokestatic idx), ls, .int (if x < y then y else x) :: r, h)) else none) = some (.inl S') from hs)
      clear hs
      obtain ⟨x, y, r, hst, hs⟩ := hs0
      subst hst
      have hs0 := am_bif_inv hs; clear hs; obtain ⟨hcd, hs⟩ := hs0
      simp only [Bool.and_eq_true] at hcd
      have hd1 := Nat.le_of_ble_eq_true hcd.1
      have hL1 := Nat.le_of_ble_eq_true hcd.2
      cases hs
      have hc1 : cells + (h.1 - h.1) ≤ R.cells := hRc
      have hc2 : slots + (h.2.1 - h.2.1) ≤ R.slots := hRs
      refine va_mmax hx hb (by rw [hl.1.1, hml, hml2]) hown (hts _ h1) (hts _ h2) (hts _ h3) (hts _ h4) (by omega) ?_ (by omega) (by omega) hd (am_go kk g hl hz)
      rw [am_v_sum]
      omega
    · subst ha
      have hs0 := am_ii_inv (show am_ii st (fun x y r => if x < 0 ∨ ¬ x < y then none else bif Nat.ble 2 d && Nat.ble (am_cat r) 8 && Nat.ble 60 L then some (.inl (pc + am_len (.invokestatic idx), ls, r, h)) else none) = some (.inl S') from hs)
      clear hs
      obtain ⟨x, y, r, hst, hs⟩ := hs0
      subst hst
      split at hs
      · cases hs
      rename_i hxy
      have hs0 := am_bif_inv hs; clear hs; obtain ⟨hcd, hs⟩ := hs0
      simp only [Bool.and_eq_true] at hcd
      have hd1 := Nat.le_of_ble_eq_true hcd.1.1
      have h8 := Nat.le_of_ble_eq_true hcd.1.2
      have hL1 := Nat.le_of_ble_eq_true hcd.2
      cases hs
      refine am_ckrun hG h2 hx hb hml2 hown hts (by rw [← hml]; exact hl.1.1) hK0 g hz (hts _ h1) (fun z => hxy (Or.inl z)) (Decidable.byContradiction fun z => hxy (Or.inr z)) h8 (by omega) (by omega) hRc hRs hd (fun H1 locs1 g1 hz1 => am_go kk g1 hl hz1)
    · exfalso
      have hbf : ∀ k, ¬ a = k → Nat.beq a k = false := by
        intro k hk
        cases e : Nat.beq a k
        · rfl
        · exact absurd (Nat.eq_of_beq_eq_true e) hk
      dsimp only [am_do] at hs
      rw [hbf 998 ha, hbf 997 ha2, hbf 996 ha3, hbf 994 ha4] at hs
      dsimp only [cond] at hs
      split at hs
      · have hs1 := (am_bif_inv hs).2; cases hs1
      · cases hs
  case invokevirtual idx =>
    exfalso
    dsimp only [am_do] at hs
    split at hs
    · obtain ⟨ci, fs, -, hs1⟩ := am_cO_inv hs
      have hs2 := (am_bif_inv hs1).2; cases hs2
    · cases hs
end AMQ
end
section
/-! ===== calls, and the whole: what am_run says, the JVM does ===== -/
theorem am_do_mono {P : Nat → am_M} {d L ret pc nx a b : Nat} {i : Instr} {ls : List (Option Value)} {st : List Value} {h : am_H} {S' : am_S} (hs : am_do P d L ret i pc nx a b ls st h = some (.inl S')) : h.1 ≤ S'.2.2.2.1 ∧ h.2.1 ≤ S'.2.2.2.2.1 := by
  cases i <;> simp only [am_do, am_ii, am_i1, am_ll, am_l1, am_r1, am_ri, am_cA, am_cL, am_cQ, am_cO, am_ix, Bool.cond_eq_ite] at hs <;> (repeat' split at hs) <;> first | (cases hs; done) | (cases hs; simp only [am_up, am_nw]; omega)
theorem am_run_grow {P : Nat → am_M} : ∀ (n d L M : Nat) (c : am_S) (x : Option Value × am_H), am_run P n d L M c = some x → c.2.2.2.1 ≤ x.2.1 ∧ c.2.2.2.2.1 ≤ x.2.2.1 := by
  intro n
  induction n with
  | zero => intro d L M c x h; simp [am_run] at h
  | succ n ih =>
    intro d L M c x h
    rw [am_run] at h
    cases hs : am_step P d L M c with
    | none => rw [hs] at h; simp at h
    | some o =>
      rw [hs] at h
      unfold am_step at hs
      cases hat : am_at (P M).2.2.2 c.1 with
      | none => rw [hat] at hs; cases hs
      | some q =>
        obtain ⟨i, nx, a, b⟩ := q
        rw [hat] at hs
        dsimp only at hs
        match o, h, hs with
        | .inl c', h, hs =>
          have h1 := am_do_mono hs
          have h2 := ih _ _ _ _ _ h
          exact ⟨Nat.le_trans h1.1 h2.1, Nat.le_trans h1.2 h2.2⟩
        | .inr (.inl r), h, hs => cases h; exact ⟨Nat.le_refl _, Nat.le_refl _⟩
        | .inr (.inr (y, vs, c')), h, hs =>
          have hc : c'.2.2.2 = c.2.2.2 := by
            cases i <;> simp only [am_do, am_ii, am_i1, am_ll, am_l1, am_r1, am_ri, am_cA, am_cL, am_cQ, am_cO, am_ix, Bool.cond_eq_ite] at hs <;> (repeat' split at hs) <;> first | (cases hs; done) | (cases hs; rfl)
          cases d with
          | zero => simp at h
          | succ d' =>
            dsimp only at h
            split at h
            · cases h
            · cases hr : am_run P n d' (L - am_lc P y) y (0, am_ent vs (P y).2.1, [], c'.2.2.2) with
              | none => rw [hr] at h; simp at h
              | some q =>
                obtain ⟨r, h1⟩ := q
                rw [hr] at h
                have g1 := ih _ _ _ _ _ hr
                have g2 := ih _ _ _ _ _ h
                dsimp only at g1 g2
                rw [hc] at g1
                exact ⟨Nat.le_trans g1.1 g2.1, Nat.le_trans g1.2 g2.2⟩
theorem am_take_inv : ∀ (n : Nat) (acc st vs r : List Value), am_take n acc st = some (vs, r) → ∃ ws, ws.length = n ∧ st = ws ++ r ∧ vs = ws.reverse ++ acc := by
  intro n
  induction n with
  | zero => intro acc st vs r h; cases h; exact ⟨[], rfl, rfl, rfl⟩
  | succ n ih =>
    intro acc st vs r h
    cases st with
    | nil => cases h
    | cons v st =>
      obtain ⟨ws, h1, h2, h3⟩ := ih _ _ _ _ h
      exact ⟨v :: ws, by rw [List.length_cons, h1], by rw [h2]; rfl, by rw [h3]; simp⟩
theorem am_take0 {n : Nat} {st vs r : List Value} (h : am_take n [] st = some (vs, r)) : vs.length = n ∧ st = vs.reverse ++ r := by
  obtain ⟨ws, h1, h2, h3⟩ := am_take_inv _ _ _ _ _ h
  rw [List.append_nil] at h3
  subst h3
  exact ⟨by rw [List.length_reverse, h1], by rw [List.reverse_reverse]; exact h2⟩
theorem am_get_pad : ∀ (n : Nat) (l : List (Option Value)) (i : Nat) (v : Value), am_get (am_pad n l) i = some v → am_get l i = some v := by
  intro n
  induction n with
  | zero => intro l i v h; cases l <;> cases h
  | succ n ih =>
    intro l i v h
    cases l with
    | nil =>
      cases i with
      | zero => cases h
      | succ i => exact ih [] i v h
    | cons w t =>
      cases i with
      | zero => exact h
      | succ i => exact ih t i v h
theorem am_ent_args (ad : Nat → Nat) : ∀ (vs : List Value) (k i : Nat) (v : Value), am_get (am_ent0 vs) i = some v → (k + i, am_v ad v) ∈ lv_args k (vs.map (am_v ad)) := by
  intro vs
  induction vs with
  | nil => intro k i v h; cases h
  | cons w t ih =>
    intro k i v h
    rw [List.map_cons, lv_args, am_v_cat]
    have one : ∀ (x : Value), x.category = 1 → am_get (some x :: am_ent0 t) i = some v → (k + i, am_v ad v) ∈ (k, am_v ad x) :: lv_args (if x.category = 2 then k + 2 else k + 1) (t.map (am_v ad)) := by
      intro x hx h
      cases i with
      | zero => cases h; exact List.mem_cons_self
      | succ i =>
        refine List.mem_cons_of_mem _ ?_
        rw [hx, if_neg (by decide)]
        have := ih (k + 1) i v h
        rwa [Nat.add_assoc, Nat.add_comm 1 i] at this
    cases w with
    | long x =>
      cases i with
      | zero => cases h; exact List.mem_cons_self
      | succ i =>
        cases i with
        | zero => cases h
        | succ i =>
          refine List.mem_cons_of_mem _ ?_
          have := ih (k + 2) i v h
          rw [show k + 2 + i = k + (i + 1 + 1) by omega] at this
          exact this
    | double x =>
      cases i with
      | zero => cases h
      | succ i =>
        cases i with
        | zero => cases h
        | succ i =>
          refine List.mem_cons_of_mem _ ?_
          have := ih (k + 2) i v h
          rw [show k + 2 + i = k + (i + 1 + 1) by omega] at this
          exact this
    | int x => exact one _ rfl h
    | float x => exact one _ rfl h
    | null => exact one _ rfl h
    | ref x => exact one _ rfl h
    | retAddr x => exact one _ rfl h
theorem am_ent_nd : ∀ (vs : List Value), am_nd (am_ent0 vs) := by
  intro vs
  induction vs with
  | nil => intro i v h; cases h
  | cons w t ih =>
    intro i v h h2
    have one : ∀ (x : Value), x.category = 1 → am_get (some x :: am_ent0 t) i = some v → am_isL (some v) = true := by
      intro x hx h
      cases i with
      | zero => cases h; rw [hx] at h2; cases h2
      | succ i => exact ih i v h h2
    cases w with
    | long x =>
      cases i with
      | zero => cases h; rfl
      | succ i =>
        cases i with
        | zero => cases h
        | succ i => exact ih i v h h2
    | double x =>
      cases i with
      | zero => cases h
      | succ i =>
        cases i with
        | zero => cases h
        | succ i => exact ih i v h h2
    | int x => exact one _ rfl h
    | float x => exact one _ rfl h
    | null => exact one _ rfl h
    | ref x => exact one _ rfl h
    | retAddr x => exact one _ rfl h
theorem am_ent_len (ad : Nat → Nat) : ∀ (vs : List Value), (lg_sl (vs.map (am_v ad))).length = (am_ent0 vs).length := by
  intro vs
  induction vs with
  | nil => rfl
  | cons w t ih =>
    unfold lg_sl at ih ⊢
    rw [List.map_cons, List.flatMap_cons, List.length_append, ih, am_v_cat]
    cases w <;> simp [am_ent0, Value.category] <;> omega
theorem am_ent_LN {ad : Nat → Nat} {vs : List Value} {n : Nat} {lsr : Array Slot} (h : lv_has lsr n (lv_args 0 (vs.map (am_v ad)))) : am_LN ad (am_ent vs n) lsr n := by
  refine ⟨⟨h.1, h.2.1, fun i v hv => ?_⟩, fun i v hv => am_ent_nd vs i v (am_get_pad _ _ _ _ hv)⟩
  have := am_ent_args ad vs 0 i v (am_get_pad _ _ _ _ hv)
  rw [Nat.zero_add] at this
  exact h.2.2 _ this
/-- how a method ends -/
def am_RD (cc : ByteArray) (pc ret : Nat) (r : Option Value) : Prop := (∃ x, r = some (.int x) ∧ decode cc pc = .ok (.ireturn, 1) ∧ am_rt ret x = true) ∨ (∃ x, r = some (.long x) ∧ decode cc pc = .ok (.lreturn, 1) ∧ ret = 4) ∨ (r = none ∧ decode cc pc = .ok (.return_, 1) ∧ ret = 0)
theorem am_ret_inv {P : Nat → am_M} {d L ret pc nx a b : Nat} {i : Instr} {ls : List (Option Value)} {st : List Value} {h : am_H} {r : Option Value} {cc : ByteArray} (hd : ∃ len, decode cc pc = .ok (i, len) ∧ ((∃ d lo hi os, i = .tableswitch d lo hi os) ∨ (len = am_len i ∧ nx = pc + len))) (hs : am_do P d L ret i pc nx a b ls st h = some (.inr (.inl r))) : st = r.toList ∧ am_RD cc pc ret r := by
  obtain ⟨len, hd, hlen⟩ := hd
  cases i <;> simp only [am_do, am_ii, am_i1, am_ll, am_l1, am_r1, am_ri, am_cA, am_cL, am_cQ, am_cO, am_ix, Bool.cond_eq_ite] at hs <;> (repeat' split at hs) <;> first | (cases hs; done) | skip
  · have hl1 := hlen.resolve_left (by rintro ⟨_, _, _, _, hq⟩; cases hq)
    have hl2 := hl1.1
    subst hl2
    rename_i hx
    cases hs
    exact ⟨rfl, Or.inl ⟨_, rfl, hd, hx⟩⟩
  · have hl1 := hlen.resolve_left (by rintro ⟨_, _, _, _, hq⟩; cases hq)
    have hl2 := hl1.1
    subst hl2
    rename_i hx
    cases hs
    exact ⟨rfl, Or.inr (Or.inl ⟨_, rfl, hd, Nat.eq_of_beq_eq_true hx⟩)⟩
  · have hl1 := hlen.resolve_left (by rintro ⟨_, _, _, _, hq⟩; cases hq)
    have hl2 := hl1.1
    subst hl2
    rename_i hx
    cases hs
    exact ⟨rfl, Or.inr (Or.inr ⟨rfl, hd, Nat.eq_of_beq_eq_true hx⟩)⟩
end
section
/-- a method whose table is right -/
def am_gm (P : Nat → am_M) (yN : Nat → MethodName) (cN : Nat → ByteArray) (NM : Nat) (Ts : List Cond) (M : Nat) : Prop := plainName (yN M).cls = true ∧ Cond.code (yN M) (cN M) (P M).2.1 (am_rty (P M).2.2.1) ∈ Ts ∧ Cond.initialized (yN M).cls ∈ Ts ∧ (yN M).cls ≠ "java/lang/invoke/MethodHandle" ∧ (yN M).cls ≠ "java/lang/invoke/VarHandle" ∧ (yN M).cls = am_cn (P M).1 ∧ ∀ pc q, am_at (P M).2.2.2 pc = some q → am_E P yN cN NM Ts M pc q
def am_IH (P : Nat → am_M) (yN : Nat → MethodName) (cN : Nat → ByteArray) (NM : Nat) (Ts : List Cond) (l : Launch) (D : va_G) (ad dA : Nat → Nat) (Ls : Nat) (xs : Nat → Int32) (n : Nat) : Prop := ∀ (d L M pc : Nat) (ls : List (Option Value)) (st : List Value) (h : am_H) (r : Option Value) (h' : am_H), am_run P n d L M (pc, ls, st, h) = some (r, h') →
  ∀ (p : Program) (e : Env) (R : Room) (s : State) (m : MethodId) (args : Array Value) (below : List Frame) (meth : Method) (c : Code) (H : Heap) (locs : List Loc) (cells slots : Nat) (Q : State → Prop) (lsr : Array Slot), am_X P yN cN Ts p s m args meth c M → (∀ pc q, am_at (P M).2.2.2 pc = some q → am_E P yN cN NM Ts M pc q) → am_K D ad dA Ls xs s → am_G D ad dA Ls xs s.heap H h locs → am_LN ad ls lsr (P M).2.1 → H.size = s.heap.size + cells → d ≤ R.frames → L ≤ R.locals → cells + (h'.1 - h.1) ≤ R.cells → slots + (h'.2.1 - h.2.1) ≤ R.slots →
  (∀ (H1 : Heap) (locs1 : List Loc) (pc1 : Nat) (lsr1 : Array Slot), am_G D ad dA Ls xs s.heap H1 h' locs1 → am_RD (cN M) pc1 (P M).2.2.1 r → W p l e R s m args below meth c H1 locs1 (cells + (h'.1 - h.1)) (slots + (h'.2.1 - h.2.1)) Q (F0 m pc1 lsr1 (r.toList.map (am_v ad)))) →
  W p l e R s m args below meth c H locs cells slots Q (F0 m pc lsr (st.map (am_v ad)))
section AMM
variable {P : Nat → am_M} {yN : Nat → MethodName} {cN : Nat → ByteArray} {NM : Nat} {Ts : List Cond} {l : Launch} {D : va_G} {ad dA : Nat → Nat} {Ls : Nat} {xs : Nat → Int32} {n : Nat}
theorem am_rt_nar {ret : Nat} {x : Int32} (h : am_rt ret x = true) : ∃ ty, am_rty ret = some ty ∧ narrow ty (.int x) = .int x := by
  match ret, h with
  | 1, _ => exact ⟨_, rfl, rfl⟩
  | 2, h =>
    simp only [am_rt, Bool.or_eq_true, beq_iff_eq] at h
    rcases h with h | h <;> subst h <;> exact ⟨_, rfl, rfl⟩
  | 3, h =>
    have h := of_decide_eq_true h
    exact ⟨_, rfl, congrArg Value.int h⟩
  | 5, h =>
    have h := of_decide_eq_true h
    exact ⟨_, rfl, congrArg Value.int h⟩
theorem am_met (hIH : am_IH P yN cN NM Ts l D ad dA Ls xs n) {y d L : Nat} {vs : List Value} {h h1 : am_H} {r : Option Value} (hy : am_gm P yN cN NM Ts y) (hlen : (am_ent0 vs).length ≤ (P y).2.1) (hrun : am_run P n d L y (0, am_ent vs (P y).2.1, [], h) = some (r, h1)) :
    Met l (yN y) (Cond.code (yN y) (cN y) (P y).2.1 (am_rty (P y).2.2.1) :: Ts) ({ frames := d, cells := h1.1 - h.1, slots := h1.2.1 - h.2.1, locals := L }) (va_Pc (vs.map (am_v ad)) (am_B D ad dA Ls xs h)) (am_Qc D ad dA Ls xs r h1) (h1.1 - h.1) (h1.2.1 - h.2.1) (am_A ad) := by
  obtain ⟨y1, y2, y3, y4, y5, y6, y7⟩ := hy
  refine Met.ofW (cc := cN y) (maxL := (P y).2.1) (ret := am_rty (P y).2.2.1) y1 rfl ?_
  intro p e s m args below meth c s₁ B hml hv
  obtain ⟨rfl, hK, hG⟩ := hv
  have hts := atoms_spec (ws := Cond.code (yN y) (cN y) (P y).2.1 (am_rty (P y).2.2.1) :: Ts) B.pre
  have hown : s.vm.findClass (yN y).cls = some m.cls := findClass_of_methodNamed B.named
  have hX : am_X P yN cN Ts p s m (vs.map (am_v ad)).toArray meth c y := ⟨B.exec, B.bytes, hml, by rw [← y6]; exact hown, fun w hw => hts w (List.mem_cons_of_mem _ hw), B.returns, B.notSynchronized, (name_of_methodNamed B.named B.method).1⟩
  have hl := lv_entry (vs.map (am_v ad)) (n := (P y).2.1) (by rw [am_ent_len]; exact hlen)
  rw [lg_entry_eq]
  generalize (lg_sl (vs.map (am_v ad)) ++ List.replicate ((P y).2.1 - (lg_sl (vs.map (am_v ad))).length) Slot.unset).toArray = ls at hl ⊢
  refine hIH d L y 0 (am_ent vs (P y).2.1) [] h r h1 hrun p e _ s m _ below meth c s.heap [] 0 0 _ ls hX y7 hK hG (am_ent_LN hl) rfl (Nat.le_refl _) (Nat.le_refl _) (Nat.le_of_eq (Nat.zero_add _)) (Nat.le_of_eq (Nat.zero_add _)) ?_
  intro H1 locs1 pc1 lsr1 g1 hRD
  rw [Nat.zero_add, Nat.zero_add]
  have hq : ∀ t : State, t.heap = H1 → s.WarmedH t.vm → am_Qc D ad dA Ls xs r h1 (vs.map (am_v ad)).toArray s (.returned (r.map (am_v ad))) t := fun t ht _ => ⟨rfl, locs1, by rw [ht]; exact g1⟩
  have hf : ∀ q ∈ locs1, am_A ad q.base := g1.2.2.1.2.2
  have hr : meth.sig.returnType = am_rty (P y).2.2.1 := B.returns
  rcases hRD with ⟨x, hr0, hd, hrt⟩ | ⟨x, hr0, hd, hrt⟩ | ⟨hr0, hd, hrt⟩
  · subst hr0
    obtain ⟨ty, h1, h2⟩ := am_rt_nar hrt
    exact W.zret B.exec B.bytes (hr.trans h1) h2 hq hf hd B.notSynchronized
  · subst hr0
    exact W.lret B.exec B.bytes (hr.trans (by rw [hrt]; rfl)) hq hf hd B.notSynchronized
  · subst hr0
    exact W.vret B.exec B.bytes (hr.trans (by rw [hrt]; rfl)) hq hf hd B.notSynchronized
end AMM
end
section
section AMN
variable {P : Nat → am_M} {yN : Nat → MethodName} {cN : Nat → ByteArray} {NM : Nat} {Ts : List Cond} {l : Launch} {D : va_G} {ad dA : Nat → Nat} {Ls : Nat} {xs : Nat → Int32} {n : Nat}
theorem am_call (hG : ∀ w ∈ Ts, goodWord w = true) (hP : ∀ M, M < NM → am_gm P yN cN NM Ts M) (hIH : am_IH P yN cN NM Ts l D ad dA Ls xs n)
    {p : Program} {e : Env} {R : Room} {s : State} {m : MethodId} {args : Array Value} {below : List Frame} {meth : Method} {c : Code} {H : Heap} {locs : List Loc} {cells slots : Nat} {Q : State → Prop} {h h1 : am_H} {M pc nx a b d L ret y : Nat} {ls : List (Option Value)} {lsr : Array Slot} {st vs : List Value} {S' : am_S} {r : Option Value} {i : Instr}
    (X : am_X P yN cN Ts p s m args meth c M) (hK : am_K D ad dA Ls xs s) (hd : ∃ len, decode (cN M) pc = .ok (i, len) ∧ ((∃ d lo hi os, i = .tableswitch d lo hi os) ∨ (len = am_len i ∧ nx = pc + len))) (hE : am_Ei P yN NM Ts (am_cn (P M).1) (yN M).name (P M).2.1 i pc a b)
    (g : am_G D ad dA Ls xs s.heap H h locs) (hl : am_LN ad ls lsr (P M).2.1) (hz : H.size = s.heap.size + cells) (hs : am_do P (d + 1) L ret i pc nx a b ls st h = some (.inr (.inr (y, vs, S'))))
    (hRf : d + 1 ≤ R.frames) (hRl : L ≤ R.locals) (hLc : am_lc P y ≤ L) (hlen : (am_ent0 vs).length ≤ (P y).2.1) (hrun : am_run P n d (L - am_lc P y) y (0, am_ent vs (P y).2.1, [], h) = some (r, h1)) (hRc : cells + (h1.1 - h.1) ≤ R.cells) (hRs : slots + (h1.2.1 - h.2.1) ≤ R.slots)
    (kk : ∀ (H1 : Heap) (locs1 : List Loc), am_G D ad dA Ls xs s.heap H1 h1 locs1 → H1.size = s.heap.size + (cells + (h1.1 - h.1)) → W p l e R s m args below meth c H1 locs1 (cells + (h1.1 - h.1)) (slots + (h1.2.1 - h.2.1)) Q (F0 m S'.1 lsr ((r.toList ++ S'.2.2.1).map (am_v ad)))) :
    W p l e R s m args below meth c H locs cells slots Q (F0 m pc lsr (st.map (am_v ad))) := by
  obtain ⟨hx, hb, hml2, hown, hts, hr, hlocks, hnm⟩ := X
  obtain ⟨len, hd, hlen2⟩ := hd
  have hgrow := am_run_grow _ _ _ _ _ _ hrun
  have hle : h.1 ≤ h1.1 := hgrow.1
  have hA := hK.2.2.2.2
  have hsize : lsr.size = (P M).2.1 := hl.1.1
  have fix : CallFix p m c (cN M) (P M).2.1 s args Ts (am_cn (P M).1) := ⟨hx, hb, hml2, hown, hts⟩
  have hmap : (r.map (am_v ad)).toList = r.toList.map (am_v ad) := by cases r <;> rfl
  have hroom : ∀ maxL, maxL = (P y).2.1 → d + 1 ≤ R.frames ∧ 8 + (maxL + 11) + (L - am_lc P y) ≤ R.locals := by
    intro maxL e
    subst e
    unfold am_lc at hLc ⊢
    omega
  have hcat : ∀ (rr : List Value) (pc0 : Nat) (st0 : List Value), am_cat rr ≤ 8 → 2 * (F0 m pc0 lsr st0).monitorRoom + ((rr.map (am_v ad)).map fun v => v.category).sum ≤ 8 := by
    intro rr pc0 st0 h8
    rw [am_v_sum]
    show 2 * 0 + am_cat rr ≤ 8
    omega
  have kk2 : S'.1 = pc + 3 → ∀ rr, S'.2.2.1 = rr → ∀ (H1 : Heap) (locs1 : List Loc), am_G D ad dA Ls xs s.heap H1 h1 locs1 → H1.size = s.heap.size + (cells + (h1.1 - h.1)) → W p l e R s m args below meth c H1 locs1 (cells + (h1.1 - h.1)) (slots + (h1.2.1 - h.2.1)) Q (F0 m (pc + 3) lsr ((r.map (am_v ad)).toList ++ rr.map (am_v ad))) := by
    intro e1 rr e2 H1 locs1 g1 hz1
    have := kk H1 locs1 g1 hz1
    rw [e1, e2, List.map_append, ← hmap] at this
    exact this
  cases i <;> first
    | (exfalso; simp only [am_do, am_ii, am_i1, am_ll, am_l1, am_r1, am_ri, am_cA, am_cL, am_cQ, am_cO, am_ix, Bool.cond_eq_ite] at hs; (repeat' split at hs) <;> cases hs; done)
    | skip
  case invokespecial idx =>
    have hl1 := (hlen2.resolve_left (by rintro ⟨_, _, _, _, hq⟩; cases hq))
    have hl2 := hl1.1; have hl3 := hl1.2; clear hl1 hlen2; subst hl2; subst hl3
    rcases hE with ⟨ha, -⟩ | ⟨ha, haN, hlink, hinst, hnm0, hrt0, hdesc⟩
    · exfalso
      subst ha
      obtain ⟨q, r, hst, hs⟩ := am_r1_inv (show am_r1 st (fun _ r => bif Nat.ble 1 (d + 1) && Nat.ble (am_cat r + 12) L then some (.inl (pc + am_len (.invokespecial idx), ls, r, h)) else none) = some (.inr (.inr (y, vs, S'))) from hs)
      have hs1 := (am_bif_inv hs).2; cases hs1
    have hb0 : Nat.beq a 999 = false := by
      cases e : Nat.beq a 999
      · rfl
      · exact absurd (Nat.eq_of_beq_eq_true e) ha
    dsimp only [am_do] at hs
    rw [hb0] at hs
    dsimp only [cond] at hs
    split at hs
    · rename_i q vs' rr htake
      have hs0 := am_bif_inv hs; clear hs; obtain ⟨h8, hs⟩ := hs0
      have h8 := Nat.le_of_ble_eq_true h8
      cases hs
      obtain ⟨ht1, ht2⟩ := am_take0 htake
      have hMet := am_met hIH (hP _ haN) hlen hrun
      have hrt : am_rty (P a).2.2.1 = none := by rw [hrt0]; rfl
      rw [hrt] at hMet
      have hst : st.map (am_v ad) = (vs'.map (am_v ad)).reverse ++ .ref (ad q) :: rr.map (am_v ad) := by
        rw [ht2]
        simp [am_v]
      obtain ⟨y1, y2, y3, y4, y5, y6, y7⟩ := hP _ haN
      rw [hrt] at y2
      have hpre : PreS s H (va_Pc ((Value.ref q :: vs').map (am_v ad)) (am_B D ad dA Ls xs h)) (.ref (ad q) :: vs'.map (am_v ad)) := ⟨am_blind, fun U hU hW => ⟨rfl, am_pre g hK hU hW⟩⟩
      have hn : (vs'.map (am_v ad)).length = b := by
        have : (Value.ref q :: vs').length = b + 1 := ht1
        simpa using this
      rcases hlink with hlink | ⟨host, hlink⟩
      · exact am_goC (va_runI fix hMet (cwI b hts (am_goodT hG (am_consT y2)) rfl rfl rfl (hts _ y3) (hts _ hlink) (hts _ hinst) hnm0 ⟨y4, y5, hdesc⟩ (hroom _ rfl)) hpre rfl hn hsize hst (hcat _ _ _ h8) hd ⟨hRc, hRs⟩) hA g hz hle (kk2 rfl _ rfl)
      · exact am_goC (va_runIN fix hMet ⟨va_cnB b hts (am_goodT hG (am_consT y2)) rfl rfl rfl (hts _ hlink) (hts _ y3) ⟨y4, y5, hdesc⟩ (hroom _ rfl), hnm0, hts _ hinst⟩ hpre rfl hn hsize hst (hcat _ _ _ h8) hd ⟨hRc, hRs⟩) hA g hz hle (kk2 rfl _ rfl)
    · cases hs
  case invokestatic idx =>
    have hl1 := (hlen2.resolve_left (by rintro ⟨_, _, _, _, hq⟩; cases hq))
    have hl2 := hl1.1; have hl3 := hl1.2; clear hl1 hlen2; subst hl2; subst hl3
    rcases hE with ⟨ha, -⟩ | ⟨ha, -⟩ | ⟨ha, -⟩ | ⟨ha, -⟩ | ⟨ha, ha2, ha3, ha4, haN, hlink, hstat, hdesc⟩
    · exfalso; subst ha
      change (match st with
        | .int n :: .int dp :: .ref q :: .int sp :: .ref p :: r => am_cA (h.2.2 p) 0 fun n0 f => am_cA (h.2.2 q) 0 fun n1 g =>
          if n < 0 ∨ dp < 0 ∨ sp < 0 ∨ n0 < sp.toNatClampNeg + n.toNatClampNeg ∨ n1 < dp.toNatClampNeg + n.toNatClampNeg ∨ p < 8 ∨ q < 8 ∨ d + 1 < 1 ∨ L < am_cat r + 40 then none
          else some (.inl (pc + am_len (.invokestatic idx), ls, r, am_up h q (.inr (0, n1, .inl (va_cpy f g sp.toNatClampNeg dp.toNatClampNeg n.toNatClampNeg)))))
        | _ => (none : am_O)) = some (.inr (.inr (y, vs, S'))) at hs
      split at hs
      · obtain ⟨n0, f, hc0, hs1⟩ := am_cA_inv hs
        obtain ⟨n1, f1, hc1, hs2⟩ := am_cA_inv hs1
        split at hs2 <;> cases hs2
      · cases hs
    · exfalso; subst ha
      obtain ⟨x, y0, r0, hst, hs1⟩ := am_ii_inv (show am_ii st (fun x y r => bif Nat.ble 1 (d + 1) && Nat.ble (am_cat r + 13) L then some (.inl (pc + am_len (.invokestatic idx), ls, .int (if y < x then y else x) :: r, h)) else none) = some (.inr (.inr (y, vs, S'))) from hs)
      have hs2 := (am_bif_inv hs1).2; cases hs2
    · exfalso; subst ha
      obtain ⟨x, y0, r0, hst, hs1⟩ := am_ii_inv (show am_ii st (fun x y r => bif Nat.ble 1 (d + 1) && Nat.ble (am_cat r + 13) L then some (.inl (pc + am_len (.invokestatic idx), ls, .int (if x < y then y else x) :: r, h)) else none) = some (.inr (.inr (y, vs, S'))) from hs)
      have hs2 := (am_bif_inv hs1).2; cases hs2
    · exfalso; subst ha
      obtain ⟨x, y0, r0, hst, hs1⟩ := am_ii_inv (show am_ii st (fun x y r => if x < 0 ∨ ¬ x < y then none else bif Nat.ble 2 (d + 1) && Nat.ble (am_cat r) 8 && Nat.ble 60 L then some (.inl (pc + am_len (.invokestatic idx), ls, r, h)) else none) = some (.inr (.inr (y, vs, S'))) from hs)
      split at hs1
      · cases hs1
      have hs2 := (am_bif_inv hs1).2; cases hs2
    have hbf : ∀ k, ¬ a = k → Nat.beq a k = false := by
      intro k hk
      cases e : Nat.beq a k
      · rfl
      · exact absurd (Nat.eq_of_beq_eq_true e) hk
    dsimp only [am_do] at hs
    rw [hbf 998 ha, hbf 997 ha2, hbf 996 ha3, hbf 994 ha4] at hs
    dsimp only [cond] at hs
    split at hs
    · rename_i vs' rr htake
      have hs0 := am_bif_inv hs; clear hs; obtain ⟨h8, hs⟩ := hs0
      have h8 := Nat.le_of_ble_eq_true h8
      cases hs
      obtain ⟨ht1, ht2⟩ := am_take0 htake
      have hMet := am_met hIH (hP _ haN) hlen hrun
      have hst : st.map (am_v ad) = (vs.map (am_v ad)).reverse ++ rr.map (am_v ad) := by
        rw [ht2]
        simp
      obtain ⟨y1, y2, y3, y4, y5, y6, y7⟩ := hP _ haN
      have hpre : PreS s H (va_Pc (vs.map (am_v ad)) (am_B D ad dA Ls xs h)) (vs.map (am_v ad)) := ⟨am_blind, fun U hU hW => ⟨rfl, am_pre g hK hU hW⟩⟩
      have hn : (vs.map (am_v ad)).length = b := by rw [List.length_map]; exact ht1
      rcases hlink with hlink | ⟨host, hlink⟩
      · exact am_goC (va_runS fix hMet ⟨callB_of b hts (am_goodT hG (am_consT y2)) rfl rfl rfl (hts _ y3) (hts _ hlink) ⟨y4, y5, hdesc⟩ (hroom _ rfl), hts _ hstat⟩ hpre rfl hn hsize hst (hcat _ _ _ h8) hd ⟨hRc, hRs⟩) hA g hz hle (kk2 rfl _ rfl)
      · exact am_goC (va_runSN fix hMet ⟨va_cnB b hts (am_goodT hG (am_consT y2)) rfl rfl rfl (hts _ hlink) (hts _ y3) ⟨y4, y5, hdesc⟩ (hroom _ rfl), hts _ hstat, trivial⟩ hpre rfl hn hsize hst (hcat _ _ _ h8) hd ⟨hRc, hRs⟩) hA g hz hle (kk2 rfl _ rfl)
    · cases hs
  case invokevirtual idx =>
    have hl1 := (hlen2.resolve_left (by rintro ⟨_, _, _, _, hq⟩; cases hq))
    have hl2 := hl1.1; have hl3 := hl1.2; clear hl1 hlen2; subst hl2; subst hl3
    obtain ⟨haN, hlink, hinst, hsel, hdesc⟩ := hE
    dsimp only [am_do] at hs
    split at hs
    · rename_i q vs' rr htake
      have hs0 := am_cO_inv hs; clear hs; obtain ⟨ci, fs, hc, hs⟩ := hs0
      have hs0 := am_bif_inv hs; clear hs; obtain ⟨hcd, hs⟩ := hs0
      simp only [Bool.and_eq_true] at hcd
      have hci := Nat.eq_of_beq_eq_true hcd.1
      have h8 := Nat.le_of_ble_eq_true hcd.2
      cases hs
      obtain ⟨ht1, ht2⟩ := am_take0 htake
      have hMet := am_met hIH (hP _ haN) hlen hrun
      have hst : st.map (am_v ad) = (vs'.map (am_v ad)).reverse ++ .ref (ad q) :: rr.map (am_v ad) := by
        rw [ht2]
        simp [am_v]
      obtain ⟨y1, y2, y3, y4, y5, y6, y7⟩ := hP _ haN
      have hn : (vs'.map (am_v ad)).length = b := by
        have : (Value.ref q :: vs').length = b + 1 := ht1
        simpa using this
      have hrecv : ∃ cellB : Cell, H[ad q]? = some cellB ∧ cellB.vm.isStatics = false ∧ s.vm.findClass (yN a).cls = some cellB.cls := by
        rw [y6, ← hci]
        rcases am_loc g q with ⟨h8, hq⟩ | ⟨h8, hlt, hq⟩ | hq
        · rw [hc] at hq
          rcases (am_lt8 h8) with e | e | e | e | e | e | e | e <;> subst e <;> first | (cases hq; done) | skip
          · cases hq; exact vk_recv hK.2.2.1.2.2.2.2.2.2.2.2.1 (i := 0) (by decide) g.2.2.1
          · cases hq; exact vk_recv hK.2.2.1.2.2.2.2.2.2.2.2.1 (i := 1) (by decide) g.2.2.1
          · cases hq; exact vk_recv hK.2.2.1.2.2.2.2.2.2.2.2.1 (i := 2) (by decide) g.2.2.1
        · rw [hc] at hq
          obtain ⟨r0, hr0, -⟩ := g.1 (q - 8) _ hq
          have h12 : ci < 12 := (List.getElem?_eq_some_iff.mp hr0).1
          exact va_recv hK.1 g.1 (am_clAt ci h12) hq
        · rw [hc] at hq; cases hq
      have hpre : PreV s H (yN a).cls (ad q) (va_Pc ((Value.ref q :: vs').map (am_v ad)) (am_B D ad dA Ls xs h)) (vs'.map (am_v ad)) := ⟨am_blind, hrecv, fun U hU hW => ⟨rfl, am_pre g hK hU hW⟩⟩
      refine am_goC (va_runV fix hMet (cwV b hts (am_goodT hG (fun w hw => ?_)) rfl rfl rfl ⟨rfl, y4, y5, hdesc⟩ (hroom _ rfl)) hpre rfl hn hsize hst (hcat _ _ _ h8) hd ⟨hRc, hRs⟩) hA g hz hle (kk2 rfl _ rfl)
      unfold wsV at hw
      rcases List.mem_append.mp hw with hw | hw
      · simp only [List.mem_cons, List.not_mem_nil, or_false] at hw
        rcases hw with e | e | e | e
        · rw [e]; exact hlink
        · rw [e]; exact hinst
        · rw [e]; exact hsel
        · rw [e]; exact y3
      · rcases List.mem_cons.mp hw with e | e
        · rw [e]; exact y2
        · exact e
    · cases hs
end AMN
end
section
/-- WHAT am_run SAYS, THE JVM DOES: from a frame, whatever stands behind the method's return -/
theorem am_sound {P : Nat → am_M} {yN : Nat → MethodName} {cN : Nat → ByteArray} {NM : Nat} {Ts : List Cond} {l : Launch} {D : va_G} {ad dA : Nat → Nat} {Ls : Nat} {xs : Nat → Int32} (hU : ∀ k, k < 12 → ∀ w ∈ u_ws (am_cn k) (am_tb k) (am_nf k), w ∈ Ts) (hG : ∀ w ∈ Ts, goodWord w = true) (hP : ∀ M, M < NM → am_gm P yN cN NM Ts M) : ∀ n, am_IH P yN cN NM Ts l D ad dA Ls xs n := by
  intro n
  induction n with
  | zero => intro d L M pc ls st h r h' hrun; simp [am_run] at hrun
  | succ n ih =>
    intro d L M pc ls st h r h' hrun p e R s m args below meth c H locs cells slots Q lsr X hEnt hK g hl hz hRf hRl hRc hRs hret
    have hgrow := am_run_grow _ _ _ _ _ _ hrun
    rw [am_run] at hrun
    cases hstep : am_step P d L M (pc, ls, st, h) with
    | none => rw [hstep] at hrun; simp at hrun
    | some o =>
      rw [hstep] at hrun
      unfold am_step at hstep
      cases hat : am_at (P M).2.2.2 pc with
      | none => rw [hat] at hstep; cases hstep
      | some q =>
        obtain ⟨i, nx, a, b⟩ := q
        rw [hat] at hstep
        dsimp only at hstep
        obtain ⟨hd, hE⟩ := hEnt pc _ hat
        match o, hrun, hstep with
        | .inl S', hrun, hstep =>
          have hm := am_do_mono hstep
          have hg2 := am_run_grow _ _ _ _ _ _ hrun
          dsimp only at hg2
          have kk : am_KK p l e R s m args below meth c cells slots Q D ad dA Ls xs (P M).2.1 h S' := by
            intro H1 locs1 lsr1 g1 hl1 hz1
            refine ih d L M S'.1 S'.2.1 S'.2.2.1 S'.2.2.2 r h' hrun p e R s m args below meth c H1 locs1 _ _ Q lsr1 X hEnt hK g1 hl1 hz1 hRf hRl (by omega) (by omega) ?_
            intro H2 locs2 pc1 lsr2 g2 hRD
            have := hret H2 locs2 pc1 lsr2 g2 hRD
            have e1 : cells + (h'.1 - h.1) = cells + (S'.2.2.2.1 - h.1) + (h'.1 - S'.2.2.2.1) := by omega
            have e2 : slots + (h'.2.1 - h.2.1) = slots + (S'.2.2.2.2.1 - h.2.1) + (h'.2.1 - S'.2.2.2.2.1) := by omega
            rw [e1, e2] at this
            exact this
          cases hh : am_hp i with
          | false => exact am_sd1 X rfl hK hd hE g hl hz kk hstep hh
          | true => exact am_sd2 hG X rfl hK hU hd hE g hl hz kk hstep hRf hRl (by omega) (by omega) hh
        | .inr (.inl r0), hrun, hstep =>
          cases hrun
          obtain ⟨hst, hRD⟩ := am_ret_inv hd hstep
          have := hret H locs pc lsr g hRD
          rw [Nat.sub_self, Nat.sub_self, Nat.add_zero, Nat.add_zero, ← hst] at this
          exact this
        | .inr (.inr (y, vs, S')), hrun, hstep =>
          have hc : S'.2.2.2 = h ∧ S'.2.1 = ls := by
            cases i <;> simp only [am_do, am_ii, am_i1, am_ll, am_l1, am_r1, am_ri, am_cA, am_cL, am_cQ, am_cO, am_ix, Bool.cond_eq_ite] at hstep <;> (repeat' split at hstep) <;> first | (cases hstep; done) | (cases hstep; exact ⟨rfl, rfl⟩)
          cases d with
          | zero => simp at hrun
          | succ d' =>
            dsimp only at hrun
            split at hrun
            · cases hrun
            · rename_i hL
              rw [hc.1] at hrun
              cases hr : am_run P n d' (L - am_lc P y) y (0, am_ent vs (P y).2.1, [], h) with
              | none => rw [hr] at hrun; simp at hrun
              | some q =>
                obtain ⟨r1, h1⟩ := q
                rw [hr] at hrun
                dsimp only at hrun
                have g1 := am_run_grow _ _ _ _ _ _ hr
                have g2 := am_run_grow _ _ _ _ _ _ hrun
                dsimp only at g1 g2
                refine am_call hG hP ih X hK hd hE g hl hz hstep hRf hRl (by omega) (by omega) hr (by omega) (by omega) ?_
                intro H1 locs1 gg hz1
                rw [hc.2] at hrun
                refine ih (d' + 1) L M S'.1 ls (r1.toList ++ S'.2.2.1) h1 r h' hrun p e R s m args below meth c H1 locs1 _ _ Q lsr X hEnt hK gg hl hz1 hRf hRl (by omega) (by omega) ?_
                intro H2 locs2 pc1 lsr2 gg2 hRD
                have := hret H2 locs2 pc1 lsr2 gg2 hRD
                have e1 : cells + (h'.1 - h.1) = cells + (h1.1 - h.1) + (h'.1 - h1.1) := by omega
                have e2 : slots + (h'.2.1 - h.2.1) = slots + (h1.2.1 - h.2.1) + (h'.2.1 - h1.2.1) := by omega
                rw [e1, e2] at this
                exact this
end
