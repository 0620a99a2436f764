-- ===== PART A: goes FIRST, ahead of the names: the tables' words, and 'selects' of the private methods out of them =====
/-- a private method of a class that the tables say can be made, by its rows of tables_1 -/
def lw_okq (q : MethodName × Nat) : Prop := (q.1.cls ≠ "java/lang/invoke/MethodHandle" ∧ q.1.cls ≠ "java/lang/invoke/VarHandle") ∧ Cond.instantiable q.1.cls q.2 ∈ tables_1 ∧ Cond.privateMethod q.1 ∈ tables_1 ∧ Cond.instanceMethod q.1 ∈ tables_1
theorem lw_p0 : lw_okq (⟨"LightHalves$RuleReader", "advance", "([II)V"⟩, 11) := ⟨⟨by decide +kernel, by decide +kernel⟩, List.mem_of_getElem? (i := 228) (by decide +kernel), List.mem_of_getElem? (i := 512) (by decide +kernel), List.mem_of_getElem? (i := 513) (by decide +kernel)⟩
theorem lw_p1 : lw_okq (⟨"LightHalves$RuleReader", "advanceDigits", "([II)V"⟩, 11) := ⟨⟨by decide +kernel, by decide +kernel⟩, List.mem_of_getElem? (i := 228) (by decide +kernel), List.mem_of_getElem? (i := 574) (by decide +kernel), List.mem_of_getElem? (i := 575) (by decide +kernel)⟩
theorem lw_p2 : lw_okq (⟨"LightHalves$RuleReader", "accepts", "(LLightHalves$Rules;)Z"⟩, 11) := ⟨⟨by decide +kernel, by decide +kernel⟩, List.mem_of_getElem? (i := 228) (by decide +kernel), List.mem_of_getElem? (i := 578) (by decide +kernel), List.mem_of_getElem? (i := 579) (by decide +kernel)⟩
theorem lw_p3 : lw_okq (⟨"LightHalves$RuleReader", "acceptsKind", "(LLightHalves$Rules;)Z"⟩, 11) := ⟨⟨by decide +kernel, by decide +kernel⟩, List.mem_of_getElem? (i := 228) (by decide +kernel), List.mem_of_getElem? (i := 582) (by decide +kernel), List.mem_of_getElem? (i := 583) (by decide +kernel)⟩
theorem lw_p4 : lw_okq (⟨"LightHalves$RuleReader", "expect", "(I)Z"⟩, 11) := ⟨⟨by decide +kernel, by decide +kernel⟩, List.mem_of_getElem? (i := 228) (by decide +kernel), List.mem_of_getElem? (i := 586) (by decide +kernel), List.mem_of_getElem? (i := 587) (by decide +kernel)⟩
theorem lw_p5 : lw_okq (⟨"LightHalves$RuleReader", "acceptsDo", "(LLightHalves$Rules;)Z"⟩, 11) := ⟨⟨by decide +kernel, by decide +kernel⟩, List.mem_of_getElem? (i := 228) (by decide +kernel), List.mem_of_getElem? (i := 590) (by decide +kernel), List.mem_of_getElem? (i := 591) (by decide +kernel)⟩
theorem lw_p6 : lw_okq (⟨"LightHalves$RuleReader", "acceptsOne", "()Z"⟩, 11) := ⟨⟨by decide +kernel, by decide +kernel⟩, List.mem_of_getElem? (i := 228) (by decide +kernel), List.mem_of_getElem? (i := 598) (by decide +kernel), List.mem_of_getElem? (i := 599) (by decide +kernel)⟩
theorem lw_p7 : lw_okq (⟨"LightHalves$RuleReader", "await", "(I)V"⟩, 11) := ⟨⟨by decide +kernel, by decide +kernel⟩, List.mem_of_getElem? (i := 228) (by decide +kernel), List.mem_of_getElem? (i := 602) (by decide +kernel), List.mem_of_getElem? (i := 603) (by decide +kernel)⟩
theorem lw_p8 : lw_okq (⟨"LightHalves$RuleReader", "valueOfToken", "()I"⟩, 11) := ⟨⟨by decide +kernel, by decide +kernel⟩, List.mem_of_getElem? (i := 228) (by decide +kernel), List.mem_of_getElem? (i := 606) (by decide +kernel), List.mem_of_getElem? (i := 607) (by decide +kernel)⟩
theorem lw_p9 : lw_okq (⟨"LightHalves$RuleReader", "acceptsSign", "()Z"⟩, 11) := ⟨⟨by decide +kernel, by decide +kernel⟩, List.mem_of_getElem? (i := 228) (by decide +kernel), List.mem_of_getElem? (i := 610) (by decide +kernel), List.mem_of_getElem? (i := 611) (by decide +kernel)⟩
theorem lw_p10 : lw_okq (⟨"LightHalves$RuleReader", "acceptsRight", "(LLightHalves$Rules;)Z"⟩, 11) := ⟨⟨by decide +kernel, by decide +kernel⟩, List.mem_of_getElem? (i := 228) (by decide +kernel), List.mem_of_getElem? (i := 614) (by decide +kernel), List.mem_of_getElem? (i := 615) (by decide +kernel)⟩
theorem lw_p11 : lw_okq (⟨"LightHalves$RuleReader", "acceptsBehindOne", "(LLightHalves$Rules;)Z"⟩, 11) := ⟨⟨by decide +kernel, by decide +kernel⟩, List.mem_of_getElem? (i := 228) (by decide +kernel), List.mem_of_getElem? (i := 622) (by decide +kernel), List.mem_of_getElem? (i := 623) (by decide +kernel)⟩
theorem lw_p12 : lw_okq (⟨"LightHalves$RuleReader", "join", "(LLightHalves$Rules;I)V"⟩, 11) := ⟨⟨by decide +kernel, by decide +kernel⟩, List.mem_of_getElem? (i := 228) (by decide +kernel), List.mem_of_getElem? (i := 626) (by decide +kernel), List.mem_of_getElem? (i := 627) (by decide +kernel)⟩
theorem lw_p13 : lw_okq (⟨"LightHalves$RuleReader", "closes", "(LLightHalves$Rules;)Z"⟩, 11) := ⟨⟨by decide +kernel, by decide +kernel⟩, List.mem_of_getElem? (i := 228) (by decide +kernel), List.mem_of_getElem? (i := 630) (by decide +kernel), List.mem_of_getElem? (i := 631) (by decide +kernel)⟩
theorem lw_p14 : lw_okq (⟨"LightHalves$Rock", "obey", "(LLightHalves$Standing;I)I"⟩, 12) := ⟨⟨by decide +kernel, by decide +kernel⟩, List.mem_of_getElem? (i := 28) (by decide +kernel), List.mem_of_getElem? (i := 660) (by decide +kernel), List.mem_of_getElem? (i := 661) (by decide +kernel)⟩
theorem lw_p15 : lw_okq (⟨"LightHalves", "worthOfRest", "(I)I"⟩, 13) := ⟨⟨by decide +kernel, by decide +kernel⟩, List.mem_of_getElem? (i := 20) (by decide +kernel), List.mem_of_getElem? (i := 680) (by decide +kernel), List.mem_of_getElem? (i := 681) (by decide +kernel)⟩
def lw_privs_1 : List (MethodName × Nat) := [(⟨"LightHalves$RuleReader", "advance", "([II)V"⟩, 11), (⟨"LightHalves$RuleReader", "advanceDigits", "([II)V"⟩, 11), (⟨"LightHalves$RuleReader", "accepts", "(LLightHalves$Rules;)Z"⟩, 11), (⟨"LightHalves$RuleReader", "acceptsKind", "(LLightHalves$Rules;)Z"⟩, 11), (⟨"LightHalves$RuleReader", "expect", "(I)Z"⟩, 11), (⟨"LightHalves$RuleReader", "acceptsDo", "(LLightHalves$Rules;)Z"⟩, 11), (⟨"LightHalves$RuleReader", "acceptsOne", "()Z"⟩, 11), (⟨"LightHalves$RuleReader", "await", "(I)V"⟩, 11), (⟨"LightHalves$RuleReader", "valueOfToken", "()I"⟩, 11), (⟨"LightHalves$RuleReader", "acceptsSign", "()Z"⟩, 11), (⟨"LightHalves$RuleReader", "acceptsRight", "(LLightHalves$Rules;)Z"⟩, 11), (⟨"LightHalves$RuleReader", "acceptsBehindOne", "(LLightHalves$Rules;)Z"⟩, 11), (⟨"LightHalves$RuleReader", "join", "(LLightHalves$Rules;I)V"⟩, 11), (⟨"LightHalves$RuleReader", "closes", "(LLightHalves$Rules;)Z"⟩, 11), (⟨"LightHalves$Rock", "obey", "(LLightHalves$Standing;I)I"⟩, 12), (⟨"LightHalves", "worthOfRest", "(I)I"⟩, 13)]
theorem lw_r1 : ∀ q ∈ lw_privs_1, lw_okq q := List.forall_mem_cons.mpr ⟨lw_p0, List.forall_mem_cons.mpr ⟨lw_p1, List.forall_mem_cons.mpr ⟨lw_p2, List.forall_mem_cons.mpr ⟨lw_p3, List.forall_mem_cons.mpr ⟨lw_p4, List.forall_mem_cons.mpr ⟨lw_p5, List.forall_mem_cons.mpr ⟨lw_p6, List.forall_mem_cons.mpr ⟨lw_p7, List.forall_mem_cons.mpr ⟨lw_p8, List.forall_mem_cons.mpr ⟨lw_p9, List.forall_mem_cons.mpr ⟨lw_p10, List.forall_mem_cons.mpr ⟨lw_p11, List.forall_mem_cons.mpr ⟨lw_p12, List.forall_mem_cons.mpr ⟨lw_p13, List.forall_mem_cons.mpr ⟨lw_p14, List.forall_mem_cons.mpr ⟨lw_p15, fun _ h => absurd h List.not_mem_nil⟩⟩⟩⟩⟩⟩⟩⟩⟩⟩⟩⟩⟩⟩⟩⟩
theorem lw_p16 : lw_okq (⟨"LightHalves", "leastOfBest", "([III)I"⟩, 13) := ⟨⟨by decide +kernel, by decide +kernel⟩, List.mem_of_getElem? (i := 20) (by decide +kernel), List.mem_of_getElem? (i := 697) (by decide +kernel), List.mem_of_getElem? (i := 698) (by decide +kernel)⟩
theorem lw_p17 : lw_okq (⟨"LightHalves", "countConvoys", "()I"⟩, 13) := ⟨⟨by decide +kernel, by decide +kernel⟩, List.mem_of_getElem? (i := 20) (by decide +kernel), List.mem_of_getElem? (i := 723) (by decide +kernel), List.mem_of_getElem? (i := 724) (by decide +kernel)⟩
theorem lw_p18 : lw_okq (⟨"LightHalves$Rock", "areClose", "(II)Z"⟩, 12) := ⟨⟨by decide +kernel, by decide +kernel⟩, List.mem_of_getElem? (i := 28) (by decide +kernel), List.mem_of_getElem? (i := 731) (by decide +kernel), List.mem_of_getElem? (i := 732) (by decide +kernel)⟩
theorem lw_p19 : lw_okq (⟨"LightHalves$Planner", "begin", "(LLightHalves$Rock;I)V"⟩, 9) := ⟨⟨by decide +kernel, by decide +kernel⟩, List.mem_of_getElem? (i := 184) (by decide +kernel), List.mem_of_getElem? (i := 749) (by decide +kernel), List.mem_of_getElem? (i := 750) (by decide +kernel)⟩
theorem lw_p20 : lw_okq (⟨"LightHalves$Planner", "explore", "(LLightHalves$Rock;III)V"⟩, 9) := ⟨⟨by decide +kernel, by decide +kernel⟩, List.mem_of_getElem? (i := 184) (by decide +kernel), List.mem_of_getElem? (i := 756) (by decide +kernel), List.mem_of_getElem? (i := 757) (by decide +kernel)⟩
theorem lw_p21 : lw_okq (⟨"LightHalves$Planner", "weigh", "(IIII)V"⟩, 9) := ⟨⟨by decide +kernel, by decide +kernel⟩, List.mem_of_getElem? (i := 184) (by decide +kernel), List.mem_of_getElem? (i := 760) (by decide +kernel), List.mem_of_getElem? (i := 761) (by decide +kernel)⟩
theorem lw_p22 : lw_okq (⟨"LightHalves$Planner", "duel", "(LLightHalves$Rock;I)I"⟩, 9) := ⟨⟨by decide +kernel, by decide +kernel⟩, List.mem_of_getElem? (i := 184) (by decide +kernel), List.mem_of_getElem? (i := 799) (by decide +kernel), List.mem_of_getElem? (i := 800) (by decide +kernel)⟩
theorem lw_p23 : lw_okq (⟨"LightHalves", "countLone", "()I"⟩, 13) := ⟨⟨by decide +kernel, by decide +kernel⟩, List.mem_of_getElem? (i := 20) (by decide +kernel), List.mem_of_getElem? (i := 823) (by decide +kernel), List.mem_of_getElem? (i := 824) (by decide +kernel)⟩
theorem lw_p24 : lw_okq (⟨"LightHalves$Reports", "latest", "()I"⟩, 5) := ⟨⟨by decide +kernel, by decide +kernel⟩, List.mem_of_getElem? (i := 104) (by decide +kernel), List.mem_of_getElem? (i := 837) (by decide +kernel), List.mem_of_getElem? (i := 838) (by decide +kernel)⟩
theorem lw_p25 : lw_okq (⟨"LightHalves$Reports", "wrongBehind", "(III)I"⟩, 5) := ⟨⟨by decide +kernel, by decide +kernel⟩, List.mem_of_getElem? (i := 104) (by decide +kernel), List.mem_of_getElem? (i := 843) (by decide +kernel), List.mem_of_getElem? (i := 844) (by decide +kernel)⟩
theorem lw_p26 : lw_okq (⟨"LightHalves", "firstLone", "()I"⟩, 13) := ⟨⟨by decide +kernel, by decide +kernel⟩, List.mem_of_getElem? (i := 20) (by decide +kernel), List.mem_of_getElem? (i := 852) (by decide +kernel), List.mem_of_getElem? (i := 853) (by decide +kernel)⟩
theorem lw_p27 : lw_okq (⟨"LightHalves", "worthByLot", "()I"⟩, 13) := ⟨⟨by decide +kernel, by decide +kernel⟩, List.mem_of_getElem? (i := 20) (by decide +kernel), List.mem_of_getElem? (i := 881) (by decide +kernel), List.mem_of_getElem? (i := 882) (by decide +kernel)⟩
theorem lw_p28 : lw_okq (⟨"LightHalves", "hasCell", "(II)Z"⟩, 13) := ⟨⟨by decide +kernel, by decide +kernel⟩, List.mem_of_getElem? (i := 20) (by decide +kernel), List.mem_of_getElem? (i := 894) (by decide +kernel), List.mem_of_getElem? (i := 895) (by decide +kernel)⟩
theorem lw_p29 : lw_okq (⟨"LightHalves$Thing", "begin", "(I)V"⟩, 6) := ⟨⟨by decide +kernel, by decide +kernel⟩, List.mem_of_getElem? (i := 299) (by decide +kernel), List.mem_of_getElem? (i := 1023) (by decide +kernel), List.mem_of_getElem? (i := 1024) (by decide +kernel)⟩
theorem lw_p30 : lw_okq (⟨"LightHalves$Thing", "shipSights", "(I)I"⟩, 6) := ⟨⟨by decide +kernel, by decide +kernel⟩, List.mem_of_getElem? (i := 299) (by decide +kernel), List.mem_of_getElem? (i := 1027) (by decide +kernel), List.mem_of_getElem? (i := 1028) (by decide +kernel)⟩
theorem lw_p31 : lw_okq (⟨"LightHalves$Thing", "shipTacks", "(I)I"⟩, 6) := ⟨⟨by decide +kernel, by decide +kernel⟩, List.mem_of_getElem? (i := 299) (by decide +kernel), List.mem_of_getElem? (i := 1035) (by decide +kernel), List.mem_of_getElem? (i := 1036) (by decide +kernel)⟩
def lw_privs_2 : List (MethodName × Nat) := [(⟨"LightHalves", "leastOfBest", "([III)I"⟩, 13), (⟨"LightHalves", "countConvoys", "()I"⟩, 13), (⟨"LightHalves$Rock", "areClose", "(II)Z"⟩, 12), (⟨"LightHalves$Planner", "begin", "(LLightHalves$Rock;I)V"⟩, 9), (⟨"LightHalves$Planner", "explore", "(LLightHalves$Rock;III)V"⟩, 9), (⟨"LightHalves$Planner", "weigh", "(IIII)V"⟩, 9), (⟨"LightHalves$Planner", "duel", "(LLightHalves$Rock;I)I"⟩, 9), (⟨"LightHalves", "countLone", "()I"⟩, 13), (⟨"LightHalves$Reports", "latest", "()I"⟩, 5), (⟨"LightHalves$Reports", "wrongBehind", "(III)I"⟩, 5), (⟨"LightHalves", "firstLone", "()I"⟩, 13), (⟨"LightHalves", "worthByLot", "()I"⟩, 13), (⟨"LightHalves", "hasCell", "(II)Z"⟩, 13), (⟨"LightHalves$Thing", "begin", "(I)V"⟩, 6), (⟨"LightHalves$Thing", "shipSights", "(I)I"⟩, 6), (⟨"LightHalves$Thing", "shipTacks", "(I)I"⟩, 6)]
theorem lw_r2 : ∀ q ∈ lw_privs_2, lw_okq q := List.forall_mem_cons.mpr ⟨lw_p16, List.forall_mem_cons.mpr ⟨lw_p17, List.forall_mem_cons.mpr ⟨lw_p18, List.forall_mem_cons.mpr ⟨lw_p19, List.forall_mem_cons.mpr ⟨lw_p20, List.forall_mem_cons.mpr ⟨lw_p21, List.forall_mem_cons.mpr ⟨lw_p22, List.forall_mem_cons.mpr ⟨lw_p23, List.forall_mem_cons.mpr ⟨lw_p24, List.forall_mem_cons.mpr ⟨lw_p25, List.forall_mem_cons.mpr ⟨lw_p26, List.forall_mem_cons.mpr ⟨lw_p27, List.forall_mem_cons.mpr ⟨lw_p28, List.forall_mem_cons.mpr ⟨lw_p29, List.forall_mem_cons.mpr ⟨lw_p30, List.forall_mem_cons.mpr ⟨lw_p31, fun _ h => absurd h List.not_mem_nil⟩⟩⟩⟩⟩⟩⟩⟩⟩⟩⟩⟩⟩⟩⟩⟩
theorem lw_p32 : lw_okq (⟨"LightHalves$Thing", "brigSounds", "(I)I"⟩, 6) := ⟨⟨by decide +kernel, by decide +kernel⟩, List.mem_of_getElem? (i := 299) (by decide +kernel), List.mem_of_getElem? (i := 1044) (by decide +kernel), List.mem_of_getElem? (i := 1045) (by decide +kernel)⟩
theorem lw_p33 : lw_okq (⟨"LightHalves$Thing", "shipSounds", "(I)I"⟩, 6) := ⟨⟨by decide +kernel, by decide +kernel⟩, List.mem_of_getElem? (i := 299) (by decide +kernel), List.mem_of_getElem? (i := 1048) (by decide +kernel), List.mem_of_getElem? (i := 1049) (by decide +kernel)⟩
theorem lw_p34 : lw_okq (⟨"LightHalves$Thing", "shipLands", "(I)I"⟩, 6) := ⟨⟨by decide +kernel, by decide +kernel⟩, List.mem_of_getElem? (i := 299) (by decide +kernel), List.mem_of_getElem? (i := 1056) (by decide +kernel), List.mem_of_getElem? (i := 1057) (by decide +kernel)⟩
theorem lw_p35 : lw_okq (⟨"LightHalvesModel", "next", "()V"⟩, 37) := ⟨⟨by decide +kernel, by decide +kernel⟩, List.mem_of_getElem? (i := 1090) (by decide +kernel), List.mem_of_getElem? (i := 1221) (by decide +kernel), List.mem_of_getElem? (i := 1222) (by decide +kernel)⟩
theorem lw_p36 : lw_okq (⟨"LightHalvesModel", "byteAt", "(I)I"⟩, 37) := ⟨⟨by decide +kernel, by decide +kernel⟩, List.mem_of_getElem? (i := 1090) (by decide +kernel), List.mem_of_getElem? (i := 1225) (by decide +kernel), List.mem_of_getElem? (i := 1226) (by decide +kernel)⟩
theorem lw_p37 : lw_okq (⟨"LightHalvesModel", "readsName", "()V"⟩, 37) := ⟨⟨by decide +kernel, by decide +kernel⟩, List.mem_of_getElem? (i := 1090) (by decide +kernel), List.mem_of_getElem? (i := 1229) (by decide +kernel), List.mem_of_getElem? (i := 1230) (by decide +kernel)⟩
theorem lw_p38 : lw_okq (⟨"LightHalvesModel", "isNameOf", "(I)Z"⟩, 37) := ⟨⟨by decide +kernel, by decide +kernel⟩, List.mem_of_getElem? (i := 1090) (by decide +kernel), List.mem_of_getElem? (i := 1233) (by decide +kernel), List.mem_of_getElem? (i := 1234) (by decide +kernel)⟩
theorem lw_p39 : lw_okq (⟨"LightHalvesModel", "readsNumber", "()V"⟩, 37) := ⟨⟨by decide +kernel, by decide +kernel⟩, List.mem_of_getElem? (i := 1090) (by decide +kernel), List.mem_of_getElem? (i := 1237) (by decide +kernel), List.mem_of_getElem? (i := 1238) (by decide +kernel)⟩
theorem lw_p40 : lw_okq (⟨"LightHalvesModel", "readsRule", "(I)Z"⟩, 37) := ⟨⟨by decide +kernel, by decide +kernel⟩, List.mem_of_getElem? (i := 1090) (by decide +kernel), List.mem_of_getElem? (i := 1241) (by decide +kernel), List.mem_of_getElem? (i := 1242) (by decide +kernel)⟩
theorem lw_p41 : lw_okq (⟨"LightHalvesModel", "takes", "(I)Z"⟩, 37) := ⟨⟨by decide +kernel, by decide +kernel⟩, List.mem_of_getElem? (i := 1090) (by decide +kernel), List.mem_of_getElem? (i := 1245) (by decide +kernel), List.mem_of_getElem? (i := 1246) (by decide +kernel)⟩
theorem lw_p42 : lw_okq (⟨"LightHalvesModel", "readsCondition", "()Z"⟩, 37) := ⟨⟨by decide +kernel, by decide +kernel⟩, List.mem_of_getElem? (i := 1090) (by decide +kernel), List.mem_of_getElem? (i := 1249) (by decide +kernel), List.mem_of_getElem? (i := 1250) (by decide +kernel)⟩
theorem lw_p43 : lw_okq (⟨"LightHalvesModel", "readsAll", "()Z"⟩, 37) := ⟨⟨by decide +kernel, by decide +kernel⟩, List.mem_of_getElem? (i := 1090) (by decide +kernel), List.mem_of_getElem? (i := 1253) (by decide +kernel), List.mem_of_getElem? (i := 1254) (by decide +kernel)⟩
theorem lw_p44 : lw_okq (⟨"LightHalvesModel", "readsOne", "()Z"⟩, 37) := ⟨⟨by decide +kernel, by decide +kernel⟩, List.mem_of_getElem? (i := 1090) (by decide +kernel), List.mem_of_getElem? (i := 1257) (by decide +kernel), List.mem_of_getElem? (i := 1258) (by decide +kernel)⟩
theorem lw_p45 : lw_okq (⟨"LightHalvesModel", "readsWithin", "()Z"⟩, 37) := ⟨⟨by decide +kernel, by decide +kernel⟩, List.mem_of_getElem? (i := 1090) (by decide +kernel), List.mem_of_getElem? (i := 1261) (by decide +kernel), List.mem_of_getElem? (i := 1262) (by decide +kernel)⟩
theorem lw_p46 : lw_okq (⟨"LightHalvesModel", "readsLike", "()Z"⟩, 37) := ⟨⟨by decide +kernel, by decide +kernel⟩, List.mem_of_getElem? (i := 1090) (by decide +kernel), List.mem_of_getElem? (i := 1265) (by decide +kernel), List.mem_of_getElem? (i := 1266) (by decide +kernel)⟩
theorem lw_p47 : lw_okq (⟨"LightHalvesModel", "readsValue", "()Z"⟩, 37) := ⟨⟨by decide +kernel, by decide +kernel⟩, List.mem_of_getElem? (i := 1090) (by decide +kernel), List.mem_of_getElem? (i := 1269) (by decide +kernel), List.mem_of_getElem? (i := 1270) (by decide +kernel)⟩
def lw_privs_3 : List (MethodName × Nat) := [(⟨"LightHalves$Thing", "brigSounds", "(I)I"⟩, 6), (⟨"LightHalves$Thing", "shipSounds", "(I)I"⟩, 6), (⟨"LightHalves$Thing", "shipLands", "(I)I"⟩, 6), (⟨"LightHalvesModel", "next", "()V"⟩, 37), (⟨"LightHalvesModel", "byteAt", "(I)I"⟩, 37), (⟨"LightHalvesModel", "readsName", "()V"⟩, 37), (⟨"LightHalvesModel", "isNameOf", "(I)Z"⟩, 37), (⟨"LightHalvesModel", "readsNumber", "()V"⟩, 37), (⟨"LightHalvesModel", "readsRule", "(I)Z"⟩, 37), (⟨"LightHalvesModel", "takes", "(I)Z"⟩, 37), (⟨"LightHalvesModel", "readsCondition", "()Z"⟩, 37), (⟨"LightHalvesModel", "readsAll", "()Z"⟩, 37), (⟨"LightHalvesModel", "readsOne", "()Z"⟩, 37), (⟨"LightHalvesModel", "readsWithin", "()Z"⟩, 37), (⟨"LightHalvesModel", "readsLike", "()Z"⟩, 37), (⟨"LightHalvesModel", "readsValue", "()Z"⟩, 37)]
theorem lw_r3 : ∀ q ∈ lw_privs_3, lw_okq q := List.forall_mem_cons.mpr ⟨lw_p32, List.forall_mem_cons.mpr ⟨lw_p33, List.forall_mem_cons.mpr ⟨lw_p34, List.forall_mem_cons.mpr ⟨lw_p35, List.forall_mem_cons.mpr ⟨lw_p36, List.forall_mem_cons.mpr ⟨lw_p37, List.forall_mem_cons.mpr ⟨lw_p38, List.forall_mem_cons.mpr ⟨lw_p39, List.forall_mem_cons.mpr ⟨lw_p40, List.forall_mem_cons.mpr ⟨lw_p41, List.forall_mem_cons.mpr ⟨lw_p42, List.forall_mem_cons.mpr ⟨lw_p43, List.forall_mem_cons.mpr ⟨lw_p44, List.forall_mem_cons.mpr ⟨lw_p45, List.forall_mem_cons.mpr ⟨lw_p46, List.forall_mem_cons.mpr ⟨lw_p47, fun _ h => absurd h List.not_mem_nil⟩⟩⟩⟩⟩⟩⟩⟩⟩⟩⟩⟩⟩⟩⟩⟩
theorem lw_p48 : lw_okq (⟨"LightHalvesModel", "lays", "(I)V"⟩, 37) := ⟨⟨by decide +kernel, by decide +kernel⟩, List.mem_of_getElem? (i := 1090) (by decide +kernel), List.mem_of_getElem? (i := 1273) (by decide +kernel), List.mem_of_getElem? (i := 1274) (by decide +kernel)⟩
theorem lw_p49 : lw_okq (⟨"LightHalvesModel", "puts", "(III)V"⟩, 37) := ⟨⟨by decide +kernel, by decide +kernel⟩, List.mem_of_getElem? (i := 1090) (by decide +kernel), List.mem_of_getElem? (i := 1287) (by decide +kernel), List.mem_of_getElem? (i := 1288) (by decide +kernel)⟩
theorem lw_p50 : lw_okq (⟨"LightHalvesModel", "isShip", "(I)Z"⟩, 37) := ⟨⟨by decide +kernel, by decide +kernel⟩, List.mem_of_getElem? (i := 1090) (by decide +kernel), List.mem_of_getElem? (i := 1295) (by decide +kernel), List.mem_of_getElem? (i := 1296) (by decide +kernel)⟩
theorem lw_p51 : lw_okq (⟨"LightHalvesModel", "nearsOf", "(I)I"⟩, 37) := ⟨⟨by decide +kernel, by decide +kernel⟩, List.mem_of_getElem? (i := 1090) (by decide +kernel), List.mem_of_getElem? (i := 1299) (by decide +kernel), List.mem_of_getElem? (i := 1300) (by decide +kernel)⟩
theorem lw_p52 : lw_okq (⟨"LightHalvesModel", "get", "(II)I"⟩, 37) := ⟨⟨by decide +kernel, by decide +kernel⟩, List.mem_of_getElem? (i := 1090) (by decide +kernel), List.mem_of_getElem? (i := 1303) (by decide +kernel), List.mem_of_getElem? (i := 1304) (by decide +kernel)⟩
theorem lw_p53 : lw_okq (⟨"LightHalvesModel", "lightNow", "()I"⟩, 37) := ⟨⟨by decide +kernel, by decide +kernel⟩, List.mem_of_getElem? (i := 1090) (by decide +kernel), List.mem_of_getElem? (i := 1307) (by decide +kernel), List.mem_of_getElem? (i := 1308) (by decide +kernel)⟩
theorem lw_p54 : lw_okq (⟨"LightHalvesModel", "reachesWith", "(II)I"⟩, 37) := ⟨⟨by decide +kernel, by decide +kernel⟩, List.mem_of_getElem? (i := 1090) (by decide +kernel), List.mem_of_getElem? (i := 1314) (by decide +kernel), List.mem_of_getElem? (i := 1315) (by decide +kernel)⟩
theorem lw_p55 : lw_okq (⟨"LightHalvesModel", "paysOf", "(I)I"⟩, 37) := ⟨⟨by decide +kernel, by decide +kernel⟩, List.mem_of_getElem? (i := 1090) (by decide +kernel), List.mem_of_getElem? (i := 1321) (by decide +kernel), List.mem_of_getElem? (i := 1322) (by decide +kernel)⟩
theorem lw_p56 : lw_okq (⟨"LightHalvesModel", "isReachedWith", "(II)Z"⟩, 37) := ⟨⟨by decide +kernel, by decide +kernel⟩, List.mem_of_getElem? (i := 1090) (by decide +kernel), List.mem_of_getElem? (i := 1325) (by decide +kernel), List.mem_of_getElem? (i := 1326) (by decide +kernel)⟩
theorem lw_p57 : lw_okq (⟨"LightHalvesModel", "mayEnter", "(I)Z"⟩, 37) := ⟨⟨by decide +kernel, by decide +kernel⟩, List.mem_of_getElem? (i := 1090) (by decide +kernel), List.mem_of_getElem? (i := 1329) (by decide +kernel), List.mem_of_getElem? (i := 1330) (by decide +kernel)⟩
theorem lw_p58 : lw_okq (⟨"LightHalvesModel", "willOf", "(I)I"⟩, 37) := ⟨⟨by decide +kernel, by decide +kernel⟩, List.mem_of_getElem? (i := 1090) (by decide +kernel), List.mem_of_getElem? (i := 1333) (by decide +kernel), List.mem_of_getElem? (i := 1334) (by decide +kernel)⟩
theorem lw_p59 : lw_okq (⟨"LightHalvesModel", "ruleOf", "(II)I"⟩, 37) := ⟨⟨by decide +kernel, by decide +kernel⟩, List.mem_of_getElem? (i := 1090) (by decide +kernel), List.mem_of_getElem? (i := 1337) (by decide +kernel), List.mem_of_getElem? (i := 1338) (by decide +kernel)⟩
theorem lw_p60 : lw_okq (⟨"LightHalvesModel", "holdsFor", "(II)Z"⟩, 37) := ⟨⟨by decide +kernel, by decide +kernel⟩, List.mem_of_getElem? (i := 1090) (by decide +kernel), List.mem_of_getElem? (i := 1347) (by decide +kernel), List.mem_of_getElem? (i := 1348) (by decide +kernel)⟩
theorem lw_p61 : lw_okq (⟨"LightHalvesModel", "knownOf", "(II)I"⟩, 37) := ⟨⟨by decide +kernel, by decide +kernel⟩, List.mem_of_getElem? (i := 1090) (by decide +kernel), List.mem_of_getElem? (i := 1351) (by decide +kernel), List.mem_of_getElem? (i := 1352) (by decide +kernel)⟩
theorem lw_p62 : lw_okq (⟨"LightHalvesModel", "becomes", "(II)I"⟩, 37) := ⟨⟨by decide +kernel, by decide +kernel⟩, List.mem_of_getElem? (i := 1090) (by decide +kernel), List.mem_of_getElem? (i := 1362) (by decide +kernel), List.mem_of_getElem? (i := 1363) (by decide +kernel)⟩
theorem lw_p63 : lw_okq (⟨"LightHalvesModel", "isOver", "()Z"⟩, 37) := ⟨⟨by decide +kernel, by decide +kernel⟩, List.mem_of_getElem? (i := 1090) (by decide +kernel), List.mem_of_getElem? (i := 1394) (by decide +kernel), List.mem_of_getElem? (i := 1395) (by decide +kernel)⟩
def lw_privs_4 : List (MethodName × Nat) := [(⟨"LightHalvesModel", "lays", "(I)V"⟩, 37), (⟨"LightHalvesModel", "puts", "(III)V"⟩, 37), (⟨"LightHalvesModel", "isShip", "(I)Z"⟩, 37), (⟨"LightHalvesModel", "nearsOf", "(I)I"⟩, 37), (⟨"LightHalvesModel", "get", "(II)I"⟩, 37), (⟨"LightHalvesModel", "lightNow", "()I"⟩, 37), (⟨"LightHalvesModel", "reachesWith", "(II)I"⟩, 37), (⟨"LightHalvesModel", "paysOf", "(I)I"⟩, 37), (⟨"LightHalvesModel", "isReachedWith", "(II)Z"⟩, 37), (⟨"LightHalvesModel", "mayEnter", "(I)Z"⟩, 37), (⟨"LightHalvesModel", "willOf", "(I)I"⟩, 37), (⟨"LightHalvesModel", "ruleOf", "(II)I"⟩, 37), (⟨"LightHalvesModel", "holdsFor", "(II)Z"⟩, 37), (⟨"LightHalvesModel", "knownOf", "(II)I"⟩, 37), (⟨"LightHalvesModel", "becomes", "(II)I"⟩, 37), (⟨"LightHalvesModel", "isOver", "()Z"⟩, 37)]
theorem lw_r4 : ∀ q ∈ lw_privs_4, lw_okq q := List.forall_mem_cons.mpr ⟨lw_p48, List.forall_mem_cons.mpr ⟨lw_p49, List.forall_mem_cons.mpr ⟨lw_p50, List.forall_mem_cons.mpr ⟨lw_p51, List.forall_mem_cons.mpr ⟨lw_p52, List.forall_mem_cons.mpr ⟨lw_p53, List.forall_mem_cons.mpr ⟨lw_p54, List.forall_mem_cons.mpr ⟨lw_p55, List.forall_mem_cons.mpr ⟨lw_p56, List.forall_mem_cons.mpr ⟨lw_p57, List.forall_mem_cons.mpr ⟨lw_p58, List.forall_mem_cons.mpr ⟨lw_p59, List.forall_mem_cons.mpr ⟨lw_p60, List.forall_mem_cons.mpr ⟨lw_p61, List.forall_mem_cons.mpr ⟨lw_p62, List.forall_mem_cons.mpr ⟨lw_p63, fun _ h => absurd h List.not_mem_nil⟩⟩⟩⟩⟩⟩⟩⟩⟩⟩⟩⟩⟩⟩⟩⟩
theorem lw_p64 : lw_okq (⟨"LightHalvesModel", "those", "(I)I"⟩, 37) := ⟨⟨by decide +kernel, by decide +kernel⟩, List.mem_of_getElem? (i := 1090) (by decide +kernel), List.mem_of_getElem? (i := 1398) (by decide +kernel), List.mem_of_getElem? (i := 1399) (by decide +kernel)⟩
theorem lw_p65 : lw_okq (⟨"LightHalvesModel", "onRock", "()I"⟩, 37) := ⟨⟨by decide +kernel, by decide +kernel⟩, List.mem_of_getElem? (i := 1090) (by decide +kernel), List.mem_of_getElem? (i := 1402) (by decide +kernel), List.mem_of_getElem? (i := 1403) (by decide +kernel)⟩
theorem lw_p66 : lw_okq (⟨"LightHalvesModel", "isOnRock", "(I)Z"⟩, 37) := ⟨⟨by decide +kernel, by decide +kernel⟩, List.mem_of_getElem? (i := 1090) (by decide +kernel), List.mem_of_getElem? (i := 1406) (by decide +kernel), List.mem_of_getElem? (i := 1407) (by decide +kernel)⟩
theorem lw_p67 : lw_okq (⟨"LightHalvesModel", "goesBy", "(I)I"⟩, 37) := ⟨⟨by decide +kernel, by decide +kernel⟩, List.mem_of_getElem? (i := 1090) (by decide +kernel), List.mem_of_getElem? (i := 1414) (by decide +kernel), List.mem_of_getElem? (i := 1415) (by decide +kernel)⟩
theorem lw_p68 : lw_okq (⟨"LightHalvesModel", "restOne", "()I"⟩, 37) := ⟨⟨by decide +kernel, by decide +kernel⟩, List.mem_of_getElem? (i := 1090) (by decide +kernel), List.mem_of_getElem? (i := 1418) (by decide +kernel), List.mem_of_getElem? (i := 1419) (by decide +kernel)⟩
theorem lw_p69 : lw_okq (⟨"LightHalvesModel", "meets", "(I)I"⟩, 37) := ⟨⟨by decide +kernel, by decide +kernel⟩, List.mem_of_getElem? (i := 1090) (by decide +kernel), List.mem_of_getElem? (i := 1422) (by decide +kernel), List.mem_of_getElem? (i := 1423) (by decide +kernel)⟩
theorem lw_p70 : lw_okq (⟨"LightHalvesModel", "enters", "(I)I"⟩, 37) := ⟨⟨by decide +kernel, by decide +kernel⟩, List.mem_of_getElem? (i := 1090) (by decide +kernel), List.mem_of_getElem? (i := 1426) (by decide +kernel), List.mem_of_getElem? (i := 1427) (by decide +kernel)⟩
theorem lw_p71 : lw_okq (⟨"LightHalvesModel", "layDown", "()V"⟩, 37) := ⟨⟨by decide +kernel, by decide +kernel⟩, List.mem_of_getElem? (i := 1090) (by decide +kernel), List.mem_of_getElem? (i := 1437) (by decide +kernel), List.mem_of_getElem? (i := 1438) (by decide +kernel)⟩
theorem lw_p72 : lw_okq (⟨"LightHalvesModel", "restOf", "(I)I"⟩, 37) := ⟨⟨by decide +kernel, by decide +kernel⟩, List.mem_of_getElem? (i := 1090) (by decide +kernel), List.mem_of_getElem? (i := 1441) (by decide +kernel), List.mem_of_getElem? (i := 1442) (by decide +kernel)⟩
theorem lw_p73 : lw_okq (⟨"LightHalvesModel", "layBack", "()V"⟩, 37) := ⟨⟨by decide +kernel, by decide +kernel⟩, List.mem_of_getElem? (i := 1090) (by decide +kernel), List.mem_of_getElem? (i := 1445) (by decide +kernel), List.mem_of_getElem? (i := 1446) (by decide +kernel)⟩
theorem lw_p74 : lw_okq (⟨"LightHalvesModel", "bestFor", "(III)I"⟩, 37) := ⟨⟨by decide +kernel, by decide +kernel⟩, List.mem_of_getElem? (i := 1090) (by decide +kernel), List.mem_of_getElem? (i := 1457) (by decide +kernel), List.mem_of_getElem? (i := 1458) (by decide +kernel)⟩
theorem lw_p75 : lw_okq (⟨"LightHalvesModel", "convoyOf", "(I)I"⟩, 37) := ⟨⟨by decide +kernel, by decide +kernel⟩, List.mem_of_getElem? (i := 1090) (by decide +kernel), List.mem_of_getElem? (i := 1481) (by decide +kernel), List.mem_of_getElem? (i := 1482) (by decide +kernel)⟩
theorem lw_p76 : lw_okq (⟨"LightHalvesModel", "areClose", "(II)Z"⟩, 37) := ⟨⟨by decide +kernel, by decide +kernel⟩, List.mem_of_getElem? (i := 1090) (by decide +kernel), List.mem_of_getElem? (i := 1485) (by decide +kernel), List.mem_of_getElem? (i := 1486) (by decide +kernel)⟩
theorem lw_p77 : lw_okq (⟨"LightHalvesModel", "triesAll", "(II)V"⟩, 37) := ⟨⟨by decide +kernel, by decide +kernel⟩, List.mem_of_getElem? (i := 1090) (by decide +kernel), List.mem_of_getElem? (i := 1499) (by decide +kernel), List.mem_of_getElem? (i := 1500) (by decide +kernel)⟩
theorem lw_p78 : lw_okq (⟨"LightHalvesModel", "daysOf", "(I)I"⟩, 37) := ⟨⟨by decide +kernel, by decide +kernel⟩, List.mem_of_getElem? (i := 1090) (by decide +kernel), List.mem_of_getElem? (i := 1503) (by decide +kernel), List.mem_of_getElem? (i := 1504) (by decide +kernel)⟩
theorem lw_p79 : lw_okq (⟨"LightHalvesModel", "goesPlans", "(IIIII)V"⟩, 37) := ⟨⟨by decide +kernel, by decide +kernel⟩, List.mem_of_getElem? (i := 1090) (by decide +kernel), List.mem_of_getElem? (i := 1507) (by decide +kernel), List.mem_of_getElem? (i := 1508) (by decide +kernel)⟩
def lw_privs_5 : List (MethodName × Nat) := [(⟨"LightHalvesModel", "those", "(I)I"⟩, 37), (⟨"LightHalvesModel", "onRock", "()I"⟩, 37), (⟨"LightHalvesModel", "isOnRock", "(I)Z"⟩, 37), (⟨"LightHalvesModel", "goesBy", "(I)I"⟩, 37), (⟨"LightHalvesModel", "restOne", "()I"⟩, 37), (⟨"LightHalvesModel", "meets", "(I)I"⟩, 37), (⟨"LightHalvesModel", "enters", "(I)I"⟩, 37), (⟨"LightHalvesModel", "layDown", "()V"⟩, 37), (⟨"LightHalvesModel", "restOf", "(I)I"⟩, 37), (⟨"LightHalvesModel", "layBack", "()V"⟩, 37), (⟨"LightHalvesModel", "bestFor", "(III)I"⟩, 37), (⟨"LightHalvesModel", "convoyOf", "(I)I"⟩, 37), (⟨"LightHalvesModel", "areClose", "(II)Z"⟩, 37), (⟨"LightHalvesModel", "triesAll", "(II)V"⟩, 37), (⟨"LightHalvesModel", "daysOf", "(I)I"⟩, 37), (⟨"LightHalvesModel", "goesPlans", "(IIIII)V"⟩, 37)]
theorem lw_r5 : ∀ q ∈ lw_privs_5, lw_okq q := List.forall_mem_cons.mpr ⟨lw_p64, List.forall_mem_cons.mpr ⟨lw_p65, List.forall_mem_cons.mpr ⟨lw_p66, List.forall_mem_cons.mpr ⟨lw_p67, List.forall_mem_cons.mpr ⟨lw_p68, List.forall_mem_cons.mpr ⟨lw_p69, List.forall_mem_cons.mpr ⟨lw_p70, List.forall_mem_cons.mpr ⟨lw_p71, List.forall_mem_cons.mpr ⟨lw_p72, List.forall_mem_cons.mpr ⟨lw_p73, List.forall_mem_cons.mpr ⟨lw_p74, List.forall_mem_cons.mpr ⟨lw_p75, List.forall_mem_cons.mpr ⟨lw_p76, List.forall_mem_cons.mpr ⟨lw_p77, List.forall_mem_cons.mpr ⟨lw_p78, List.forall_mem_cons.mpr ⟨lw_p79, fun _ h => absurd h List.not_mem_nil⟩⟩⟩⟩⟩⟩⟩⟩⟩⟩⟩⟩⟩⟩⟩⟩
theorem lw_p80 : lw_okq (⟨"LightHalvesModel", "endsPlan", "(IIII)V"⟩, 37) := ⟨⟨by decide +kernel, by decide +kernel⟩, List.mem_of_getElem? (i := 1090) (by decide +kernel), List.mem_of_getElem? (i := 1511) (by decide +kernel), List.mem_of_getElem? (i := 1512) (by decide +kernel)⟩
theorem lw_p81 : lw_okq (⟨"LightHalvesModel", "saves", "(I)V"⟩, 37) := ⟨⟨by decide +kernel, by decide +kernel⟩, List.mem_of_getElem? (i := 1090) (by decide +kernel), List.mem_of_getElem? (i := 1515) (by decide +kernel), List.mem_of_getElem? (i := 1516) (by decide +kernel)⟩
theorem lw_p82 : lw_okq (⟨"LightHalvesModel", "restores", "(I)V"⟩, 37) := ⟨⟨by decide +kernel, by decide +kernel⟩, List.mem_of_getElem? (i := 1090) (by decide +kernel), List.mem_of_getElem? (i := 1519) (by decide +kernel), List.mem_of_getElem? (i := 1520) (by decide +kernel)⟩
theorem lw_p83 : lw_okq (⟨"LightHalvesModel", "isSet", "(I)Z"⟩, 37) := ⟨⟨by decide +kernel, by decide +kernel⟩, List.mem_of_getElem? (i := 1090) (by decide +kernel), List.mem_of_getElem? (i := 1535) (by decide +kernel), List.mem_of_getElem? (i := 1536) (by decide +kernel)⟩
theorem lw_p84 : lw_okq (⟨"LightHalvesModel", "playedFrom", "(II)I"⟩, 37) := ⟨⟨by decide +kernel, by decide +kernel⟩, List.mem_of_getElem? (i := 1090) (by decide +kernel), List.mem_of_getElem? (i := 1547) (by decide +kernel), List.mem_of_getElem? (i := 1548) (by decide +kernel)⟩
theorem lw_p85 : lw_okq (⟨"LightHalvesModel", "fitting", "(I)I"⟩, 37) := ⟨⟨by decide +kernel, by decide +kernel⟩, List.mem_of_getElem? (i := 1090) (by decide +kernel), List.mem_of_getElem? (i := 1567) (by decide +kernel), List.mem_of_getElem? (i := 1568) (by decide +kernel)⟩
theorem lw_p86 : lw_okq (⟨"LightHalvesModel", "tellsLone", "(III)V"⟩, 37) := ⟨⟨by decide +kernel, by decide +kernel⟩, List.mem_of_getElem? (i := 1090) (by decide +kernel), List.mem_of_getElem? (i := 1571) (by decide +kernel), List.mem_of_getElem? (i := 1572) (by decide +kernel)⟩
theorem lw_p87 : lw_okq (⟨"LightHalvesModel", "isSo", "(I)Z"⟩, 37) := ⟨⟨by decide +kernel, by decide +kernel⟩, List.mem_of_getElem? (i := 1090) (by decide +kernel), List.mem_of_getElem? (i := 1575) (by decide +kernel), List.mem_of_getElem? (i := 1576) (by decide +kernel)⟩
theorem lw_p88 : lw_okq (⟨"LightHalvesModel", "byLot", "()I"⟩, 37) := ⟨⟨by decide +kernel, by decide +kernel⟩, List.mem_of_getElem? (i := 1090) (by decide +kernel), List.mem_of_getElem? (i := 1591) (by decide +kernel), List.mem_of_getElem? (i := 1592) (by decide +kernel)⟩
theorem lw_p89 : lw_okq (⟨"LightHalvesModel", "isRow", "(II)Z"⟩, 37) := ⟨⟨by decide +kernel, by decide +kernel⟩, List.mem_of_getElem? (i := 1090) (by decide +kernel), List.mem_of_getElem? (i := 1608) (by decide +kernel), List.mem_of_getElem? (i := 1609) (by decide +kernel)⟩
theorem lw_p90 : lw_okq (⟨"LightHalvesModel", "isAct", "(I)Z"⟩, 37) := ⟨⟨by decide +kernel, by decide +kernel⟩, List.mem_of_getElem? (i := 1090) (by decide +kernel), List.mem_of_getElem? (i := 1620) (by decide +kernel), List.mem_of_getElem? (i := 1621) (by decide +kernel)⟩
theorem lw_p91 : lw_okq (⟨"LightHalvesModel", "lacks", "(II)I"⟩, 37) := ⟨⟨by decide +kernel, by decide +kernel⟩, List.mem_of_getElem? (i := 1090) (by decide +kernel), List.mem_of_getElem? (i := 1642) (by decide +kernel), List.mem_of_getElem? (i := 1643) (by decide +kernel)⟩
theorem lw_p92 : lw_okq (⟨"LightHalvesModel", "isItem", "(III)Z"⟩, 37) := ⟨⟨by decide +kernel, by decide +kernel⟩, List.mem_of_getElem? (i := 1090) (by decide +kernel), List.mem_of_getElem? (i := 1650) (by decide +kernel), List.mem_of_getElem? (i := 1651) (by decide +kernel)⟩
theorem lw_p93 : lw_okq (⟨"LightHalvesModel", "heldOn", "(I)I"⟩, 37) := ⟨⟨by decide +kernel, by decide +kernel⟩, List.mem_of_getElem? (i := 1090) (by decide +kernel), List.mem_of_getElem? (i := 1666) (by decide +kernel), List.mem_of_getElem? (i := 1667) (by decide +kernel)⟩
theorem lw_p94 : lw_okq (⟨"LightHalvesModel", "sightsAs", "(II)I"⟩, 37) := ⟨⟨by decide +kernel, by decide +kernel⟩, List.mem_of_getElem? (i := 1090) (by decide +kernel), List.mem_of_getElem? (i := 1674) (by decide +kernel), List.mem_of_getElem? (i := 1675) (by decide +kernel)⟩
theorem lw_p95 : lw_okq (⟨"LightHalvesModel", "starts", "(I)V"⟩, 37) := ⟨⟨by decide +kernel, by decide +kernel⟩, List.mem_of_getElem? (i := 1090) (by decide +kernel), List.mem_of_getElem? (i := 1678) (by decide +kernel), List.mem_of_getElem? (i := 1679) (by decide +kernel)⟩
def lw_privs_6 : List (MethodName × Nat) := [(⟨"LightHalvesModel", "endsPlan", "(IIII)V"⟩, 37), (⟨"LightHalvesModel", "saves", "(I)V"⟩, 37), (⟨"LightHalvesModel", "restores", "(I)V"⟩, 37), (⟨"LightHalvesModel", "isSet", "(I)Z"⟩, 37), (⟨"LightHalvesModel", "playedFrom", "(II)I"⟩, 37), (⟨"LightHalvesModel", "fitting", "(I)I"⟩, 37), (⟨"LightHalvesModel", "tellsLone", "(III)V"⟩, 37), (⟨"LightHalvesModel", "isSo", "(I)Z"⟩, 37), (⟨"LightHalvesModel", "byLot", "()I"⟩, 37), (⟨"LightHalvesModel", "isRow", "(II)Z"⟩, 37), (⟨"LightHalvesModel", "isAct", "(I)Z"⟩, 37), (⟨"LightHalvesModel", "lacks", "(II)I"⟩, 37), (⟨"LightHalvesModel", "isItem", "(III)Z"⟩, 37), (⟨"LightHalvesModel", "heldOn", "(I)I"⟩, 37), (⟨"LightHalvesModel", "sightsAs", "(II)I"⟩, 37), (⟨"LightHalvesModel", "starts", "(I)V"⟩, 37)]
theorem lw_r6 : ∀ q ∈ lw_privs_6, lw_okq q := List.forall_mem_cons.mpr ⟨lw_p80, List.forall_mem_cons.mpr ⟨lw_p81, List.forall_mem_cons.mpr ⟨lw_p82, List.forall_mem_cons.mpr ⟨lw_p83, List.forall_mem_cons.mpr ⟨lw_p84, List.forall_mem_cons.mpr ⟨lw_p85, List.forall_mem_cons.mpr ⟨lw_p86, List.forall_mem_cons.mpr ⟨lw_p87, List.forall_mem_cons.mpr ⟨lw_p88, List.forall_mem_cons.mpr ⟨lw_p89, List.forall_mem_cons.mpr ⟨lw_p90, List.forall_mem_cons.mpr ⟨lw_p91, List.forall_mem_cons.mpr ⟨lw_p92, List.forall_mem_cons.mpr ⟨lw_p93, List.forall_mem_cons.mpr ⟨lw_p94, List.forall_mem_cons.mpr ⟨lw_p95, fun _ h => absurd h List.not_mem_nil⟩⟩⟩⟩⟩⟩⟩⟩⟩⟩⟩⟩⟩⟩⟩⟩
theorem lw_p96 : lw_okq (⟨"LightHalvesModel", "tacksAs", "(II)I"⟩, 37) := ⟨⟨by decide +kernel, by decide +kernel⟩, List.mem_of_getElem? (i := 1090) (by decide +kernel), List.mem_of_getElem? (i := 1682) (by decide +kernel), List.mem_of_getElem? (i := 1683) (by decide +kernel)⟩
theorem lw_p97 : lw_okq (⟨"LightHalvesModel", "soundsAs", "(II)I"⟩, 37) := ⟨⟨by decide +kernel, by decide +kernel⟩, List.mem_of_getElem? (i := 1090) (by decide +kernel), List.mem_of_getElem? (i := 1686) (by decide +kernel), List.mem_of_getElem? (i := 1687) (by decide +kernel)⟩
theorem lw_p98 : lw_okq (⟨"LightHalvesModel", "landsAs", "(II)I"⟩, 37) := ⟨⟨by decide +kernel, by decide +kernel⟩, List.mem_of_getElem? (i := 1090) (by decide +kernel), List.mem_of_getElem? (i := 1690) (by decide +kernel), List.mem_of_getElem? (i := 1691) (by decide +kernel)⟩
def lw_privs_7 : List (MethodName × Nat) := [(⟨"LightHalvesModel", "tacksAs", "(II)I"⟩, 37), (⟨"LightHalvesModel", "soundsAs", "(II)I"⟩, 37), (⟨"LightHalvesModel", "landsAs", "(II)I"⟩, 37)]
theorem lw_r7 : ∀ q ∈ lw_privs_7, lw_okq q := List.forall_mem_cons.mpr ⟨lw_p96, List.forall_mem_cons.mpr ⟨lw_p97, List.forall_mem_cons.mpr ⟨lw_p98, fun _ h => absurd h List.not_mem_nil⟩⟩⟩
def lw_privs : List (MethodName × Nat) := lw_privs_1 ++ (lw_privs_2 ++ (lw_privs_3 ++ (lw_privs_4 ++ (lw_privs_5 ++ (lw_privs_6 ++ (lw_privs_7))))))
def lw_tbl : List Cond := k2_sels lw_privs ++ tables_1
theorem lw_privs_ok : ∀ q ∈ lw_privs, lw_okq q := by
  show ∀ q ∈ lw_privs_1 ++ (lw_privs_2 ++ (lw_privs_3 ++ (lw_privs_4 ++ (lw_privs_5 ++ (lw_privs_6 ++ (lw_privs_7)))))), lw_okq q
  exact List.forall_mem_append.mpr ⟨lw_r1, List.forall_mem_append.mpr ⟨lw_r2, List.forall_mem_append.mpr ⟨lw_r3, List.forall_mem_append.mpr ⟨lw_r4, List.forall_mem_append.mpr ⟨lw_r5, List.forall_mem_append.mpr ⟨lw_r6, lw_r7⟩⟩⟩⟩⟩⟩
-- ===== end of PART A; then your names; then what follows =====
def RX0 : String := "LightHalves$Host"
def TX0 : u_T := fun k => match k with
  | 0 => ("LightHalves$Host", "sorts", "[I", true)
  | 1 => ("LightHalves$Host", "sizes", "[I", true)
  | 2 => ("LightHalves$Host", "items", "[I", true)
  | 3 => ("LightHalves$Host", "holds", "[I", true)
  | 4 => ("LightHalves$Host", "shelfShips", "[I", true)
  | 5 => ("LightHalves$Host", "shelfSorts", "[I", true)
  | _ => ("LightHalves$Host", "shelfSizes", "[I", true)
def tyX0 : Nat → FieldType := fun k => match k with
  | 0 => .array .int
  | 1 => .array .int
  | 2 => .array .int
  | 3 => .array .int
  | 4 => .array .int
  | 5 => .array .int
  | _ => .array .int
abbrev wsX00 : List Cond := u_ws RX0 TX0 7
theorem nmX0 : ∀ a, a < 7 → ∀ b, b < 7 → a ≠ b → (TX0 a).2.1 ≠ (TX0 b).2.1 := by decide +kernel
theorem tyX0_ok : ∀ k, k < 7 → parseFieldDescriptor (TX0 k).2.2.1 = some (tyX0 k) := by decide +kernel
abbrev cX0_init : ByteArray := prog_2_method_1_code
def yX0_init : MethodName := ⟨RX0, "<init>", "()V"⟩
abbrev cX0_hasSheet : ByteArray := prog_2_method_2_code
def yX0_hasSheet : MethodName := ⟨RX0, "hasSheet", "(I)Z"⟩
abbrev cX0_hasShelf : ByteArray := prog_2_method_3_code
def yX0_hasShelf : MethodName := ⟨RX0, "hasShelf", "(I)Z"⟩
abbrev cX0_isMissing : ByteArray := prog_2_method_4_code
def yX0_isMissing : MethodName := ⟨RX0, "isMissing", "(I)Z"⟩
abbrev cX0_hasItem : ByteArray := prog_2_method_5_code
def yX0_hasItem : MethodName := ⟨RX0, "hasItem", "(II)Z"⟩
abbrev cX0_refusalOf : ByteArray := prog_2_method_6_code
def yX0_refusalOf : MethodName := ⟨RX0, "refusalOf", "(II)I"⟩
abbrev cX0_lay : ByteArray := prog_2_method_7_code
def yX0_lay : MethodName := ⟨RX0, "lay", "(III)V"⟩
abbrev cX0_get : ByteArray := prog_2_method_8_code
def yX0_get : MethodName := ⟨RX0, "get", "(II)I"⟩
abbrev cX0_put : ByteArray := prog_2_method_9_code
def yX0_put : MethodName := ⟨RX0, "put", "(III)V"⟩
abbrev cX0_narrowed : ByteArray := prog_2_method_10_code
def yX0_narrowed : MethodName := ⟨RX0, "narrowed", "(II)I"⟩
abbrev cX0_holdShip : ByteArray := prog_2_method_11_code
def yX0_holdShip : MethodName := ⟨RX0, "holdShip", "(II)I"⟩
abbrev cX0_holdRow : ByteArray := prog_2_method_12_code
def yX0_holdRow : MethodName := ⟨RX0, "holdRow", "(II)I"⟩
abbrev cX0_holdNothing : ByteArray := prog_2_method_13_code
def yX0_holdNothing : MethodName := ⟨RX0, "holdNothing", "(I)I"⟩
abbrev cX0_holdsRow : ByteArray := prog_2_method_14_code
def yX0_holdsRow : MethodName := ⟨RX0, "holdsRow", "(I)Z"⟩
abbrev cX0_sortOn : ByteArray := prog_2_method_15_code
def yX0_sortOn : MethodName := ⟨RX0, "sortOn", "(I)I"⟩
abbrev cX0_sizeOn : ByteArray := prog_2_method_16_code
def yX0_sizeOn : MethodName := ⟨RX0, "sizeOn", "(I)I"⟩
abbrev cX0_shipOn : ByteArray := prog_2_method_17_code
def yX0_shipOn : MethodName := ⟨RX0, "shipOn", "(I)I"⟩
def RX1 : String := "LightHalves$Planner"
def TX1 : u_T := fun k => match k with
  | 0 => ("LightHalves$Planner", "ahead", "[LLightHalves$Standing;", true)
  | 1 => ("LightHalves$Planner", "acts", "[I", true)
  | 2 => ("LightHalves$Planner", "first", "[I", true)
  | 3 => ("LightHalves$Planner", "length", "I", false)
  | 4 => ("LightHalves$Planner", "wanted", "I", false)
  | 5 => ("LightHalves$Planner", "best", "I", false)
  | 6 => ("LightHalves$Planner", "ways", "I", false)
  | 7 => ("LightHalves$Planner", "fewest", "I", false)
  | _ => ("LightHalves$Planner", "everHome", "I", false)
def tyX1 : Nat → FieldType := fun k => match k with
  | 0 => .array (.object "LightHalves$Standing")
  | 1 => .array .int
  | 2 => .array .int
  | 3 => .int
  | 4 => .int
  | 5 => .int
  | 6 => .int
  | 7 => .int
  | _ => .int
abbrev wsX10 : List Cond := u_ws RX1 TX1 9
theorem nmX1 : ∀ a, a < 9 → ∀ b, b < 9 → a ≠ b → (TX1 a).2.1 ≠ (TX1 b).2.1 := by decide +kernel
theorem tyX1_ok : ∀ k, k < 9 → parseFieldDescriptor (TX1 k).2.2.1 = some (tyX1 k) := by decide +kernel
abbrev cX1_init : ByteArray := prog_3_method_1_code
def yX1_init : MethodName := ⟨RX1, "<init>", "()V"⟩
abbrev cX1_begin : ByteArray := prog_3_method_2_code
def yX1_begin : MethodName := ⟨RX1, "begin", "(LLightHalves$Rock;I)V"⟩
abbrev cX1_study : ByteArray := prog_3_method_3_code
def yX1_study : MethodName := ⟨RX1, "study", "(LLightHalves$Rock;II)V"⟩
abbrev cX1_explore : ByteArray := prog_3_method_4_code
def yX1_explore : MethodName := ⟨RX1, "explore", "(LLightHalves$Rock;III)V"⟩
abbrev cX1_weigh : ByteArray := prog_3_method_5_code
def yX1_weigh : MethodName := ⟨RX1, "weigh", "(IIII)V"⟩
abbrev cX1_duelOf : ByteArray := prog_3_method_6_code
def yX1_duelOf : MethodName := ⟨RX1, "duelOf", "(LLightHalves$Rock;I)I"⟩
abbrev cX1_duel : ByteArray := prog_3_method_7_code
def yX1_duel : MethodName := ⟨RX1, "duel", "(LLightHalves$Rock;I)I"⟩
def RX2 : String := "LightHalves$Reports"
def TX2 : u_T := fun k => match k with
  | 0 => ("LightHalves$Reports", "behinds", "[I", true)
  | 1 => ("LightHalves$Reports", "askeds", "[I", true)
  | 2 => ("LightHalves$Reports", "leasts", "[I", true)
  | 3 => ("LightHalves$Reports", "mosts", "[I", true)
  | _ => ("LightHalves$Reports", "count", "I", false)
def tyX2 : Nat → FieldType := fun k => match k with
  | 0 => .array .int
  | 1 => .array .int
  | 2 => .array .int
  | 3 => .array .int
  | _ => .int
abbrev wsX20 : List Cond := u_ws RX2 TX2 5
theorem nmX2 : ∀ a, a < 5 → ∀ b, b < 5 → a ≠ b → (TX2 a).2.1 ≠ (TX2 b).2.1 := by decide +kernel
theorem tyX2_ok : ∀ k, k < 5 → parseFieldDescriptor (TX2 k).2.2.1 = some (tyX2 k) := by decide +kernel
abbrev cX2_init : ByteArray := prog_4_method_1_code
def yX2_init : MethodName := ⟨RX2, "<init>", "()V"⟩
abbrev cX2_become : ByteArray := prog_4_method_2_code
def yX2_become : MethodName := ⟨RX2, "become", "(LLightHalves$Reports;)V"⟩
abbrev cX2_file : ByteArray := prog_4_method_3_code
def yX2_file : MethodName := ⟨RX2, "file", "(IIII)I"⟩
abbrev cX2_kindOf : ByteArray := prog_4_method_4_code
def yX2_kindOf : MethodName := ⟨RX2, "kindOf", "(I)I"⟩
abbrev cX2_trimOf : ByteArray := prog_4_method_5_code
def yX2_trimOf : MethodName := ⟨RX2, "trimOf", "(I)I"⟩
abbrev cX2_offOf : ByteArray := prog_4_method_6_code
def yX2_offOf : MethodName := ⟨RX2, "offOf", "(I)I"⟩
abbrev cX2_latest : ByteArray := prog_4_method_7_code
def yX2_latest : MethodName := ⟨RX2, "latest", "()I"⟩
abbrev cX2_wrongFor : ByteArray := prog_4_method_8_code
def yX2_wrongFor : MethodName := ⟨RX2, "wrongFor", "(I[I)I"⟩
abbrev cX2_wrongBehind : ByteArray := prog_4_method_9_code
def yX2_wrongBehind : MethodName := ⟨RX2, "wrongBehind", "(III)I"⟩
def RX3 : String := "LightHalves$Rock"
def TX3 : u_T := fun k => match k with
  | 0 => ("LightHalves$Rock", "kinds", "[I", true)
  | 1 => ("LightHalves$Rock", "trims", "[I", true)
  | 2 => ("LightHalves$Rock", "lanes", "[I", true)
  | 3 => ("LightHalves$Rock", "lights", "[I", true)
  | 4 => ("LightHalves$Rock", "currents", "[I", true)
  | 5 => ("LightHalves$Rock", "buoys", "[I", true)
  | 6 => ("LightHalves$Rock", "now", "LLightHalves$Standing;", true)
  | 7 => ("LightHalves$Rock", "rules", "LLightHalves$Rules;", true)
  | 8 => ("LightHalves$Rock", "reports", "LLightHalves$Reports;", true)
  | 9 => ("LightHalves$Rock", "count", "I", false)
  | 10 => ("LightHalves$Rock", "end", "I", false)
  | _ => ("LightHalves$Rock", "z", "I", false)
def tyX3 : Nat → FieldType := fun k => match k with
  | 0 => .array .int
  | 1 => .array .int
  | 2 => .array .int
  | 3 => .array .int
  | 4 => .array .int
  | 5 => .array .int
  | 6 => .object "LightHalves$Standing"
  | 7 => .object "LightHalves$Rules"
  | 8 => .object "LightHalves$Reports"
  | 9 => .int
  | 10 => .int
  | _ => .int
abbrev wsX30 : List Cond := u_ws RX3 TX3 12
theorem nmX3 : ∀ a, a < 12 → ∀ b, b < 12 → a ≠ b → (TX3 a).2.1 ≠ (TX3 b).2.1 := by decide +kernel
theorem tyX3_ok : ∀ k, k < 12 → parseFieldDescriptor (TX3 k).2.2.1 = some (tyX3 k) := by decide +kernel
abbrev cX3_init : ByteArray := prog_5_method_1_code
def yX3_init : MethodName := ⟨RX3, "<init>", "()V"⟩
abbrev cX3_become : ByteArray := prog_5_method_2_code
def yX3_become : MethodName := ⟨RX3, "become", "(LLightHalves$Rock;)V"⟩
abbrev cX3_has : ByteArray := prog_5_method_3_code
def yX3_has : MethodName := ⟨RX3, "has", "(I)Z"⟩
abbrev cX3_hasAll : ByteArray := prog_5_method_4_code
def yX3_hasAll : MethodName := ⟨RX3, "hasAll", "(I)Z"⟩
abbrev cX3_hasAct : ByteArray := prog_5_method_5_code
def yX3_hasAct : MethodName := ⟨RX3, "hasAct", "(I)Z"⟩
abbrev cX3_isOver : ByteArray := prog_5_method_6_code
def yX3_isOver : MethodName := ⟨RX3, "isOver", "(LLightHalves$Standing;)Z"⟩
abbrev cX3_lightAt : ByteArray := prog_5_method_7_code
def yX3_lightAt : MethodName := ⟨RX3, "lightAt", "(I)I"⟩
abbrev cX3_enlist : ByteArray := prog_5_method_8_code
def yX3_enlist : MethodName := ⟨RX3, "enlist", "(IIII)I"⟩
abbrev cX3_stranded : ByteArray := prog_5_method_9_code
def yX3_stranded : MethodName := ⟨RX3, "stranded", "(LLightHalves$Standing;)I"⟩
abbrev cX3_nears : ByteArray := prog_5_method_10_code
def yX3_nears : MethodName := ⟨RX3, "nears", "(LLightHalves$Standing;I)I"⟩
abbrev cX3_reaches : ByteArray := prog_5_method_11_code
def yX3_reaches : MethodName := ⟨RX3, "reaches", "(LLightHalves$Standing;II)I"⟩
abbrev cX3_inReach : ByteArray := prog_5_method_12_code
def yX3_inReach : MethodName := ⟨RX3, "inReach", "(LLightHalves$Standing;II)Z"⟩
abbrev cX3_pays : ByteArray := prog_5_method_13_code
def yX3_pays : MethodName := ⟨RX3, "pays", "(LLightHalves$Standing;I)I"⟩
abbrev cX3_will : ByteArray := prog_5_method_14_code
def yX3_will : MethodName := ⟨RX3, "will", "(LLightHalves$Standing;I)I"⟩
abbrev cX3_mayEnter : ByteArray := prog_5_method_15_code
def yX3_mayEnter : MethodName := ⟨RX3, "mayEnter", "(LLightHalves$Standing;I)Z"⟩
abbrev cX3_leastThatMayEnter : ByteArray := prog_5_method_16_code
def yX3_leastThatMayEnter : MethodName := ⟨RX3, "leastThatMayEnter", "(LLightHalves$Standing;)I"⟩
abbrev cX3_stirring : ByteArray := prog_5_method_17_code
def yX3_stirring : MethodName := ⟨RX3, "stirring", "(LLightHalves$Standing;)I"⟩
abbrev cX3_pass : ByteArray := prog_5_method_18_code
def yX3_pass : MethodName := ⟨RX3, "pass", "(LLightHalves$Standing;I)I"⟩
abbrev cX3_obey : ByteArray := prog_5_method_19_code
def yX3_obey : MethodName := ⟨RX3, "obey", "(LLightHalves$Standing;I)I"⟩
abbrev cX3_passRest : ByteArray := prog_5_method_20_code
def yX3_passRest : MethodName := ⟨RX3, "passRest", "(LLightHalves$Standing;)I"⟩
abbrev cX3_passByLot : ByteArray := prog_5_method_21_code
def yX3_passByLot : MethodName := ⟨RX3, "passByLot", "(LLightHalves$Standing;)I"⟩
abbrev cX3_areClose : ByteArray := prog_5_method_22_code
def yX3_areClose : MethodName := ⟨RX3, "areClose", "(II)Z"⟩
abbrev cX3_convoyOf : ByteArray := prog_5_method_23_code
def yX3_convoyOf : MethodName := ⟨RX3, "convoyOf", "(I)I"⟩
def RX4 : String := "LightHalves$RuleReader"
def TX4 : u_T := fun k => match k with
  | 0 => ("LightHalves$RuleReader", "waiting", "[I", true)
  | 1 => ("LightHalves$RuleReader", "waitingCount", "I", false)
  | 2 => ("LightHalves$RuleReader", "open", "I", false)
  | 3 => ("LightHalves$RuleReader", "expected", "I", false)
  | 4 => ("LightHalves$RuleReader", "kind", "I", false)
  | 5 => ("LightHalves$RuleReader", "left", "I", false)
  | 6 => ("LightHalves$RuleReader", "sign", "I", false)
  | 7 => ("LightHalves$RuleReader", "token", "I", false)
  | 8 => ("LightHalves$RuleReader", "tokenAt", "I", false)
  | 9 => ("LightHalves$RuleReader", "numeral", "I", false)
  | _ => ("LightHalves$RuleReader", "place", "I", false)
def tyX4 : Nat → FieldType := fun k => match k with
  | 0 => .array .int
  | 1 => .int
  | 2 => .int
  | 3 => .int
  | 4 => .int
  | 5 => .int
  | 6 => .int
  | 7 => .int
  | 8 => .int
  | 9 => .int
  | _ => .int
abbrev wsX40 : List Cond := u_ws RX4 TX4 11
theorem nmX4 : ∀ a, a < 11 → ∀ b, b < 11 → a ≠ b → (TX4 a).2.1 ≠ (TX4 b).2.1 := by decide +kernel
theorem tyX4_ok : ∀ k, k < 11 → parseFieldDescriptor (TX4 k).2.2.1 = some (tyX4 k) := by decide +kernel
abbrev cX4_init : ByteArray := prog_6_method_1_code
def yX4_init : MethodName := ⟨RX4, "<init>", "()V"⟩
abbrev cX4_read : ByteArray := prog_6_method_2_code
def yX4_read : MethodName := ⟨RX4, "read", "([IILLightHalves$Rules;)I"⟩
abbrev cX4_advance : ByteArray := prog_6_method_3_code
def yX4_advance : MethodName := ⟨RX4, "advance", "([II)V"⟩
abbrev cX4_advanceDigits : ByteArray := prog_6_method_4_code
def yX4_advanceDigits : MethodName := ⟨RX4, "advanceDigits", "([II)V"⟩
abbrev cX4_isLetter : ByteArray := prog_6_method_5_code
def yX4_isLetter : MethodName := ⟨RX4, "isLetter", "(I)Z"⟩
abbrev cX4_isDigit : ByteArray := prog_6_method_6_code
def yX4_isDigit : MethodName := ⟨RX4, "isDigit", "(I)Z"⟩
abbrev cX4_wordOf : ByteArray := prog_6_method_7_code
def yX4_wordOf : MethodName := ⟨RX4, "wordOf", "([III)I"⟩
abbrev cX4_accepts : ByteArray := prog_6_method_8_code
def yX4_accepts : MethodName := ⟨RX4, "accepts", "(LLightHalves$Rules;)Z"⟩
abbrev cX4_expect : ByteArray := prog_6_method_9_code
def yX4_expect : MethodName := ⟨RX4, "expect", "(I)Z"⟩
abbrev cX4_acceptsKind : ByteArray := prog_6_method_10_code
def yX4_acceptsKind : MethodName := ⟨RX4, "acceptsKind", "(LLightHalves$Rules;)Z"⟩
abbrev cX4_acceptsDo : ByteArray := prog_6_method_11_code
def yX4_acceptsDo : MethodName := ⟨RX4, "acceptsDo", "(LLightHalves$Rules;)Z"⟩
abbrev cX4_acceptsOne : ByteArray := prog_6_method_12_code
def yX4_acceptsOne : MethodName := ⟨RX4, "acceptsOne", "()Z"⟩
abbrev cX4_acceptsSign : ByteArray := prog_6_method_13_code
def yX4_acceptsSign : MethodName := ⟨RX4, "acceptsSign", "()Z"⟩
abbrev cX4_acceptsRight : ByteArray := prog_6_method_14_code
def yX4_acceptsRight : MethodName := ⟨RX4, "acceptsRight", "(LLightHalves$Rules;)Z"⟩
abbrev cX4_acceptsBehindOne : ByteArray := prog_6_method_15_code
def yX4_acceptsBehindOne : MethodName := ⟨RX4, "acceptsBehindOne", "(LLightHalves$Rules;)Z"⟩
abbrev cX4_closes : ByteArray := prog_6_method_16_code
def yX4_closes : MethodName := ⟨RX4, "closes", "(LLightHalves$Rules;)Z"⟩
abbrev cX4_await : ByteArray := prog_6_method_17_code
def yX4_await : MethodName := ⟨RX4, "await", "(I)V"⟩
abbrev cX4_join : ByteArray := prog_6_method_18_code
def yX4_join : MethodName := ⟨RX4, "join", "(LLightHalves$Rules;I)V"⟩
abbrev cX4_valueOfToken : ByteArray := prog_6_method_19_code
def yX4_valueOfToken : MethodName := ⟨RX4, "valueOfToken", "()I"⟩
def RX5 : String := "LightHalves$Rules"
def TX5 : u_T := fun k => match k with
  | 0 => ("LightHalves$Rules", "kinds", "[I", true)
  | 1 => ("LightHalves$Rules", "deeds", "[I", true)
  | 2 => ("LightHalves$Rules", "begins", "[I", true)
  | 3 => ("LightHalves$Rules", "steps", "[I", true)
  | 4 => ("LightHalves$Rules", "lefts", "[I", true)
  | 5 => ("LightHalves$Rules", "rights", "[I", true)
  | 6 => ("LightHalves$Rules", "facts", "[I", true)
  | 7 => ("LightHalves$Rules", "count", "I", false)
  | _ => ("LightHalves$Rules", "size", "I", false)
def tyX5 : Nat → FieldType := fun k => match k with
  | 0 => .array .int
  | 1 => .array .int
  | 2 => .array .int
  | 3 => .array .int
  | 4 => .array .int
  | 5 => .array .int
  | 6 => .array .int
  | 7 => .int
  | _ => .int
abbrev wsX50 : List Cond := u_ws RX5 TX5 9
theorem nmX5 : ∀ a, a < 9 → ∀ b, b < 9 → a ≠ b → (TX5 a).2.1 ≠ (TX5 b).2.1 := by decide +kernel
theorem tyX5_ok : ∀ k, k < 9 → parseFieldDescriptor (TX5 k).2.2.1 = some (tyX5 k) := by decide +kernel
abbrev cX5_init : ByteArray := prog_7_method_1_code
def yX5_init : MethodName := ⟨RX5, "<init>", "()V"⟩
abbrev cX5_become : ByteArray := prog_7_method_2_code
def yX5_become : MethodName := ⟨RX5, "become", "(LLightHalves$Rules;)V"⟩
abbrev cX5_clear : ByteArray := prog_7_method_3_code
def yX5_clear : MethodName := ⟨RX5, "clear", "()V"⟩
abbrev cX5_addStep : ByteArray := prog_7_method_4_code
def yX5_addStep : MethodName := ⟨RX5, "addStep", "(III)V"⟩
abbrev cX5_addRule : ByteArray := prog_7_method_5_code
def yX5_addRule : MethodName := ⟨RX5, "addRule", "(II)V"⟩
abbrev cX5_learn : ByteArray := prog_7_method_6_code
def yX5_learn : MethodName := ⟨RX5, "learn", "(IIIII)V"⟩
abbrev cX5_holds : ByteArray := prog_7_method_7_code
def yX5_holds : MethodName := ⟨RX5, "holds", "(I)Z"⟩
def RX6 : String := "LightHalves$Standing"
def TX6 : u_T := fun k => match k with
  | 0 => ("LightHalves$Standing", "off", "[I", true)
  | 1 => ("LightHalves$Standing", "watch", "I", false)
  | 2 => ("LightHalves$Standing", "score", "I", false)
  | _ => ("LightHalves$Standing", "home", "I", false)
def tyX6 : Nat → FieldType := fun k => match k with
  | 0 => .array .int
  | 1 => .int
  | 2 => .int
  | _ => .int
abbrev wsX60 : List Cond := u_ws RX6 TX6 4
theorem nmX6 : ∀ a, a < 4 → ∀ b, b < 4 → a ≠ b → (TX6 a).2.1 ≠ (TX6 b).2.1 := by decide +kernel
theorem tyX6_ok : ∀ k, k < 4 → parseFieldDescriptor (TX6 k).2.2.1 = some (tyX6 k) := by decide +kernel
abbrev cX6_init : ByteArray := prog_8_method_1_code
def yX6_init : MethodName := ⟨RX6, "<init>", "()V"⟩
abbrev cX6_become : ByteArray := prog_8_method_2_code
def yX6_become : MethodName := ⟨RX6, "become", "(LLightHalves$Standing;)V"⟩
abbrev cX6_isHome : ByteArray := prog_8_method_3_code
def yX6_isHome : MethodName := ⟨RX6, "isHome", "(I)Z"⟩
abbrev cX6_isOnRock : ByteArray := prog_8_method_4_code
def yX6_isOnRock : MethodName := ⟨RX6, "isOnRock", "(I)Z"⟩
abbrev cX6_bring : ByteArray := prog_8_method_5_code
def yX6_bring : MethodName := ⟨RX6, "bring", "(II)I"⟩
def RX7 : String := "LightHalves$Thing"
def TX7 : u_T := fun k => match k with
  | 0 => ("LightHalves$Thing", "bodies", "[I", true)
  | 1 => ("LightHalves$Thing", "traceCount", "I", false)
  | 2 => ("LightHalves$Thing", "parted", "Z", false)
  | 3 => ("LightHalves$Thing", "kind", "I", false)
  | 4 => ("LightHalves$Thing", "n", "I", false)
  | _ => ("LightHalves$Thing", "a", "I", false)
def tyX7 : Nat → FieldType := fun k => match k with
  | 0 => .array .int
  | 1 => .int
  | 2 => .boolean
  | 3 => .int
  | 4 => .int
  | _ => .int
abbrev wsX70 : List Cond := u_ws RX7 TX7 6
theorem nmX7 : ∀ a, a < 6 → ∀ b, b < 6 → a ≠ b → (TX7 a).2.1 ≠ (TX7 b).2.1 := by decide +kernel
theorem tyX7_ok : ∀ k, k < 6 → parseFieldDescriptor (TX7 k).2.2.1 = some (tyX7 k) := by decide +kernel
abbrev cX7_init : ByteArray := prog_9_method_1_code
def yX7_init : MethodName := ⟨RX7, "<init>", "()V"⟩
abbrev cX7_stand : ByteArray := prog_9_method_2_code
def yX7_stand : MethodName := ⟨RX7, "stand", "(III)V"⟩
abbrev cX7_forgetTrace : ByteArray := prog_9_method_3_code
def yX7_forgetTrace : MethodName := ⟨RX7, "forgetTrace", "()V"⟩
abbrev cX7_begin : ByteArray := prog_9_method_4_code
def yX7_begin : MethodName := ⟨RX7, "begin", "(I)V"⟩
abbrev cX7_sights : ByteArray := prog_9_method_5_code
def yX7_sights : MethodName := ⟨RX7, "sights", "(I)I"⟩
abbrev cX7_shipSights : ByteArray := prog_9_method_6_code
def yX7_shipSights : MethodName := ⟨RX7, "shipSights", "(I)I"⟩
abbrev cX7_tacks : ByteArray := prog_9_method_7_code
def yX7_tacks : MethodName := ⟨RX7, "tacks", "(I)I"⟩
abbrev cX7_shipTacks : ByteArray := prog_9_method_8_code
def yX7_shipTacks : MethodName := ⟨RX7, "shipTacks", "(I)I"⟩
abbrev cX7_sounds : ByteArray := prog_9_method_9_code
def yX7_sounds : MethodName := ⟨RX7, "sounds", "(I)I"⟩
abbrev cX7_brigSounds : ByteArray := prog_9_method_10_code
def yX7_brigSounds : MethodName := ⟨RX7, "brigSounds", "(I)I"⟩
abbrev cX7_shipSounds : ByteArray := prog_9_method_11_code
def yX7_shipSounds : MethodName := ⟨RX7, "shipSounds", "(I)I"⟩
abbrev cX7_lands : ByteArray := prog_9_method_12_code
def yX7_lands : MethodName := ⟨RX7, "lands", "(I)I"⟩
abbrev cX7_shipLands : ByteArray := prog_9_method_13_code
def yX7_shipLands : MethodName := ⟨RX7, "shipLands", "(I)I"⟩
def RX8 : String := "LightHalves"
def TX8 : u_T := fun k => match k with
  | 0 => ("LightHalves", "rock", "LLightHalves$Rock;", true)
  | 1 => ("LightHalves", "kept", "LLightHalves$Rock;", true)
  | 2 => ("LightHalves", "trial", "LLightHalves$Standing;", true)
  | 3 => ("LightHalves", "planner", "LLightHalves$Planner;", true)
  | 4 => ("LightHalves", "reader", "LLightHalves$RuleReader;", true)
  | 5 => ("LightHalves", "draft", "LLightHalves$Rules;", true)
  | 6 => ("LightHalves", "host", "LLightHalves$Host;", true)
  | 7 => ("LightHalves", "thing", "LLightHalves$Thing;", true)
  | 8 => ("LightHalves", "tape", "[I", true)
  | 9 => ("LightHalves", "rows", "[I", true)
  | 10 => ("LightHalves", "tapeCount", "I", false)
  | 11 => ("LightHalves", "rowCount", "I", false)
  | _ => ("LightHalves", "isKept", "Z", false)
def tyX8 : Nat → FieldType := fun k => match k with
  | 0 => .object "LightHalves$Rock"
  | 1 => .object "LightHalves$Rock"
  | 2 => .object "LightHalves$Standing"
  | 3 => .object "LightHalves$Planner"
  | 4 => .object "LightHalves$RuleReader"
  | 5 => .object "LightHalves$Rules"
  | 6 => .object "LightHalves$Host"
  | 7 => .object "LightHalves$Thing"
  | 8 => .array .int
  | 9 => .array .int
  | 10 => .int
  | 11 => .int
  | _ => .boolean
abbrev wsX80 : List Cond := u_ws RX8 TX8 13
theorem nmX8 : ∀ a, a < 13 → ∀ b, b < 13 → a ≠ b → (TX8 a).2.1 ≠ (TX8 b).2.1 := by decide +kernel
theorem tyX8_ok : ∀ k, k < 13 → parseFieldDescriptor (TX8 k).2.2.1 = some (tyX8 k) := by decide +kernel
abbrev cX8_init : ByteArray := prog_1_method_1_code
def yX8_init : MethodName := ⟨RX8, "<init>", "()V"⟩
abbrev cX8_ship : ByteArray := prog_1_method_2_code
def yX8_ship : MethodName := ⟨RX8, "ship", "(IIII)I"⟩
abbrev cX8_shipOf : ByteArray := prog_1_method_3_code
def yX8_shipOf : MethodName := ⟨RX8, "shipOf", "(II)I"⟩
abbrev cX8_change : ByteArray := prog_1_method_4_code
def yX8_change : MethodName := ⟨RX8, "change", "(III)I"⟩
abbrev cX8_remake : ByteArray := prog_1_method_5_code
def yX8_remake : MethodName := ⟨RX8, "remake", "(II)I"⟩
abbrev cX8_light : ByteArray := prog_1_method_6_code
def yX8_light : MethodName := ⟨RX8, "light", "(II)I"⟩
abbrev cX8_lane : ByteArray := prog_1_method_7_code
def yX8_lane : MethodName := ⟨RX8, "lane", "(III)I"⟩
abbrev cX8_laneOf : ByteArray := prog_1_method_8_code
def yX8_laneOf : MethodName := ⟨RX8, "laneOf", "(II)I"⟩
abbrev cX8_ends : ByteArray := prog_1_method_9_code
def yX8_ends : MethodName := ⟨RX8, "ends", "(I)I"⟩
abbrev cX8_anew : ByteArray := prog_1_method_10_code
def yX8_anew : MethodName := ⟨RX8, "anew", "()I"⟩
abbrev cX8_state : ByteArray := prog_1_method_11_code
def yX8_state : MethodName := ⟨RX8, "state", "(I)I"⟩
abbrev cX8_feed : ByteArray := prog_1_method_12_code
def yX8_feed : MethodName := ⟨RX8, "feed", "(JI)I"⟩
abbrev cX8_rules : ByteArray := prog_1_method_13_code
def yX8_rules : MethodName := ⟨RX8, "rules", "()I"⟩
abbrev cX8_watch : ByteArray := prog_1_method_14_code
def yX8_watch : MethodName := ⟨RX8, "watch", "()I"⟩
abbrev cX8_on : ByteArray := prog_1_method_15_code
def yX8_on : MethodName := ⟨RX8, "on", "(I)I"⟩
abbrev cX8_when : ByteArray := prog_1_method_16_code
def yX8_when : MethodName := ⟨RX8, "when", "(I)I"⟩
abbrev cX8_trimFor : ByteArray := prog_1_method_17_code
def yX8_trimFor : MethodName := ⟨RX8, "trimFor", "(I)I"⟩
abbrev cX8_laneFor : ByteArray := prog_1_method_18_code
def yX8_laneFor : MethodName := ⟨RX8, "laneFor", "(I)I"⟩
abbrev cX8_rock : ByteArray := prog_1_method_19_code
def yX8_rock : MethodName := ⟨RX8, "rock", "(I)I"⟩
abbrev cX8_least : ByteArray := prog_1_method_20_code
def yX8_least : MethodName := ⟨RX8, "least", "(I)I"⟩
abbrev cX8_safe : ByteArray := prog_1_method_21_code
def yX8_safe : MethodName := ⟨RX8, "safe", "(I)I"⟩
abbrev cX8_convoys : ByteArray := prog_1_method_22_code
def yX8_convoys : MethodName := ⟨RX8, "convoys", "(I)I"⟩
abbrev cX8_best : ByteArray := prog_1_method_23_code
def yX8_best : MethodName := ⟨RX8, "best", "(I)I"⟩
abbrev cX8_ith : ByteArray := prog_1_method_24_code
def yX8_ith : MethodName := ⟨RX8, "ith", "(II)I"⟩
abbrev cX8_ways : ByteArray := prog_1_method_25_code
def yX8_ways : MethodName := ⟨RX8, "ways", "(I)I"⟩
abbrev cX8_log : ByteArray := prog_1_method_26_code
def yX8_log : MethodName := ⟨RX8, "log", "(II)I"⟩
abbrev cX8_bars : ByteArray := prog_1_method_27_code
def yX8_bars : MethodName := ⟨RX8, "bars", "(II)I"⟩
abbrev cX8_game : ByteArray := prog_1_method_28_code
def yX8_game : MethodName := ⟨RX8, "game", "(I)I"⟩
abbrev cX8_play : ByteArray := prog_1_method_29_code
def yX8_play : MethodName := ⟨RX8, "play", "(I)I"⟩
abbrev cX8_report : ByteArray := prog_1_method_30_code
def yX8_report : MethodName := ⟨RX8, "report", "(IIII)I"⟩
abbrev cX8_forget : ByteArray := prog_1_method_31_code
def yX8_forget : MethodName := ⟨RX8, "forget", "()I"⟩
abbrev cX8_lone : ByteArray := prog_1_method_32_code
def yX8_lone : MethodName := ⟨RX8, "lone", "(I)I"⟩
abbrev cX8_liar : ByteArray := prog_1_method_33_code
def yX8_liar : MethodName := ⟨RX8, "liar", "()I"⟩
abbrev cX8_seed : ByteArray := prog_1_method_34_code
def yX8_seed : MethodName := ⟨RX8, "seed", "(I)I"⟩
abbrev cX8_lot : ByteArray := prog_1_method_35_code
def yX8_lot : MethodName := ⟨RX8, "lot", "()I"⟩
abbrev cX8_times : ByteArray := prog_1_method_36_code
def yX8_times : MethodName := ⟨RX8, "times", "(II)I"⟩
abbrev cX8_prove : ByteArray := prog_1_method_37_code
def yX8_prove : MethodName := ⟨RX8, "prove", "(I)I"⟩
abbrev cX8_row : ByteArray := prog_1_method_38_code
def yX8_row : MethodName := ⟨RX8, "row", "(II)I"⟩
abbrev cX8_alterRow : ByteArray := prog_1_method_39_code
def yX8_alterRow : MethodName := ⟨RX8, "alterRow", "(III)I"⟩
abbrev cX8_judge : ByteArray := prog_1_method_40_code
def yX8_judge : MethodName := ⟨RX8, "judge", "()I"⟩
abbrev cX8_sheet : ByteArray := prog_1_method_41_code
def yX8_sheet : MethodName := ⟨RX8, "sheet", "(III)I"⟩
abbrev cX8_write : ByteArray := prog_1_method_42_code
def yX8_write : MethodName := ⟨RX8, "write", "(III)I"⟩
abbrev cX8_item : ByteArray := prog_1_method_43_code
def yX8_item : MethodName := ⟨RX8, "item", "(III)I"⟩
abbrev cX8_goAll : ByteArray := prog_1_method_44_code
def yX8_goAll : MethodName := ⟨RX8, "goAll", "(III)I"⟩
abbrev cX8_wouldBe : ByteArray := prog_1_method_45_code
def yX8_wouldBe : MethodName := ⟨RX8, "wouldBe", "(III)I"⟩
abbrev cX8_shelf : ByteArray := prog_1_method_46_code
def yX8_shelf : MethodName := ⟨RX8, "shelf", "(III)I"⟩
abbrev cX8_taken : ByteArray := prog_1_method_47_code
def yX8_taken : MethodName := ⟨RX8, "taken", "(II)I"⟩
abbrev cX8_act : ByteArray := prog_1_method_48_code
def yX8_act : MethodName := ⟨RX8, "act", "(III)I"⟩
abbrev cX8_trace : ByteArray := prog_1_method_49_code
def yX8_trace : MethodName := ⟨RX8, "trace", "(I)I"⟩
abbrev cX8_many : ByteArray := prog_1_method_50_code
def yX8_many : MethodName := ⟨RX8, "many", "(I)I"⟩
abbrev cX8_keep : ByteArray := prog_1_method_51_code
def yX8_keep : MethodName := ⟨RX8, "keep", "()I"⟩
abbrev cX8_again : ByteArray := prog_1_method_52_code
def yX8_again : MethodName := ⟨RX8, "again", "()I"⟩
abbrev cX8_within : ByteArray := prog_1_method_53_code
def yX8_within : MethodName := ⟨RX8, "within", "(III)Z"⟩
abbrev cX8_isOrUnder : ByteArray := prog_1_method_54_code
def yX8_isOrUnder : MethodName := ⟨RX8, "isOrUnder", "(II)Z"⟩
abbrev cX8_put : ByteArray := prog_1_method_55_code
def yX8_put : MethodName := ⟨RX8, "put", "([III)I"⟩
abbrev cX8_leastOfSet : ByteArray := prog_1_method_56_code
def yX8_leastOfSet : MethodName := ⟨RX8, "leastOfSet", "(I)I"⟩
abbrev cX8_hasCell : ByteArray := prog_1_method_57_code
def yX8_hasCell : MethodName := ⟨RX8, "hasCell", "(II)Z"⟩
abbrev cX8_worthOfRest : ByteArray := prog_1_method_58_code
def yX8_worthOfRest : MethodName := ⟨RX8, "worthOfRest", "(I)I"⟩
abbrev cX8_worthByLot : ByteArray := prog_1_method_59_code
def yX8_worthByLot : MethodName := ⟨RX8, "worthByLot", "()I"⟩
abbrev cX8_leastOfBest : ByteArray := prog_1_method_60_code
def yX8_leastOfBest : MethodName := ⟨RX8, "leastOfBest", "([III)I"⟩
abbrev cX8_countConvoys : ByteArray := prog_1_method_61_code
def yX8_countConvoys : MethodName := ⟨RX8, "countConvoys", "()I"⟩
abbrev cX8_countLone : ByteArray := prog_1_method_62_code
def yX8_countLone : MethodName := ⟨RX8, "countLone", "()I"⟩
abbrev cX8_firstLone : ByteArray := prog_1_method_63_code
def yX8_firstLone : MethodName := ⟨RX8, "firstLone", "()I"⟩
abbrev cX8_nearsAlone : ByteArray := prog_1_method_64_code
def yX8_nearsAlone : MethodName := ⟨RX8, "nearsAlone", "(III)I"⟩
abbrev cX8_reachesAlone : ByteArray := prog_1_method_65_code
def yX8_reachesAlone : MethodName := ⟨RX8, "reachesAlone", "(III)I"⟩
def RX9 : String := "LightHalvesModel"
def TX9 : u_T := fun k => match k with
  | 0 => ("LightHalvesModel", "s", "[I", true)
  | 1 => ("LightHalvesModel", "kept", "[I", true)
  | 2 => ("LightHalvesModel", "laid", "[I", true)
  | 3 => ("LightHalvesModel", "isKept", "Z", false)
  | 4 => ("LightHalvesModel", "pile", "[I", true)
  | 5 => ("LightHalvesModel", "tape", "[I", true)
  | 6 => ("LightHalvesModel", "taped", "I", false)
  | 7 => ("LightHalvesModel", "letters", "[C", true)
  | 8 => ("LightHalvesModel", "at", "I", false)
  | 9 => ("LightHalvesModel", "begun", "I", false)
  | 10 => ("LightHalvesModel", "token", "I", false)
  | 11 => ("LightHalvesModel", "value", "I", false)
  | 12 => ("LightHalvesModel", "opened", "I", false)
  | 13 => ("LightHalvesModel", "steps", "I", false)
  | 14 => ("LightHalvesModel", "code0", "[I", true)
  | 15 => ("LightHalvesModel", "read", "[I", true)
  | 16 => ("LightHalvesModel", "saved", "[I", true)
  | 17 => ("LightHalvesModel", "plan", "[I", true)
  | 18 => ("LightHalvesModel", "bestPlan", "[I", true)
  | 19 => ("LightHalvesModel", "most", "I", false)
  | 20 => ("LightHalvesModel", "many", "I", false)
  | 21 => ("LightHalvesModel", "few", "I", false)
  | 22 => ("LightHalvesModel", "everHome", "I", false)
  | 23 => ("LightHalvesModel", "offThen", "[I", true)
  | 24 => ("LightHalvesModel", "paidThen", "[I", true)
  | 25 => ("LightHalvesModel", "firstFit", "I", false)
  | 26 => ("LightHalvesModel", "rows", "[I", true)
  | 27 => ("LightHalvesModel", "rowMany", "I", false)
  | 28 => ("LightHalvesModel", "sorts", "[I", true)
  | 29 => ("LightHalvesModel", "sizes", "[I", true)
  | 30 => ("LightHalvesModel", "number", "[I", true)
  | 31 => ("LightHalvesModel", "holds", "[I", true)
  | 32 => ("LightHalvesModel", "heldOne", "[I", true)
  | 33 => ("LightHalvesModel", "trace", "[I", true)
  | 34 => ("LightHalvesModel", "traced", "I", false)
  | 35 => ("LightHalvesModel", "own", "I", false)
  | _ => ("LightHalvesModel", "isParted", "Z", false)
def tyX9 : Nat → FieldType := fun k => match k with
  | 0 => .array .int
  | 1 => .array .int
  | 2 => .array .int
  | 3 => .boolean
  | 4 => .array .int
  | 5 => .array .int
  | 6 => .int
  | 7 => .array .char
  | 8 => .int
  | 9 => .int
  | 10 => .int
  | 11 => .int
  | 12 => .int
  | 13 => .int
  | 14 => .array .int
  | 15 => .array .int
  | 16 => .array .int
  | 17 => .array .int
  | 18 => .array .int
  | 19 => .int
  | 20 => .int
  | 21 => .int
  | 22 => .int
  | 23 => .array .int
  | 24 => .array .int
  | 25 => .int
  | 26 => .array .int
  | 27 => .int
  | 28 => .array .int
  | 29 => .array .int
  | 30 => .array .int
  | 31 => .array .int
  | 32 => .array .int
  | 33 => .array .int
  | 34 => .int
  | 35 => .int
  | _ => .boolean
abbrev wsX90 : List Cond := u_ws RX9 TX9 37
theorem nmX9 : ∀ a, a < 37 → ∀ b, b < 37 → a ≠ b → (TX9 a).2.1 ≠ (TX9 b).2.1 := by decide +kernel
theorem tyX9_ok : ∀ k, k < 37 → parseFieldDescriptor (TX9 k).2.2.1 = some (tyX9 k) := by decide +kernel
abbrev cX9_init : ByteArray := prog_11_method_1_code
def yX9_init : MethodName := ⟨RX9, "<init>", "()V"⟩
abbrev cX9_in1 : ByteArray := prog_11_method_2_code
def yX9_in1 : MethodName := ⟨RX9, "in1", "(III)Z"⟩
abbrev cX9_held : ByteArray := prog_11_method_3_code
def yX9_held : MethodName := ⟨RX9, "held", "(II)I"⟩
abbrev cX9_layDown : ByteArray := prog_11_method_4_code
def yX9_layDown : MethodName := ⟨RX9, "layDown", "()V"⟩
abbrev cX9_layBack : ByteArray := prog_11_method_5_code
def yX9_layBack : MethodName := ⟨RX9, "layBack", "()V"⟩
abbrev cX9_get : ByteArray := prog_11_method_6_code
def yX9_get : MethodName := ⟨RX9, "get", "(II)I"⟩
abbrev cX9_puts : ByteArray := prog_11_method_7_code
def yX9_puts : MethodName := ⟨RX9, "puts", "(III)V"⟩
abbrev cX9_isShip : ByteArray := prog_11_method_8_code
def yX9_isShip : MethodName := ⟨RX9, "isShip", "(I)Z"⟩
abbrev cX9_isAct : ByteArray := prog_11_method_9_code
def yX9_isAct : MethodName := ⟨RX9, "isAct", "(I)Z"⟩
abbrev cX9_isOver : ByteArray := prog_11_method_10_code
def yX9_isOver : MethodName := ⟨RX9, "isOver", "()Z"⟩
abbrev cX9_becomes : ByteArray := prog_11_method_11_code
def yX9_becomes : MethodName := ⟨RX9, "becomes", "(II)I"⟩
abbrev cX9_above : ByteArray := prog_11_method_12_code
def yX9_above : MethodName := ⟨RX9, "above", "(I)I"⟩
abbrev cX9_isUnder : ByteArray := prog_11_method_13_code
def yX9_isUnder : MethodName := ⟨RX9, "isUnder", "(II)Z"⟩
abbrev cX9_nearsBy : ByteArray := prog_11_method_14_code
def yX9_nearsBy : MethodName := ⟨RX9, "nearsBy", "(IIII)I"⟩
abbrev cX9_reachesBy : ByteArray := prog_11_method_15_code
def yX9_reachesBy : MethodName := ⟨RX9, "reachesBy", "(III)I"⟩
abbrev cX9_lightNow : ByteArray := prog_11_method_16_code
def yX9_lightNow : MethodName := ⟨RX9, "lightNow", "()I"⟩
abbrev cX9_nearsOf : ByteArray := prog_11_method_17_code
def yX9_nearsOf : MethodName := ⟨RX9, "nearsOf", "(I)I"⟩
abbrev cX9_reachesWith : ByteArray := prog_11_method_18_code
def yX9_reachesWith : MethodName := ⟨RX9, "reachesWith", "(II)I"⟩
abbrev cX9_isReachedWith : ByteArray := prog_11_method_19_code
def yX9_isReachedWith : MethodName := ⟨RX9, "isReachedWith", "(II)Z"⟩
abbrev cX9_paysOf : ByteArray := prog_11_method_20_code
def yX9_paysOf : MethodName := ⟨RX9, "paysOf", "(I)I"⟩
abbrev cX9_mayEnter : ByteArray := prog_11_method_21_code
def yX9_mayEnter : MethodName := ⟨RX9, "mayEnter", "(I)Z"⟩
abbrev cX9_apart : ByteArray := prog_11_method_22_code
def yX9_apart : MethodName := ⟨RX9, "apart", "(II)I"⟩
abbrev cX9_isOnRock : ByteArray := prog_11_method_23_code
def yX9_isOnRock : MethodName := ⟨RX9, "isOnRock", "(I)Z"⟩
abbrev cX9_onRock : ByteArray := prog_11_method_24_code
def yX9_onRock : MethodName := ⟨RX9, "onRock", "()I"⟩
abbrev cX9_knownOf : ByteArray := prog_11_method_25_code
def yX9_knownOf : MethodName := ⟨RX9, "knownOf", "(II)I"⟩
abbrev cX9_joined : ByteArray := prog_11_method_26_code
def yX9_joined : MethodName := ⟨RX9, "joined", "(III)I"⟩
abbrev cX9_ruleOf : ByteArray := prog_11_method_27_code
def yX9_ruleOf : MethodName := ⟨RX9, "ruleOf", "(II)I"⟩
abbrev cX9_holdsFor : ByteArray := prog_11_method_28_code
def yX9_holdsFor : MethodName := ⟨RX9, "holdsFor", "(II)Z"⟩
abbrev cX9_willOf : ByteArray := prog_11_method_29_code
def yX9_willOf : MethodName := ⟨RX9, "willOf", "(I)I"⟩
abbrev cX9_byteAt : ByteArray := prog_11_method_30_code
def yX9_byteAt : MethodName := ⟨RX9, "byteAt", "(I)I"⟩
abbrev cX9_isNameOf : ByteArray := prog_11_method_31_code
def yX9_isNameOf : MethodName := ⟨RX9, "isNameOf", "(I)Z"⟩
abbrev cX9_readsName : ByteArray := prog_11_method_32_code
def yX9_readsName : MethodName := ⟨RX9, "readsName", "()V"⟩
abbrev cX9_readsNumber : ByteArray := prog_11_method_33_code
def yX9_readsNumber : MethodName := ⟨RX9, "readsNumber", "()V"⟩
abbrev cX9_next : ByteArray := prog_11_method_34_code
def yX9_next : MethodName := ⟨RX9, "next", "()V"⟩
abbrev cX9_takes : ByteArray := prog_11_method_35_code
def yX9_takes : MethodName := ⟨RX9, "takes", "(I)Z"⟩
abbrev cX9_lays : ByteArray := prog_11_method_36_code
def yX9_lays : MethodName := ⟨RX9, "lays", "(I)V"⟩
abbrev cX9_readsValue : ByteArray := prog_11_method_37_code
def yX9_readsValue : MethodName := ⟨RX9, "readsValue", "()Z"⟩
abbrev cX9_readsLike : ByteArray := prog_11_method_38_code
def yX9_readsLike : MethodName := ⟨RX9, "readsLike", "()Z"⟩
abbrev cX9_readsWithin : ByteArray := prog_11_method_39_code
def yX9_readsWithin : MethodName := ⟨RX9, "readsWithin", "()Z"⟩
abbrev cX9_readsOne : ByteArray := prog_11_method_40_code
def yX9_readsOne : MethodName := ⟨RX9, "readsOne", "()Z"⟩
abbrev cX9_readsAll : ByteArray := prog_11_method_41_code
def yX9_readsAll : MethodName := ⟨RX9, "readsAll", "()Z"⟩
abbrev cX9_readsCondition : ByteArray := prog_11_method_42_code
def yX9_readsCondition : MethodName := ⟨RX9, "readsCondition", "()Z"⟩
abbrev cX9_readsRule : ByteArray := prog_11_method_43_code
def yX9_readsRule : MethodName := ⟨RX9, "readsRule", "(I)Z"⟩
abbrev cX9_feed : ByteArray := prog_11_method_44_code
def yX9_feed : MethodName := ⟨RX9, "feed", "(JI)I"⟩
abbrev cX9_rules : ByteArray := prog_11_method_45_code
def yX9_rules : MethodName := ⟨RX9, "rules", "()I"⟩
abbrev cX9_enters : ByteArray := prog_11_method_46_code
def yX9_enters : MethodName := ⟨RX9, "enters", "(I)I"⟩
abbrev cX9_meets : ByteArray := prog_11_method_47_code
def yX9_meets : MethodName := ⟨RX9, "meets", "(I)I"⟩
abbrev cX9_restOne : ByteArray := prog_11_method_48_code
def yX9_restOne : MethodName := ⟨RX9, "restOne", "()I"⟩
abbrev cX9_goesBy : ByteArray := prog_11_method_49_code
def yX9_goesBy : MethodName := ⟨RX9, "goesBy", "(I)I"⟩
abbrev cX9_isDigit : ByteArray := prog_11_method_50_code
def yX9_isDigit : MethodName := ⟨RX9, "isDigit", "(I)Z"⟩
abbrev cX9_isLane : ByteArray := prog_11_method_51_code
def yX9_isLane : MethodName := ⟨RX9, "isLane", "(I)Z"⟩
abbrev cX9_ship : ByteArray := prog_11_method_52_code
def yX9_ship : MethodName := ⟨RX9, "ship", "(IIII)I"⟩
abbrev cX9_shipOf : ByteArray := prog_11_method_53_code
def yX9_shipOf : MethodName := ⟨RX9, "shipOf", "(II)I"⟩
abbrev cX9_change : ByteArray := prog_11_method_54_code
def yX9_change : MethodName := ⟨RX9, "change", "(III)I"⟩
abbrev cX9_remake : ByteArray := prog_11_method_55_code
def yX9_remake : MethodName := ⟨RX9, "remake", "(II)I"⟩
abbrev cX9_light : ByteArray := prog_11_method_56_code
def yX9_light : MethodName := ⟨RX9, "light", "(II)I"⟩
abbrev cX9_lane : ByteArray := prog_11_method_57_code
def yX9_lane : MethodName := ⟨RX9, "lane", "(III)I"⟩
abbrev cX9_laneOf : ByteArray := prog_11_method_58_code
def yX9_laneOf : MethodName := ⟨RX9, "laneOf", "(II)I"⟩
abbrev cX9_ends : ByteArray := prog_11_method_59_code
def yX9_ends : MethodName := ⟨RX9, "ends", "(I)I"⟩
abbrev cX9_anew : ByteArray := prog_11_method_60_code
def yX9_anew : MethodName := ⟨RX9, "anew", "()I"⟩
abbrev cX9_those : ByteArray := prog_11_method_61_code
def yX9_those : MethodName := ⟨RX9, "those", "(I)I"⟩
abbrev cX9_state : ByteArray := prog_11_method_62_code
def yX9_state : MethodName := ⟨RX9, "state", "(I)I"⟩
abbrev cX9_watch : ByteArray := prog_11_method_63_code
def yX9_watch : MethodName := ⟨RX9, "watch", "()I"⟩
abbrev cX9_restOf : ByteArray := prog_11_method_64_code
def yX9_restOf : MethodName := ⟨RX9, "restOf", "(I)I"⟩
abbrev cX9_on : ByteArray := prog_11_method_65_code
def yX9_on : MethodName := ⟨RX9, "on", "(I)I"⟩
abbrev cX9_when : ByteArray := prog_11_method_66_code
def yX9_when : MethodName := ⟨RX9, "when", "(I)I"⟩
abbrev cX9_bestFor : ByteArray := prog_11_method_67_code
def yX9_bestFor : MethodName := ⟨RX9, "bestFor", "(III)I"⟩
abbrev cX9_trimFor : ByteArray := prog_11_method_68_code
def yX9_trimFor : MethodName := ⟨RX9, "trimFor", "(I)I"⟩
abbrev cX9_laneFor : ByteArray := prog_11_method_69_code
def yX9_laneFor : MethodName := ⟨RX9, "laneFor", "(I)I"⟩
abbrev cX9_rock : ByteArray := prog_11_method_70_code
def yX9_rock : MethodName := ⟨RX9, "rock", "(I)I"⟩
abbrev cX9_least : ByteArray := prog_11_method_71_code
def yX9_least : MethodName := ⟨RX9, "least", "(I)I"⟩
abbrev cX9_safe : ByteArray := prog_11_method_72_code
def yX9_safe : MethodName := ⟨RX9, "safe", "(I)I"⟩
abbrev cX9_areClose : ByteArray := prog_11_method_73_code
def yX9_areClose : MethodName := ⟨RX9, "areClose", "(II)Z"⟩
abbrev cX9_convoyOf : ByteArray := prog_11_method_74_code
def yX9_convoyOf : MethodName := ⟨RX9, "convoyOf", "(I)I"⟩
abbrev cX9_convoys : ByteArray := prog_11_method_75_code
def yX9_convoys : MethodName := ⟨RX9, "convoys", "(I)I"⟩
abbrev cX9_saves : ByteArray := prog_11_method_76_code
def yX9_saves : MethodName := ⟨RX9, "saves", "(I)V"⟩
abbrev cX9_restores : ByteArray := prog_11_method_77_code
def yX9_restores : MethodName := ⟨RX9, "restores", "(I)V"⟩
abbrev cX9_daysOf : ByteArray := prog_11_method_78_code
def yX9_daysOf : MethodName := ⟨RX9, "daysOf", "(I)I"⟩
abbrev cX9_endsPlan : ByteArray := prog_11_method_79_code
def yX9_endsPlan : MethodName := ⟨RX9, "endsPlan", "(IIII)V"⟩
abbrev cX9_goesPlans : ByteArray := prog_11_method_80_code
def yX9_goesPlans : MethodName := ⟨RX9, "goesPlans", "(IIIII)V"⟩
abbrev cX9_triesAll : ByteArray := prog_11_method_81_code
def yX9_triesAll : MethodName := ⟨RX9, "triesAll", "(II)V"⟩
abbrev cX9_isPlan : ByteArray := prog_11_method_82_code
def yX9_isPlan : MethodName := ⟨RX9, "isPlan", "(I)Z"⟩
abbrev cX9_best : ByteArray := prog_11_method_83_code
def yX9_best : MethodName := ⟨RX9, "best", "(I)I"⟩
abbrev cX9_ith : ByteArray := prog_11_method_84_code
def yX9_ith : MethodName := ⟨RX9, "ith", "(II)I"⟩
abbrev cX9_ways : ByteArray := prog_11_method_85_code
def yX9_ways : MethodName := ⟨RX9, "ways", "(I)I"⟩
abbrev cX9_isSet : ByteArray := prog_11_method_86_code
def yX9_isSet : MethodName := ⟨RX9, "isSet", "(I)Z"⟩
abbrev cX9_log : ByteArray := prog_11_method_87_code
def yX9_log : MethodName := ⟨RX9, "log", "(II)I"⟩
abbrev cX9_bars : ByteArray := prog_11_method_88_code
def yX9_bars : MethodName := ⟨RX9, "bars", "(II)I"⟩
abbrev cX9_playedFrom : ByteArray := prog_11_method_89_code
def yX9_playedFrom : MethodName := ⟨RX9, "playedFrom", "(II)I"⟩
abbrev cX9_game : ByteArray := prog_11_method_90_code
def yX9_game : MethodName := ⟨RX9, "game", "(I)I"⟩
abbrev cX9_play : ByteArray := prog_11_method_91_code
def yX9_play : MethodName := ⟨RX9, "play", "(I)I"⟩
abbrev cX9_report : ByteArray := prog_11_method_92_code
def yX9_report : MethodName := ⟨RX9, "report", "(IIII)I"⟩
abbrev cX9_forget : ByteArray := prog_11_method_93_code
def yX9_forget : MethodName := ⟨RX9, "forget", "()I"⟩
abbrev cX9_tellsLone : ByteArray := prog_11_method_94_code
def yX9_tellsLone : MethodName := ⟨RX9, "tellsLone", "(III)V"⟩
abbrev cX9_isSo : ByteArray := prog_11_method_95_code
def yX9_isSo : MethodName := ⟨RX9, "isSo", "(I)Z"⟩
abbrev cX9_fitting : ByteArray := prog_11_method_96_code
def yX9_fitting : MethodName := ⟨RX9, "fitting", "(I)I"⟩
abbrev cX9_lone : ByteArray := prog_11_method_97_code
def yX9_lone : MethodName := ⟨RX9, "lone", "(I)I"⟩
abbrev cX9_liar : ByteArray := prog_11_method_98_code
def yX9_liar : MethodName := ⟨RX9, "liar", "()I"⟩
abbrev cX9_seed : ByteArray := prog_11_method_99_code
def yX9_seed : MethodName := ⟨RX9, "seed", "(I)I"⟩
abbrev cX9_byLot : ByteArray := prog_11_method_100_code
def yX9_byLot : MethodName := ⟨RX9, "byLot", "()I"⟩
abbrev cX9_lot : ByteArray := prog_11_method_101_code
def yX9_lot : MethodName := ⟨RX9, "lot", "()I"⟩
abbrev cX9_times : ByteArray := prog_11_method_102_code
def yX9_times : MethodName := ⟨RX9, "times", "(II)I"⟩
abbrev cX9_prove : ByteArray := prog_11_method_103_code
def yX9_prove : MethodName := ⟨RX9, "prove", "(I)I"⟩
abbrev cX9_isRow : ByteArray := prog_11_method_104_code
def yX9_isRow : MethodName := ⟨RX9, "isRow", "(II)Z"⟩
abbrev cX9_row : ByteArray := prog_11_method_105_code
def yX9_row : MethodName := ⟨RX9, "row", "(II)I"⟩
abbrev cX9_alterRow : ByteArray := prog_11_method_106_code
def yX9_alterRow : MethodName := ⟨RX9, "alterRow", "(III)I"⟩
abbrev cX9_judge : ByteArray := prog_11_method_107_code
def yX9_judge : MethodName := ⟨RX9, "judge", "()I"⟩
abbrev cX9_isSheet : ByteArray := prog_11_method_108_code
def yX9_isSheet : MethodName := ⟨RX9, "isSheet", "(I)Z"⟩
abbrev cX9_sheet : ByteArray := prog_11_method_109_code
def yX9_sheet : MethodName := ⟨RX9, "sheet", "(III)I"⟩
abbrev cX9_narrowed : ByteArray := prog_11_method_110_code
def yX9_narrowed : MethodName := ⟨RX9, "narrowed", "(II)I"⟩
abbrev cX9_write : ByteArray := prog_11_method_111_code
def yX9_write : MethodName := ⟨RX9, "write", "(III)I"⟩
abbrev cX9_lacks : ByteArray := prog_11_method_112_code
def yX9_lacks : MethodName := ⟨RX9, "lacks", "(II)I"⟩
abbrev cX9_item : ByteArray := prog_11_method_113_code
def yX9_item : MethodName := ⟨RX9, "item", "(III)I"⟩
abbrev cX9_isItem : ByteArray := prog_11_method_114_code
def yX9_isItem : MethodName := ⟨RX9, "isItem", "(III)Z"⟩
abbrev cX9_goAll : ByteArray := prog_11_method_115_code
def yX9_goAll : MethodName := ⟨RX9, "goAll", "(III)I"⟩
abbrev cX9_wouldBe : ByteArray := prog_11_method_116_code
def yX9_wouldBe : MethodName := ⟨RX9, "wouldBe", "(III)I"⟩
abbrev cX9_shelf : ByteArray := prog_11_method_117_code
def yX9_shelf : MethodName := ⟨RX9, "shelf", "(III)I"⟩
abbrev cX9_heldOn : ByteArray := prog_11_method_118_code
def yX9_heldOn : MethodName := ⟨RX9, "heldOn", "(I)I"⟩
abbrev cX9_taken : ByteArray := prog_11_method_119_code
def yX9_taken : MethodName := ⟨RX9, "taken", "(II)I"⟩
abbrev cX9_starts : ByteArray := prog_11_method_120_code
def yX9_starts : MethodName := ⟨RX9, "starts", "(I)V"⟩
abbrev cX9_sightsAs : ByteArray := prog_11_method_121_code
def yX9_sightsAs : MethodName := ⟨RX9, "sightsAs", "(II)I"⟩
abbrev cX9_tacksAs : ByteArray := prog_11_method_122_code
def yX9_tacksAs : MethodName := ⟨RX9, "tacksAs", "(II)I"⟩
abbrev cX9_soundsAs : ByteArray := prog_11_method_123_code
def yX9_soundsAs : MethodName := ⟨RX9, "soundsAs", "(II)I"⟩
abbrev cX9_landsAs : ByteArray := prog_11_method_124_code
def yX9_landsAs : MethodName := ⟨RX9, "landsAs", "(II)I"⟩
abbrev cX9_act : ByteArray := prog_11_method_125_code
def yX9_act : MethodName := ⟨RX9, "act", "(III)I"⟩
abbrev cX9_trace : ByteArray := prog_11_method_126_code
def yX9_trace : MethodName := ⟨RX9, "trace", "(I)I"⟩
abbrev cX9_ones : ByteArray := prog_11_method_127_code
def yX9_ones : MethodName := ⟨RX9, "ones", "(I)I"⟩
abbrev cX9_many : ByteArray := prog_11_method_128_code
def yX9_many : MethodName := ⟨RX9, "many", "(I)I"⟩
abbrev cX9_keep : ByteArray := prog_11_method_129_code
def yX9_keep : MethodName := ⟨RX9, "keep", "()I"⟩
abbrev cX9_again : ByteArray := prog_11_method_130_code
def yX9_again : MethodName := ⟨RX9, "again", "()I"⟩
def RJ6 : String := "java/lang/Integer"
abbrev cJ6_bitCount_0f7a4 : ByteArray := prog_12_method_49_code
def yJ6_bitCount_0f7a4 : MethodName := ⟨RJ6, "bitCount", "(I)I"⟩
def RJ9 : String := "java/lang/Math"
abbrev cJ9_abs_0f7a4 : ByteArray := prog_13_method_59_code
def yJ9_abs_0f7a4 : MethodName := ⟨RJ9, "abs", "(I)I"⟩
abbrev cJ9_max_7cf53 : ByteArray := prog_13_method_65_code
def yJ9_max_7cf53 : MethodName := ⟨RJ9, "max", "(II)I"⟩
abbrev cJ9_min_7cf53 : ByteArray := prog_13_method_69_code
def yJ9_min_7cf53 : MethodName := ⟨RJ9, "min", "(II)I"⟩
def RJ0 : String := "java/lang/String"
abbrev cJ0_length_8abf5 : ByteArray := prog_14_method_54_code
def yJ0_length_8abf5 : MethodName := ⟨RJ0, "length", "()I"⟩
abbrev cJ0_charAt_5068e : ByteArray := prog_14_method_56_code
def yJ0_charAt_5068e : MethodName := ⟨RJ0, "charAt", "(I)C"⟩
abbrev cJ0_coder_7d493 : ByteArray := prog_14_method_152_code
def yJ0_coder_7d493 : MethodName := ⟨RJ0, "coder", "()B"⟩
abbrev cJ0_isLatin1_aae02 : ByteArray := prog_14_method_154_code
def yJ0_isLatin1_aae02 : MethodName := ⟨RJ0, "isLatin1", "()Z"⟩
abbrev cJ0_checkIndex_df160 : ByteArray := prog_14_method_155_code
def yJ0_checkIndex_df160 : MethodName := ⟨RJ0, "checkIndex", "(II)V"⟩
def RJ1 : String := "java/lang/StringLatin1"
abbrev cJ1_charAt_3b067 : ByteArray := prog_15_method_2_code
def yJ1_charAt_3b067 : MethodName := ⟨RJ1, "charAt", "([BI)C"⟩
def RJ2 : String := "java/lang/StringUTF16"
abbrev cJ2_getChar_3b067 : ByteArray := prog_16_method_5_code
def yJ2_getChar_3b067 : MethodName := ⟨RJ2, "getChar", "([BI)C"⟩
abbrev cJ2_length_9d52b : ByteArray := prog_16_method_6_code
def yJ2_length_9d52b : MethodName := ⟨RJ2, "length", "([B)I"⟩
abbrev cJ2_charAt_3b067 : ByteArray := prog_16_method_83_code
def yJ2_charAt_3b067 : MethodName := ⟨RJ2, "charAt", "([BI)C"⟩
abbrev cJ2_checkIndex_2214a : ByteArray := prog_16_method_91_code
def yJ2_checkIndex_2214a : MethodName := ⟨RJ2, "checkIndex", "(I[B)V"⟩
def RJ10 : String := "java/lang/System"
def RJ7 : String := "java/util/Arrays"
abbrev cJ7_rangeCheck_23922 : ByteArray := prog_18_method_30_code
def yJ7_rangeCheck_23922 : MethodName := ⟨RJ7, "rangeCheck", "(III)V"⟩
abbrev cJ7_fill_53178 : ByteArray := prog_18_method_103_code
def yJ7_fill_53178 : MethodName := ⟨RJ7, "fill", "([II)V"⟩
abbrev cJ7_fill_fda19 : ByteArray := prog_18_method_104_code
def yJ7_fill_fda19 : MethodName := ⟨RJ7, "fill", "([IIII)V"⟩
def RJ3 : String := "jdk/internal/util/Preconditions"
abbrev cJ3_checkIndex_8e157 : ByteArray := prog_19_method_11_code
def yJ3_checkIndex_8e157 : MethodName := ⟨RJ3, "checkIndex", "(IILjava/util/function/BiFunction;)I"⟩
def RL : String := "LightHalvesLaw"
abbrev cL_law : ByteArray := code
def yL_law : MethodName := ⟨RL, "law", "([I)Z"⟩
abbrev vwCl : List vw_C := [(RX0, TX0, 7), (RX1, TX1, 9), (RX2, TX2, 5), (RX3, TX3, 12), (RX4, TX4, 11), (RX5, TX5, 9), (RX6, TX6, 4), (RX7, TX7, 6), (RX8, TX8, 13), (RX9, TX9, 37)]
