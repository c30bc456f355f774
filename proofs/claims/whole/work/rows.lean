section
-- PART A: the skeleton of the kit (kit/laws/SKELETON.whole.lean.txt), pasted; then the classes' tables (begun from claim/NAMES.whole.lean.txt)
/-- a private method of a class that the tables say can be made, by its rows of tables_1 -/
def lw_okq (q : MethodName × Nat) : Prop := (q.1.cls ≠ "java/lang/invoke/MethodHandle" ∧ q.1.cls ≠ "java/lang/invoke/VarHandle") ∧ Cond.instantiable q.1.cls q.2 ∈ tables_1 ∧ Cond.privateMethod q.1 ∈ tables_1 ∧ Cond.instanceMethod q.1 ∈ tables_1
theorem lw_p0 : lw_okq (⟨"CoinTelescope$View", "readClause", "()Z"⟩, 10) := ⟨⟨by decide +kernel, by decide +kernel⟩, List.mem_of_getElem? (i := 60) (by decide +kernel), List.mem_of_getElem? (i := 264) (by decide +kernel), List.mem_of_getElem? (i := 265) (by decide +kernel)⟩
theorem lw_p1 : lw_okq (⟨"CoinTelescope$View", "readWord", "()I"⟩, 10) := ⟨⟨by decide +kernel, by decide +kernel⟩, List.mem_of_getElem? (i := 60) (by decide +kernel), List.mem_of_getElem? (i := 268) (by decide +kernel), List.mem_of_getElem? (i := 269) (by decide +kernel)⟩
theorem lw_p2 : lw_okq (⟨"CoinTelescope$View", "sameSigns", "(I)I"⟩, 10) := ⟨⟨by decide +kernel, by decide +kernel⟩, List.mem_of_getElem? (i := 60) (by decide +kernel), List.mem_of_getElem? (i := 272) (by decide +kernel), List.mem_of_getElem? (i := 273) (by decide +kernel)⟩
theorem lw_p3 : lw_okq (⟨"CoinTelescope$View", "take", "(C)Z"⟩, 10) := ⟨⟨by decide +kernel, by decide +kernel⟩, List.mem_of_getElem? (i := 60) (by decide +kernel), List.mem_of_getElem? (i := 326) (by decide +kernel), List.mem_of_getElem? (i := 327) (by decide +kernel)⟩
theorem lw_p4 : lw_okq (⟨"CoinTelescope$View", "next", "()I"⟩, 10) := ⟨⟨by decide +kernel, by decide +kernel⟩, List.mem_of_getElem? (i := 60) (by decide +kernel), List.mem_of_getElem? (i := 330) (by decide +kernel), List.mem_of_getElem? (i := 331) (by decide +kernel)⟩
theorem lw_p5 : lw_okq (⟨"CoinTelescope$View", "readNumber", "()I"⟩, 10) := ⟨⟨by decide +kernel, by decide +kernel⟩, List.mem_of_getElem? (i := 60) (by decide +kernel), List.mem_of_getElem? (i := 334) (by decide +kernel), List.mem_of_getElem? (i := 335) (by decide +kernel)⟩
theorem lw_p6 : lw_okq (⟨"CoinTelescope$View", "readJoined", "(II)Z"⟩, 10) := ⟨⟨by decide +kernel, by decide +kernel⟩, List.mem_of_getElem? (i := 60) (by decide +kernel), List.mem_of_getElem? (i := 338) (by decide +kernel), List.mem_of_getElem? (i := 339) (by decide +kernel)⟩
theorem lw_p7 : lw_okq (⟨"CoinTelescope$View", "readOne", "(I)Z"⟩, 10) := ⟨⟨by decide +kernel, by decide +kernel⟩, List.mem_of_getElem? (i := 60) (by decide +kernel), List.mem_of_getElem? (i := 342) (by decide +kernel), List.mem_of_getElem? (i := 343) (by decide +kernel)⟩
theorem lw_p8 : lw_okq (⟨"CoinTelescope$View", "readTest", "()Z"⟩, 10) := ⟨⟨by decide +kernel, by decide +kernel⟩, List.mem_of_getElem? (i := 60) (by decide +kernel), List.mem_of_getElem? (i := 346) (by decide +kernel), List.mem_of_getElem? (i := 347) (by decide +kernel)⟩
theorem lw_p9 : lw_okq (⟨"CoinTelescope$View", "readPlaceIn", "(Ljava/lang/String;)I"⟩, 10) := ⟨⟨by decide +kernel, by decide +kernel⟩, List.mem_of_getElem? (i := 60) (by decide +kernel), List.mem_of_getElem? (i := 351) (by decide +kernel), List.mem_of_getElem? (i := 352) (by decide +kernel)⟩
theorem lw_p10 : lw_okq (⟨"CoinTelescope$View", "emit", "(I)V"⟩, 10) := ⟨⟨by decide +kernel, by decide +kernel⟩, List.mem_of_getElem? (i := 60) (by decide +kernel), List.mem_of_getElem? (i := 411) (by decide +kernel), List.mem_of_getElem? (i := 412) (by decide +kernel)⟩
theorem lw_p11 : lw_okq (⟨"CoinTelescope$View", "keepCondition", "(I)V"⟩, 10) := ⟨⟨by decide +kernel, by decide +kernel⟩, List.mem_of_getElem? (i := 60) (by decide +kernel), List.mem_of_getElem? (i := 418) (by decide +kernel), List.mem_of_getElem? (i := 419) (by decide +kernel)⟩
theorem lw_p12 : lw_okq (⟨"CoinTelescope", "newThing", "(III)LCoinTelescope$Thing;"⟩, 5) := ⟨⟨by decide +kernel, by decide +kernel⟩, List.mem_of_getElem? (i := 23) (by decide +kernel), List.mem_of_getElem? (i := 434) (by decide +kernel), List.mem_of_getElem? (i := 435) (by decide +kernel)⟩
theorem lw_p13 : lw_okq (⟨"CoinTelescope$View", "holds", "(II[I)Z"⟩, 10) := ⟨⟨by decide +kernel, by decide +kernel⟩, List.mem_of_getElem? (i := 60) (by decide +kernel), List.mem_of_getElem? (i := 631) (by decide +kernel), List.mem_of_getElem? (i := 632) (by decide +kernel)⟩
theorem lw_p14 : lw_okq (⟨"CoinTelescope", "lostByACoin", "()I"⟩, 5) := ⟨⟨by decide +kernel, by decide +kernel⟩, List.mem_of_getElem? (i := 23) (by decide +kernel), List.mem_of_getElem? (i := 703) (by decide +kernel), List.mem_of_getElem? (i := 704) (by decide +kernel)⟩
theorem lw_p15 : lw_okq (⟨"CoinTelescope$Search", "tryDoings", "(IIIII)V"⟩, 10) := ⟨⟨by decide +kernel, by decide +kernel⟩, List.mem_of_getElem? (i := 175) (by decide +kernel), List.mem_of_getElem? (i := 757) (by decide +kernel), List.mem_of_getElem? (i := 758) (by decide +kernel)⟩
def lw_privs_1 : List (MethodName × Nat) := [(⟨"CoinTelescope$View", "readClause", "()Z"⟩, 10), (⟨"CoinTelescope$View", "readWord", "()I"⟩, 10), (⟨"CoinTelescope$View", "sameSigns", "(I)I"⟩, 10), (⟨"CoinTelescope$View", "take", "(C)Z"⟩, 10), (⟨"CoinTelescope$View", "next", "()I"⟩, 10), (⟨"CoinTelescope$View", "readNumber", "()I"⟩, 10), (⟨"CoinTelescope$View", "readJoined", "(II)Z"⟩, 10), (⟨"CoinTelescope$View", "readOne", "(I)Z"⟩, 10), (⟨"CoinTelescope$View", "readTest", "()Z"⟩, 10), (⟨"CoinTelescope$View", "readPlaceIn", "(Ljava/lang/String;)I"⟩, 10), (⟨"CoinTelescope$View", "emit", "(I)V"⟩, 10), (⟨"CoinTelescope$View", "keepCondition", "(I)V"⟩, 10), (⟨"CoinTelescope", "newThing", "(III)LCoinTelescope$Thing;"⟩, 5), (⟨"CoinTelescope$View", "holds", "(II[I)Z"⟩, 10), (⟨"CoinTelescope", "lostByACoin", "()I"⟩, 5), (⟨"CoinTelescope$Search", "tryDoings", "(IIIII)V"⟩, 10)]
theorem lw_r1 : ∀ q ∈ lw_privs_1, lw_okq q := List.forall_mem_cons.mpr ⟨lw_p0, List.forall_mem_cons.mpr ⟨lw_p1, List.forall_mem_cons.mpr ⟨lw_p2, List.forall_mem_cons.mpr ⟨lw_p3, List.forall_mem_cons.mpr ⟨lw_p4, List.forall_mem_cons.mpr ⟨lw_p5, List.forall_mem_cons.mpr ⟨lw_p6, List.forall_mem_cons.mpr ⟨lw_p7, List.forall_mem_cons.mpr ⟨lw_p8, List.forall_mem_cons.mpr ⟨lw_p9, List.forall_mem_cons.mpr ⟨lw_p10, List.forall_mem_cons.mpr ⟨lw_p11, List.forall_mem_cons.mpr ⟨lw_p12, List.forall_mem_cons.mpr ⟨lw_p13, List.forall_mem_cons.mpr ⟨lw_p14, List.forall_mem_cons.mpr ⟨lw_p15, fun _ h => absurd h List.not_mem_nil⟩⟩⟩⟩⟩⟩⟩⟩⟩⟩⟩⟩⟩⟩⟩⟩
theorem lw_p16 : lw_okq (⟨"CoinTelescope$Search", "tryThings", "(IIII)V"⟩, 10) := ⟨⟨by decide +kernel, by decide +kernel⟩, List.mem_of_getElem? (i := 175) (by decide +kernel), List.mem_of_getElem? (i := 799) (by decide +kernel), List.mem_of_getElem? (i := 800) (by decide +kernel)⟩
theorem lw_p17 : lw_okq (⟨"CoinTelescopeModel", "clauseHere", "()V"⟩, 23) := ⟨⟨by decide +kernel, by decide +kernel⟩, List.mem_of_getElem? (i := 966) (by decide +kernel), List.mem_of_getElem? (i := 1053) (by decide +kernel), List.mem_of_getElem? (i := 1054) (by decide +kernel)⟩
theorem lw_p18 : lw_okq (⟨"CoinTelescopeModel", "here", "()I"⟩, 23) := ⟨⟨by decide +kernel, by decide +kernel⟩, List.mem_of_getElem? (i := 966) (by decide +kernel), List.mem_of_getElem? (i := 1057) (by decide +kernel), List.mem_of_getElem? (i := 1058) (by decide +kernel)⟩
theorem lw_p19 : lw_okq (⟨"CoinTelescopeModel", "tellsHere", "(ILjava/lang/String;)V"⟩, 23) := ⟨⟨by decide +kernel, by decide +kernel⟩, List.mem_of_getElem? (i := 966) (by decide +kernel), List.mem_of_getElem? (i := 1062) (by decide +kernel), List.mem_of_getElem? (i := 1063) (by decide +kernel)⟩
theorem lw_p20 : lw_okq (⟨"CoinTelescopeModel", "spells", "(Ljava/lang/String;)V"⟩, 23) := ⟨⟨by decide +kernel, by decide +kernel⟩, List.mem_of_getElem? (i := 966) (by decide +kernel), List.mem_of_getElem? (i := 1066) (by decide +kernel), List.mem_of_getElem? (i := 1067) (by decide +kernel)⟩
theorem lw_p21 : lw_okq (⟨"CoinTelescopeModel", "must", "(I)V"⟩, 23) := ⟨⟨by decide +kernel, by decide +kernel⟩, List.mem_of_getElem? (i := 966) (by decide +kernel), List.mem_of_getElem? (i := 1072) (by decide +kernel), List.mem_of_getElem? (i := 1073) (by decide +kernel)⟩
theorem lw_p22 : lw_okq (⟨"CoinTelescopeModel", "figures", "()I"⟩, 23) := ⟨⟨by decide +kernel, by decide +kernel⟩, List.mem_of_getElem? (i := 966) (by decide +kernel), List.mem_of_getElem? (i := 1076) (by decide +kernel), List.mem_of_getElem? (i := 1077) (by decide +kernel)⟩
theorem lw_p23 : lw_okq (⟨"CoinTelescopeModel", "wordOfD", "()V"⟩, 23) := ⟨⟨by decide +kernel, by decide +kernel⟩, List.mem_of_getElem? (i := 966) (by decide +kernel), List.mem_of_getElem? (i := 1082) (by decide +kernel), List.mem_of_getElem? (i := 1083) (by decide +kernel)⟩
theorem lw_p24 : lw_okq (⟨"CoinTelescopeModel", "much", "(ILjava/lang/String;)V"⟩, 23) := ⟨⟨by decide +kernel, by decide +kernel⟩, List.mem_of_getElem? (i := 966) (by decide +kernel), List.mem_of_getElem? (i := 1087) (by decide +kernel), List.mem_of_getElem? (i := 1088) (by decide +kernel)⟩
theorem lw_p25 : lw_okq (⟨"CoinTelescopeModel", "some", "()V"⟩, 23) := ⟨⟨by decide +kernel, by decide +kernel⟩, List.mem_of_getElem? (i := 966) (by decide +kernel), List.mem_of_getElem? (i := 1091) (by decide +kernel), List.mem_of_getElem? (i := 1092) (by decide +kernel)⟩
theorem lw_p26 : lw_okq (⟨"CoinTelescopeModel", "every", "()V"⟩, 23) := ⟨⟨by decide +kernel, by decide +kernel⟩, List.mem_of_getElem? (i := 966) (by decide +kernel), List.mem_of_getElem? (i := 1095) (by decide +kernel), List.mem_of_getElem? (i := 1096) (by decide +kernel)⟩
theorem lw_p27 : lw_okq (⟨"CoinTelescopeModel", "factor", "()V"⟩, 23) := ⟨⟨by decide +kernel, by decide +kernel⟩, List.mem_of_getElem? (i := 966) (by decide +kernel), List.mem_of_getElem? (i := 1099) (by decide +kernel), List.mem_of_getElem? (i := 1100) (by decide +kernel)⟩
theorem lw_p28 : lw_okq (⟨"CoinTelescopeModel", "emits", "(I)V"⟩, 23) := ⟨⟨by decide +kernel, by decide +kernel⟩, List.mem_of_getElem? (i := 966) (by decide +kernel), List.mem_of_getElem? (i := 1103) (by decide +kernel), List.mem_of_getElem? (i := 1104) (by decide +kernel)⟩
theorem lw_p29 : lw_okq (⟨"CoinTelescopeModel", "among", "(Ljava/lang/String;)I"⟩, 23) := ⟨⟨by decide +kernel, by decide +kernel⟩, List.mem_of_getElem? (i := 966) (by decide +kernel), List.mem_of_getElem? (i := 1108) (by decide +kernel), List.mem_of_getElem? (i := 1109) (by decide +kernel)⟩
theorem lw_p30 : lw_okq (⟨"CoinTelescopeModel", "isThing", "(I)Z"⟩, 23) := ⟨⟨by decide +kernel, by decide +kernel⟩, List.mem_of_getElem? (i := 966) (by decide +kernel), List.mem_of_getElem? (i := 1125) (by decide +kernel), List.mem_of_getElem? (i := 1126) (by decide +kernel)⟩
theorem lw_p31 : lw_okq (⟨"CoinTelescopeModel", "asItIs", "()V"⟩, 23) := ⟨⟨by decide +kernel, by decide +kernel⟩, List.mem_of_getElem? (i := 966) (by decide +kernel), List.mem_of_getElem? (i := 1134) (by decide +kernel), List.mem_of_getElem? (i := 1135) (by decide +kernel)⟩
def lw_privs_2 : List (MethodName × Nat) := [(⟨"CoinTelescope$Search", "tryThings", "(IIII)V"⟩, 10), (⟨"CoinTelescopeModel", "clauseHere", "()V"⟩, 23), (⟨"CoinTelescopeModel", "here", "()I"⟩, 23), (⟨"CoinTelescopeModel", "tellsHere", "(ILjava/lang/String;)V"⟩, 23), (⟨"CoinTelescopeModel", "spells", "(Ljava/lang/String;)V"⟩, 23), (⟨"CoinTelescopeModel", "must", "(I)V"⟩, 23), (⟨"CoinTelescopeModel", "figures", "()I"⟩, 23), (⟨"CoinTelescopeModel", "wordOfD", "()V"⟩, 23), (⟨"CoinTelescopeModel", "much", "(ILjava/lang/String;)V"⟩, 23), (⟨"CoinTelescopeModel", "some", "()V"⟩, 23), (⟨"CoinTelescopeModel", "every", "()V"⟩, 23), (⟨"CoinTelescopeModel", "factor", "()V"⟩, 23), (⟨"CoinTelescopeModel", "emits", "(I)V"⟩, 23), (⟨"CoinTelescopeModel", "among", "(Ljava/lang/String;)I"⟩, 23), (⟨"CoinTelescopeModel", "isThing", "(I)Z"⟩, 23), (⟨"CoinTelescopeModel", "asItIs", "()V"⟩, 23)]
theorem lw_r2 : ∀ q ∈ lw_privs_2, lw_okq q := List.forall_mem_cons.mpr ⟨lw_p16, List.forall_mem_cons.mpr ⟨lw_p17, List.forall_mem_cons.mpr ⟨lw_p18, List.forall_mem_cons.mpr ⟨lw_p19, List.forall_mem_cons.mpr ⟨lw_p20, List.forall_mem_cons.mpr ⟨lw_p21, List.forall_mem_cons.mpr ⟨lw_p22, List.forall_mem_cons.mpr ⟨lw_p23, List.forall_mem_cons.mpr ⟨lw_p24, List.forall_mem_cons.mpr ⟨lw_p25, List.forall_mem_cons.mpr ⟨lw_p26, List.forall_mem_cons.mpr ⟨lw_p27, List.forall_mem_cons.mpr ⟨lw_p28, List.forall_mem_cons.mpr ⟨lw_p29, List.forall_mem_cons.mpr ⟨lw_p30, List.forall_mem_cons.mpr ⟨lw_p31, fun _ h => absurd h List.not_mem_nil⟩⟩⟩⟩⟩⟩⟩⟩⟩⟩⟩⟩⟩⟩⟩⟩
theorem lw_p32 : lw_okq (⟨"CoinTelescopeModel", "tellsOf", "(II)I"⟩, 23) := ⟨⟨by decide +kernel, by decide +kernel⟩, List.mem_of_getElem? (i := 966) (by decide +kernel), List.mem_of_getElem? (i := 1138) (by decide +kernel), List.mem_of_getElem? (i := 1139) (by decide +kernel)⟩
theorem lw_p33 : lw_okq (⟨"CoinTelescopeModel", "isAt", "(II)I"⟩, 23) := ⟨⟨by decide +kernel, by decide +kernel⟩, List.mem_of_getElem? (i := 966) (by decide +kernel), List.mem_of_getElem? (i := 1142) (by decide +kernel), List.mem_of_getElem? (i := 1143) (by decide +kernel)⟩
theorem lw_p34 : lw_okq (⟨"CoinTelescopeModel", "isDim", "(II)Z"⟩, 23) := ⟨⟨by decide +kernel, by decide +kernel⟩, List.mem_of_getElem? (i := 966) (by decide +kernel), List.mem_of_getElem? (i := 1146) (by decide +kernel), List.mem_of_getElem? (i := 1147) (by decide +kernel)⟩
theorem lw_p35 : lw_okq (⟨"CoinTelescopeModel", "baseOf", "(II)I"⟩, 23) := ⟨⟨by decide +kernel, by decide +kernel⟩, List.mem_of_getElem? (i := 966) (by decide +kernel), List.mem_of_getElem? (i := 1150) (by decide +kernel), List.mem_of_getElem? (i := 1151) (by decide +kernel)⟩
theorem lw_p36 : lw_okq (⟨"CoinTelescopeModel", "worthOf", "(II)I"⟩, 23) := ⟨⟨by decide +kernel, by decide +kernel⟩, List.mem_of_getElem? (i := 966) (by decide +kernel), List.mem_of_getElem? (i := 1154) (by decide +kernel), List.mem_of_getElem? (i := 1155) (by decide +kernel)⟩
theorem lw_p37 : lw_okq (⟨"CoinTelescopeModel", "becomes", "(II)I"⟩, 23) := ⟨⟨by decide +kernel, by decide +kernel⟩, List.mem_of_getElem? (i := 966) (by decide +kernel), List.mem_of_getElem? (i := 1162) (by decide +kernel), List.mem_of_getElem? (i := 1163) (by decide +kernel)⟩
theorem lw_p38 : lw_okq (⟨"CoinTelescopeModel", "coin", "()I"⟩, 23) := ⟨⟨by decide +kernel, by decide +kernel⟩, List.mem_of_getElem? (i := 966) (by decide +kernel), List.mem_of_getElem? (i := 1182) (by decide +kernel), List.mem_of_getElem? (i := 1183) (by decide +kernel)⟩
theorem lw_p39 : lw_okq (⟨"CoinTelescopeModel", "hadOnes", "()I"⟩, 23) := ⟨⟨by decide +kernel, by decide +kernel⟩, List.mem_of_getElem? (i := 966) (by decide +kernel), List.mem_of_getElem? (i := 1186) (by decide +kernel), List.mem_of_getElem? (i := 1187) (by decide +kernel)⟩
theorem lw_p40 : lw_okq (⟨"CoinTelescopeModel", "lost", "()I"⟩, 23) := ⟨⟨by decide +kernel, by decide +kernel⟩, List.mem_of_getElem? (i := 966) (by decide +kernel), List.mem_of_getElem? (i := 1190) (by decide +kernel), List.mem_of_getElem? (i := 1191) (by decide +kernel)⟩
theorem lw_p41 : lw_okq (⟨"CoinTelescopeModel", "goes", "(I)I"⟩, 23) := ⟨⟨by decide +kernel, by decide +kernel⟩, List.mem_of_getElem? (i := 966) (by decide +kernel), List.mem_of_getElem? (i := 1202) (by decide +kernel), List.mem_of_getElem? (i := 1203) (by decide +kernel)⟩
theorem lw_p42 : lw_okq (⟨"CoinTelescopeModel", "looksFor", "(I)V"⟩, 23) := ⟨⟨by decide +kernel, by decide +kernel⟩, List.mem_of_getElem? (i := 966) (by decide +kernel), List.mem_of_getElem? (i := 1218) (by decide +kernel), List.mem_of_getElem? (i := 1219) (by decide +kernel)⟩
theorem lw_p43 : lw_okq (⟨"CoinTelescopeModel", "keeps", "()V"⟩, 23) := ⟨⟨by decide +kernel, by decide +kernel⟩, List.mem_of_getElem? (i := 966) (by decide +kernel), List.mem_of_getElem? (i := 1222) (by decide +kernel), List.mem_of_getElem? (i := 1223) (by decide +kernel)⟩
theorem lw_p44 : lw_okq (⟨"CoinTelescopeModel", "goesBack", "()V"⟩, 23) := ⟨⟨by decide +kernel, by decide +kernel⟩, List.mem_of_getElem? (i := 966) (by decide +kernel), List.mem_of_getElem? (i := 1229) (by decide +kernel), List.mem_of_getElem? (i := 1230) (by decide +kernel)⟩
theorem lw_p45 : lw_okq (⟨"CoinTelescopeModel", "ticksTo", "(III)I"⟩, 23) := ⟨⟨by decide +kernel, by decide +kernel⟩, List.mem_of_getElem? (i := 966) (by decide +kernel), List.mem_of_getElem? (i := 1241) (by decide +kernel), List.mem_of_getElem? (i := 1242) (by decide +kernel)⟩
theorem lw_p46 : lw_okq (⟨"CoinTelescopeModel", "ordersFrom", "(IIII)V"⟩, 23) := ⟨⟨by decide +kernel, by decide +kernel⟩, List.mem_of_getElem? (i := 966) (by decide +kernel), List.mem_of_getElem? (i := 1256) (by decide +kernel), List.mem_of_getElem? (i := 1257) (by decide +kernel)⟩
theorem lw_p47 : lw_okq (⟨"CoinTelescopeModel", "areAsTold", "(I)Z"⟩, 23) := ⟨⟨by decide +kernel, by decide +kernel⟩, List.mem_of_getElem? (i := 966) (by decide +kernel), List.mem_of_getElem? (i := 1268) (by decide +kernel), List.mem_of_getElem? (i := 1269) (by decide +kernel)⟩
def lw_privs_3 : List (MethodName × Nat) := [(⟨"CoinTelescopeModel", "tellsOf", "(II)I"⟩, 23), (⟨"CoinTelescopeModel", "isAt", "(II)I"⟩, 23), (⟨"CoinTelescopeModel", "isDim", "(II)Z"⟩, 23), (⟨"CoinTelescopeModel", "baseOf", "(II)I"⟩, 23), (⟨"CoinTelescopeModel", "worthOf", "(II)I"⟩, 23), (⟨"CoinTelescopeModel", "becomes", "(II)I"⟩, 23), (⟨"CoinTelescopeModel", "coin", "()I"⟩, 23), (⟨"CoinTelescopeModel", "hadOnes", "()I"⟩, 23), (⟨"CoinTelescopeModel", "lost", "()I"⟩, 23), (⟨"CoinTelescopeModel", "goes", "(I)I"⟩, 23), (⟨"CoinTelescopeModel", "looksFor", "(I)V"⟩, 23), (⟨"CoinTelescopeModel", "keeps", "()V"⟩, 23), (⟨"CoinTelescopeModel", "goesBack", "()V"⟩, 23), (⟨"CoinTelescopeModel", "ticksTo", "(III)I"⟩, 23), (⟨"CoinTelescopeModel", "ordersFrom", "(IIII)V"⟩, 23), (⟨"CoinTelescopeModel", "areAsTold", "(I)Z"⟩, 23)]
theorem lw_r3 : ∀ q ∈ lw_privs_3, lw_okq q := List.forall_mem_cons.mpr ⟨lw_p32, List.forall_mem_cons.mpr ⟨lw_p33, List.forall_mem_cons.mpr ⟨lw_p34, List.forall_mem_cons.mpr ⟨lw_p35, List.forall_mem_cons.mpr ⟨lw_p36, List.forall_mem_cons.mpr ⟨lw_p37, List.forall_mem_cons.mpr ⟨lw_p38, List.forall_mem_cons.mpr ⟨lw_p39, List.forall_mem_cons.mpr ⟨lw_p40, List.forall_mem_cons.mpr ⟨lw_p41, List.forall_mem_cons.mpr ⟨lw_p42, List.forall_mem_cons.mpr ⟨lw_p43, List.forall_mem_cons.mpr ⟨lw_p44, List.forall_mem_cons.mpr ⟨lw_p45, List.forall_mem_cons.mpr ⟨lw_p46, List.forall_mem_cons.mpr ⟨lw_p47, fun _ h => absurd h List.not_mem_nil⟩⟩⟩⟩⟩⟩⟩⟩⟩⟩⟩⟩⟩⟩⟩⟩
theorem lw_p48 : lw_okq (⟨"CoinTelescopeModel", "showsActs", "(I)I"⟩, 23) := ⟨⟨by decide +kernel, by decide +kernel⟩, List.mem_of_getElem? (i := 966) (by decide +kernel), List.mem_of_getElem? (i := 1309) (by decide +kernel), List.mem_of_getElem? (i := 1310) (by decide +kernel)⟩
theorem lw_p49 : lw_okq (⟨"CoinTelescopeModel", "ranBody", "(I)V"⟩, 23) := ⟨⟨by decide +kernel, by decide +kernel⟩, List.mem_of_getElem? (i := 966) (by decide +kernel), List.mem_of_getElem? (i := 1316) (by decide +kernel), List.mem_of_getElem? (i := 1317) (by decide +kernel)⟩
theorem lw_p50 : lw_okq (⟨"CoinTelescopeModel", "plainShows", "(I)I"⟩, 23) := ⟨⟨by decide +kernel, by decide +kernel⟩, List.mem_of_getElem? (i := 966) (by decide +kernel), List.mem_of_getElem? (i := 1320) (by decide +kernel), List.mem_of_getElem? (i := 1321) (by decide +kernel)⟩
theorem lw_p51 : lw_okq (⟨"CoinTelescopeModel", "shakesActs", "(I)I"⟩, 23) := ⟨⟨by decide +kernel, by decide +kernel⟩, List.mem_of_getElem? (i := 966) (by decide +kernel), List.mem_of_getElem? (i := 1324) (by decide +kernel), List.mem_of_getElem? (i := 1325) (by decide +kernel)⟩
theorem lw_p52 : lw_okq (⟨"CoinTelescopeModel", "plainShakes", "(I)I"⟩, 23) := ⟨⟨by decide +kernel, by decide +kernel⟩, List.mem_of_getElem? (i := 966) (by decide +kernel), List.mem_of_getElem? (i := 1328) (by decide +kernel), List.mem_of_getElem? (i := 1329) (by decide +kernel)⟩
theorem lw_p53 : lw_okq (⟨"CoinTelescopeModel", "tellsActs", "(I)I"⟩, 23) := ⟨⟨by decide +kernel, by decide +kernel⟩, List.mem_of_getElem? (i := 966) (by decide +kernel), List.mem_of_getElem? (i := 1332) (by decide +kernel), List.mem_of_getElem? (i := 1333) (by decide +kernel)⟩
theorem lw_p54 : lw_okq (⟨"CoinTelescopeModel", "plainTelling", "(I)I"⟩, 23) := ⟨⟨by decide +kernel, by decide +kernel⟩, List.mem_of_getElem? (i := 966) (by decide +kernel), List.mem_of_getElem? (i := 1336) (by decide +kernel), List.mem_of_getElem? (i := 1337) (by decide +kernel)⟩
def lw_privs_4 : List (MethodName × Nat) := [(⟨"CoinTelescopeModel", "showsActs", "(I)I"⟩, 23), (⟨"CoinTelescopeModel", "ranBody", "(I)V"⟩, 23), (⟨"CoinTelescopeModel", "plainShows", "(I)I"⟩, 23), (⟨"CoinTelescopeModel", "shakesActs", "(I)I"⟩, 23), (⟨"CoinTelescopeModel", "plainShakes", "(I)I"⟩, 23), (⟨"CoinTelescopeModel", "tellsActs", "(I)I"⟩, 23), (⟨"CoinTelescopeModel", "plainTelling", "(I)I"⟩, 23)]
theorem lw_r4 : ∀ q ∈ lw_privs_4, lw_okq q := List.forall_mem_cons.mpr ⟨lw_p48, List.forall_mem_cons.mpr ⟨lw_p49, List.forall_mem_cons.mpr ⟨lw_p50, List.forall_mem_cons.mpr ⟨lw_p51, List.forall_mem_cons.mpr ⟨lw_p52, List.forall_mem_cons.mpr ⟨lw_p53, List.forall_mem_cons.mpr ⟨lw_p54, fun _ h => absurd h List.not_mem_nil⟩⟩⟩⟩⟩⟩⟩
def lw_privs : List (MethodName × Nat) := lw_privs_1 ++ (lw_privs_2 ++ (lw_privs_3 ++ (lw_privs_4)))
def lw_tbl : List Cond := k2_sels lw_privs ++ tables_1
theorem lw_privs_ok : ∀ q ∈ lw_privs, lw_okq q := by
  show ∀ q ∈ lw_privs_1 ++ (lw_privs_2 ++ (lw_privs_3 ++ (lw_privs_4))), lw_okq q
  exact List.forall_mem_append.mpr ⟨lw_r1, List.forall_mem_append.mpr ⟨lw_r2, List.forall_mem_append.mpr ⟨lw_r3, lw_r4⟩⟩⟩

def RX0 : String := "CoinTelescope$Bird"
def TX0 : u_T := fun k => match k with
  | 0 => ("CoinTelescope$Thing", "kind", "I", true)
  | 1 => ("CoinTelescope$Thing", "number", "I", true)
  | 2 => ("CoinTelescope$Thing", "v", "I", true)
  | _ => ("CoinTelescope$Thing", "trace", "LCoinTelescope$Table;", true)
def tyX0 : Nat → FieldType := fun k => match k with
  | 0 => .int
  | 1 => .int
  | 2 => .int
  | _ => .object "CoinTelescope$Table"
abbrev wsX00 : List Cond := u_ws RX0 TX0 4
theorem nmX0 : ∀ a, a < 4 → ∀ b, b < 4 → a ≠ b → (TX0 a).2.1 ≠ (TX0 b).2.1 := by decide +kernel
theorem tyX0_ok : ∀ k, k < 4 → parseFieldDescriptor (TX0 k).2.2.1 = some (tyX0 k) := by decide +kernel
def RX1 : String := "CoinTelescope$Boat"
def TX1 : u_T := fun k => match k with
  | 0 => ("CoinTelescope$Thing", "kind", "I", true)
  | 1 => ("CoinTelescope$Thing", "number", "I", true)
  | 2 => ("CoinTelescope$Thing", "v", "I", true)
  | _ => ("CoinTelescope$Thing", "trace", "LCoinTelescope$Table;", true)
def tyX1 : Nat → FieldType := fun k => match k with
  | 0 => .int
  | 1 => .int
  | 2 => .int
  | _ => .object "CoinTelescope$Table"
abbrev wsX10 : List Cond := u_ws RX1 TX1 4
theorem nmX1 : ∀ a, a < 4 → ∀ b, b < 4 → a ≠ b → (TX1 a).2.1 ≠ (TX1 b).2.1 := by decide +kernel
theorem tyX1_ok : ∀ k, k < 4 → parseFieldDescriptor (TX1 k).2.2.1 = some (tyX1 k) := by decide +kernel
def RX2 : String := "CoinTelescope$House"
def TX2 : u_T := fun k => match k with
  | 0 => ("CoinTelescope$Thing", "kind", "I", true)
  | 1 => ("CoinTelescope$Thing", "number", "I", true)
  | 2 => ("CoinTelescope$Thing", "v", "I", true)
  | _ => ("CoinTelescope$Thing", "trace", "LCoinTelescope$Table;", true)
def tyX2 : Nat → FieldType := fun k => match k with
  | 0 => .int
  | 1 => .int
  | 2 => .int
  | _ => .object "CoinTelescope$Table"
abbrev wsX20 : List Cond := u_ws RX2 TX2 4
theorem nmX2 : ∀ a, a < 4 → ∀ b, b < 4 → a ≠ b → (TX2 a).2.1 ≠ (TX2 b).2.1 := by decide +kernel
theorem tyX2_ok : ∀ k, k < 4 → parseFieldDescriptor (TX2 k).2.2.1 = some (tyX2 k) := by decide +kernel
def RX3 : String := "CoinTelescope$Search"
def TX3 : u_T := fun k => match k with
  | 0 => ("CoinTelescope$Search", "state", "LCoinTelescope$State;", true)
  | 1 => ("CoinTelescope$Search", "seen", "[I", true)
  | 2 => ("CoinTelescope$Search", "worths", "[I", true)
  | 3 => ("CoinTelescope$Search", "row", "[I", true)
  | 4 => ("CoinTelescope$Search", "bestRow", "[I", true)
  | 5 => ("CoinTelescope$Search", "most", "I", false)
  | 6 => ("CoinTelescope$Search", "order", "[I", true)
  | 7 => ("CoinTelescope$Search", "bestOrder", "[I", true)
  | 8 => ("CoinTelescope$Search", "orderSize", "I", false)
  | _ => ("CoinTelescope$Search", "fewest", "I", false)
def tyX3 : Nat → FieldType := fun k => match k with
  | 0 => .object "CoinTelescope$State"
  | 1 => .array .int
  | 2 => .array .int
  | 3 => .array .int
  | 4 => .array .int
  | 5 => .int
  | 6 => .array .int
  | 7 => .array .int
  | 8 => .int
  | _ => .int
abbrev wsX30 : List Cond := u_ws RX3 TX3 10
theorem nmX3 : ∀ a, a < 10 → ∀ b, b < 10 → a ≠ b → (TX3 a).2.1 ≠ (TX3 b).2.1 := by decide +kernel
theorem tyX3_ok : ∀ k, k < 10 → parseFieldDescriptor (TX3 k).2.2.1 = some (tyX3 k) := by decide +kernel
def RX4 : String := "CoinTelescope$Ship"
def TX4 : u_T := fun k => match k with
  | 0 => ("CoinTelescope$Thing", "kind", "I", true)
  | 1 => ("CoinTelescope$Thing", "number", "I", true)
  | 2 => ("CoinTelescope$Thing", "v", "I", true)
  | _ => ("CoinTelescope$Thing", "trace", "LCoinTelescope$Table;", true)
def tyX4 : Nat → FieldType := fun k => match k with
  | 0 => .int
  | 1 => .int
  | 2 => .int
  | _ => .object "CoinTelescope$Table"
abbrev wsX40 : List Cond := u_ws RX4 TX4 4
theorem nmX4 : ∀ a, a < 4 → ∀ b, b < 4 → a ≠ b → (TX4 a).2.1 ≠ (TX4 b).2.1 := by decide +kernel
theorem tyX4_ok : ∀ k, k < 4 → parseFieldDescriptor (TX4 k).2.2.1 = some (tyX4 k) := by decide +kernel
def RX5 : String := "CoinTelescope$Spire"
def TX5 : u_T := fun k => match k with
  | 0 => ("CoinTelescope$Thing", "kind", "I", true)
  | 1 => ("CoinTelescope$Thing", "number", "I", true)
  | 2 => ("CoinTelescope$Thing", "v", "I", true)
  | _ => ("CoinTelescope$Thing", "trace", "LCoinTelescope$Table;", true)
def tyX5 : Nat → FieldType := fun k => match k with
  | 0 => .int
  | 1 => .int
  | 2 => .int
  | _ => .object "CoinTelescope$Table"
abbrev wsX50 : List Cond := u_ws RX5 TX5 4
theorem nmX5 : ∀ a, a < 4 → ∀ b, b < 4 → a ≠ b → (TX5 a).2.1 ≠ (TX5 b).2.1 := by decide +kernel
theorem tyX5_ok : ∀ k, k < 4 → parseFieldDescriptor (TX5 k).2.2.1 = some (tyX5 k) := by decide +kernel
def RX6 : String := "CoinTelescope$State"
def TX6 : u_T := fun k => match k with
  | 0 => ("CoinTelescope$State", "tape", "LCoinTelescope$Table;", true)
  | 1 => ("CoinTelescope$State", "view", "LCoinTelescope$View;", false)
  | 2 => ("CoinTelescope$State", "viewCount", "I", false)
  | 3 => ("CoinTelescope$State", "thingCount", "I", false)
  | 4 => ("CoinTelescope$State", "things", "[LCoinTelescope$Thing;", true)
  | 5 => ("CoinTelescope$State", "homes", "[I", true)
  | 6 => ("CoinTelescope$State", "rows", "[I", true)
  | 7 => ("CoinTelescope$State", "had", "I", false)
  | 8 => ("CoinTelescope$State", "tick", "I", false)
  | 9 => ("CoinTelescope$State", "tube", "I", false)
  | 10 => ("CoinTelescope$State", "left", "I", false)
  | 11 => ("CoinTelescope$State", "coins", "I", false)
  | 12 => ("CoinTelescope$State", "gain", "I", false)
  | 13 => ("CoinTelescope$State", "stood", "LCoinTelescope$Table;", true)
  | 14 => ("CoinTelescope$State", "plan", "LCoinTelescope$Table;", true)
  | 15 => ("CoinTelescope$State", "book", "LCoinTelescope$Table;", true)
  | _ => ("CoinTelescope$State", "facts", "[I", true)
def tyX6 : Nat → FieldType := fun k => match k with
  | 0 => .object "CoinTelescope$Table"
  | 1 => .object "CoinTelescope$View"
  | 2 => .int
  | 3 => .int
  | 4 => .array (.object "CoinTelescope$Thing")
  | 5 => .array .int
  | 6 => .array .int
  | 7 => .int
  | 8 => .int
  | 9 => .int
  | 10 => .int
  | 11 => .int
  | 12 => .int
  | 13 => .object "CoinTelescope$Table"
  | 14 => .object "CoinTelescope$Table"
  | 15 => .object "CoinTelescope$Table"
  | _ => .array .int
abbrev wsX60 : List Cond := u_ws RX6 TX6 17
theorem nmX6 : ∀ a, a < 17 → ∀ b, b < 17 → a ≠ b → (TX6 a).2.1 ≠ (TX6 b).2.1 := by decide +kernel
theorem tyX6_ok : ∀ k, k < 17 → parseFieldDescriptor (TX6 k).2.2.1 = some (tyX6 k) := by decide +kernel
def RX7 : String := "CoinTelescope$Table"
def TX7 : u_T := fun k => match k with
  | 0 => ("CoinTelescope$Table", "width", "I", true)
  | 1 => ("CoinTelescope$Table", "limit", "I", true)
  | 2 => ("CoinTelescope$Table", "numbers", "[I", true)
  | _ => ("CoinTelescope$Table", "size", "I", false)
def tyX7 : Nat → FieldType := fun k => match k with
  | 0 => .int
  | 1 => .int
  | 2 => .array .int
  | _ => .int
abbrev wsX70 : List Cond := u_ws RX7 TX7 4
theorem nmX7 : ∀ a, a < 4 → ∀ b, b < 4 → a ≠ b → (TX7 a).2.1 ≠ (TX7 b).2.1 := by decide +kernel
theorem tyX7_ok : ∀ k, k < 4 → parseFieldDescriptor (TX7 k).2.2.1 = some (tyX7 k) := by decide +kernel
def RX8 : String := "CoinTelescope$Thing"
def TX8 : u_T := fun k => match k with
  | 0 => ("CoinTelescope$Thing", "kind", "I", true)
  | 1 => ("CoinTelescope$Thing", "number", "I", true)
  | 2 => ("CoinTelescope$Thing", "v", "I", true)
  | _ => ("CoinTelescope$Thing", "trace", "LCoinTelescope$Table;", true)
def tyX8 : Nat → FieldType := fun k => match k with
  | 0 => .int
  | 1 => .int
  | 2 => .int
  | _ => .object "CoinTelescope$Table"
abbrev wsX80 : List Cond := u_ws RX8 TX8 4
theorem nmX8 : ∀ a, a < 4 → ∀ b, b < 4 → a ≠ b → (TX8 a).2.1 ≠ (TX8 b).2.1 := by decide +kernel
theorem tyX8_ok : ∀ k, k < 4 → parseFieldDescriptor (TX8 k).2.2.1 = some (tyX8 k) := by decide +kernel
def RX9 : String := "CoinTelescope$Told"
def TX9 : u_T := fun k => match k with
  | 0 => ("CoinTelescope$Thing", "kind", "I", true)
  | 1 => ("CoinTelescope$Thing", "number", "I", true)
  | 2 => ("CoinTelescope$Thing", "v", "I", true)
  | _ => ("CoinTelescope$Thing", "trace", "LCoinTelescope$Table;", true)
def tyX9 : Nat → FieldType := fun k => match k with
  | 0 => .int
  | 1 => .int
  | 2 => .int
  | _ => .object "CoinTelescope$Table"
abbrev wsX90 : List Cond := u_ws RX9 TX9 4
theorem nmX9 : ∀ a, a < 4 → ∀ b, b < 4 → a ≠ b → (TX9 a).2.1 ≠ (TX9 b).2.1 := by decide +kernel
theorem tyX9_ok : ∀ k, k < 4 → parseFieldDescriptor (TX9 k).2.2.1 = some (tyX9 k) := by decide +kernel
def RX10 : String := "CoinTelescope$View"
def TX10 : u_T := fun k => match k with
  | 0 => ("CoinTelescope$View", "coin", "I", false)
  | 1 => ("CoinTelescope$View", "adds", "I", false)
  | 2 => ("CoinTelescope$View", "haze", "I", false)
  | 3 => ("CoinTelescope$View", "code", "[I", true)
  | 4 => ("CoinTelescope$View", "codeSize", "I", false)
  | 5 => ("CoinTelescope$View", "amounts", "[I", true)
  | 6 => ("CoinTelescope$View", "ends", "[I", true)
  | 7 => ("CoinTelescope$View", "clauses", "I", false)
  | 8 => ("CoinTelescope$View", "signs", "[I", false)
  | _ => ("CoinTelescope$View", "at", "I", false)
def tyX10 : Nat → FieldType := fun k => match k with
  | 0 => .int
  | 1 => .int
  | 2 => .int
  | 3 => .array .int
  | 4 => .int
  | 5 => .array .int
  | 6 => .array .int
  | 7 => .int
  | 8 => .array .int
  | _ => .int
abbrev wsX100 : List Cond := u_ws RX10 TX10 10
theorem nmX10 : ∀ a, a < 10 → ∀ b, b < 10 → a ≠ b → (TX10 a).2.1 ≠ (TX10 b).2.1 := by decide +kernel
theorem tyX10_ok : ∀ k, k < 10 → parseFieldDescriptor (TX10 k).2.2.1 = some (tyX10 k) := by decide +kernel
def RX11 : String := "CoinTelescope"
def TX11 : u_T := fun k => match k with
  | 0 => ("CoinTelescope", "now", "LCoinTelescope$State;", true)
  | 1 => ("CoinTelescope", "saved", "LCoinTelescope$State;", true)
  | 2 => ("CoinTelescope", "trace", "LCoinTelescope$Table;", true)
  | 3 => ("CoinTelescope", "search", "LCoinTelescope$Search;", true)
  | _ => ("CoinTelescope", "hasImage", "Z", false)
def tyX11 : Nat → FieldType := fun k => match k with
  | 0 => .object "CoinTelescope$State"
  | 1 => .object "CoinTelescope$State"
  | 2 => .object "CoinTelescope$Table"
  | 3 => .object "CoinTelescope$Search"
  | _ => .boolean
abbrev wsX110 : List Cond := u_ws RX11 TX11 5
theorem nmX11 : ∀ a, a < 5 → ∀ b, b < 5 → a ≠ b → (TX11 a).2.1 ≠ (TX11 b).2.1 := by decide +kernel
theorem tyX11_ok : ∀ k, k < 5 → parseFieldDescriptor (TX11 k).2.2.1 = some (tyX11 k) := by decide +kernel
def RX12 : String := "CoinTelescopeModel"
def TX12 : u_T := fun k => match k with
  | 0 => ("CoinTelescopeModel", "thrown", "I", false)
  | 1 => ("CoinTelescopeModel", "s", "[I", true)
  | 2 => ("CoinTelescopeModel", "image", "[I", true)
  | 3 => ("CoinTelescopeModel", "frame", "[I", true)
  | 4 => ("CoinTelescopeModel", "hasImage", "Z", false)
  | 5 => ("CoinTelescopeModel", "haze", "I", false)
  | 6 => ("CoinTelescopeModel", "act", "I", false)
  | 7 => ("CoinTelescopeModel", "spot", "I", false)
  | 8 => ("CoinTelescopeModel", "end", "I", false)
  | 9 => ("CoinTelescopeModel", "isWrong", "Z", false)
  | 10 => ("CoinTelescopeModel", "open", "I", false)
  | 11 => ("CoinTelescopeModel", "by", "[I", true)
  | 12 => ("CoinTelescopeModel", "truths", "[Z", true)
  | 13 => ("CoinTelescopeModel", "bestRow", "I", false)
  | 14 => ("CoinTelescopeModel", "bestGain", "I", false)
  | 15 => ("CoinTelescopeModel", "order", "[I", true)
  | 16 => ("CoinTelescopeModel", "bestOrder", "[I", true)
  | 17 => ("CoinTelescopeModel", "leastTicks", "I", false)
  | 18 => ("CoinTelescopeModel", "bodies", "[I", true)
  | 19 => ("CoinTelescopeModel", "ran", "I", false)
  | 20 => ("CoinTelescopeModel", "kind", "I", false)
  | 21 => ("CoinTelescopeModel", "number", "I", false)
  | _ => ("CoinTelescopeModel", "tellsV", "I", false)
def tyX12 : Nat → FieldType := fun k => match k with
  | 0 => .int
  | 1 => .array .int
  | 2 => .array .int
  | 3 => .array .int
  | 4 => .boolean
  | 5 => .int
  | 6 => .int
  | 7 => .int
  | 8 => .int
  | 9 => .boolean
  | 10 => .int
  | 11 => .array .int
  | 12 => .array .boolean
  | 13 => .int
  | 14 => .int
  | 15 => .array .int
  | 16 => .array .int
  | 17 => .int
  | 18 => .array .int
  | 19 => .int
  | 20 => .int
  | 21 => .int
  | _ => .int
abbrev wsX120 : List Cond := u_ws RX12 TX12 23
theorem nmX12 : ∀ a, a < 23 → ∀ b, b < 23 → a ≠ b → (TX12 a).2.1 ≠ (TX12 b).2.1 := by decide +kernel
theorem tyX12_ok : ∀ k, k < 23 → parseFieldDescriptor (TX12 k).2.2.1 = some (tyX12 k) := by decide +kernel
abbrev vwCl : List vw_C := [(RX0, TX0, 4), (RX1, TX1, 4), (RX2, TX2, 4), (RX3, TX3, 10), (RX4, TX4, 4), (RX5, TX5, 4), (RX6, TX6, 17), (RX7, TX7, 4), (RX8, TX8, 4), (RX9, TX9, 4), (RX10, TX10, 10), (RX11, TX11, 5), (RX12, TX12, 23)]
end
section
/-! ===== methods and their code, printed by wip/whole/gen/gen1.py: y is a method's place in mT ===== -/
def sTexts : List (List Int) := [[99, 111, 105, 110, 97, 100, 100, 115, 104, 97, 122, 101, 100, 101, 97, 114, 100, 117, 108, 108], [112, 107, 118, 99, 116, 108], [60, 61, 62], [99, 111, 105, 110, 32], [97, 100, 100, 115, 32], [104, 97, 122, 101, 32], [101, 97, 114, 32], [117, 108, 108, 32]]
def thg (c : Nat) : Bool := c == 1 || c == 2 || c == 3 || c == 5 || c == 6 || c == 9 || c == 10
def rfT : List (List Bool) := [[false, false, false, true], [false, false, false, true], [false, false, false, true], [true, true, true, true, true, false, true, true, false, false], [false, false, false, true], [false, false, false, true], [true, true, false, false, true, true, true, false, false, false, false, false, false, true, true, true, true], [false, false, true, false], [false, false, false, true], [false, false, false, true], [false, false, false, true, false, true, true, false, true, false], [true, true, true, true, false], [false, true, true, true, false, false, false, false, false, false, false, true, true, false, false, true, true, false, true, false, false, false, false]]
def mT : List (MethodName × ByteArray × Nat × Option FieldType) := [
  (⟨"CoinTelescopeModel", "<init>", "()V"⟩, prog_14_method_1_code, 1, (Option.none : Option Jvm.ClassFile.FieldType)),
  (⟨"CoinTelescopeModel", "in", "(III)Z"⟩, prog_14_method_3_code, 3, (Option.some Jvm.ClassFile.FieldType.boolean)),
  (⟨"CoinTelescopeModel", "size", "(I)I"⟩, prog_14_method_4_code, 1, (Option.some Jvm.ClassFile.FieldType.int)),
  (⟨"CoinTelescopeModel", "isCell", "(I)Z"⟩, prog_14_method_5_code, 1, (Option.some Jvm.ClassFile.FieldType.boolean)),
  (⟨"CoinTelescopeModel", "far", "(II)I"⟩, prog_14_method_6_code, 2, (Option.some Jvm.ClassFile.FieldType.int)),
  (⟨"CoinTelescopeModel", "isThing", "(I)Z"⟩, prog_14_method_7_code, 2, (Option.some Jvm.ClassFile.FieldType.boolean)),
  (⟨"CoinTelescopeModel", "asItIs", "()V"⟩, prog_14_method_8_code, 1, (Option.none : Option Jvm.ClassFile.FieldType)),
  (⟨"CoinTelescopeModel", "keeps", "()V"⟩, prog_14_method_9_code, 2, (Option.none : Option Jvm.ClassFile.FieldType)),
  (⟨"CoinTelescopeModel", "goesBack", "()V"⟩, prog_14_method_10_code, 2, (Option.none : Option Jvm.ClassFile.FieldType)),
  (⟨"CoinTelescopeModel", "feed", "(I)I"⟩, prog_14_method_11_code, 2, (Option.some Jvm.ClassFile.FieldType.int)),
  (⟨"CoinTelescopeModel", "here", "()I"⟩, prog_14_method_12_code, 1, (Option.some Jvm.ClassFile.FieldType.int)),
  (⟨"CoinTelescopeModel", "must", "(I)V"⟩, prog_14_method_13_code, 2, (Option.none : Option Jvm.ClassFile.FieldType)),
  (⟨"CoinTelescopeModel", "spells", "(Ljava/lang/String;)V"⟩, prog_14_method_14_code, 3, (Option.none : Option Jvm.ClassFile.FieldType)),
  (⟨"CoinTelescopeModel", "figures", "()I"⟩, prog_14_method_15_code, 3, (Option.some Jvm.ClassFile.FieldType.int)),
  (⟨"CoinTelescopeModel", "among", "(Ljava/lang/String;)I"⟩, prog_14_method_16_code, 3, (Option.some Jvm.ClassFile.FieldType.int)),
  (⟨"CoinTelescopeModel", "emits", "(I)V"⟩, prog_14_method_17_code, 2, (Option.none : Option Jvm.ClassFile.FieldType)),
  (⟨"CoinTelescopeModel", "factor", "()V"⟩, prog_14_method_18_code, 5, (Option.none : Option Jvm.ClassFile.FieldType)),
  (⟨"CoinTelescopeModel", "every", "()V"⟩, prog_14_method_19_code, 1, (Option.none : Option Jvm.ClassFile.FieldType)),
  (⟨"CoinTelescopeModel", "some", "()V"⟩, prog_14_method_20_code, 1, (Option.none : Option Jvm.ClassFile.FieldType)),
  (⟨"CoinTelescopeModel", "much", "(ILjava/lang/String;)V"⟩, prog_14_method_21_code, 4, (Option.none : Option Jvm.ClassFile.FieldType)),
  (⟨"CoinTelescopeModel", "tellsHere", "(ILjava/lang/String;)V"⟩, prog_14_method_22_code, 4, (Option.none : Option Jvm.ClassFile.FieldType)),
  (⟨"CoinTelescopeModel", "wordOfD", "()V"⟩, prog_14_method_23_code, 1, (Option.none : Option Jvm.ClassFile.FieldType)),
  (⟨"CoinTelescopeModel", "clauseHere", "()V"⟩, prog_14_method_24_code, 1, (Option.none : Option Jvm.ClassFile.FieldType)),
  (⟨"CoinTelescopeModel", "view", "()I"⟩, prog_14_method_25_code, 2, (Option.some Jvm.ClassFile.FieldType.int)),
  (⟨"CoinTelescopeModel", "tellsOf", "(II)I"⟩, prog_14_method_26_code, 3, (Option.some Jvm.ClassFile.FieldType.int)),
  (⟨"CoinTelescopeModel", "coin", "()I"⟩, prog_14_method_27_code, 2, (Option.some Jvm.ClassFile.FieldType.int)),
  (⟨"CoinTelescopeModel", "isAt", "(II)I"⟩, prog_14_method_28_code, 4, (Option.some Jvm.ClassFile.FieldType.int)),
  (⟨"CoinTelescopeModel", "isDim", "(II)Z"⟩, prog_14_method_29_code, 3, (Option.some Jvm.ClassFile.FieldType.boolean)),
  (⟨"CoinTelescopeModel", "baseOf", "(II)I"⟩, prog_14_method_30_code, 12, (Option.some Jvm.ClassFile.FieldType.int)),
  (⟨"CoinTelescopeModel", "worthOf", "(II)I"⟩, prog_14_method_31_code, 5, (Option.some Jvm.ClassFile.FieldType.int)),
  (⟨"CoinTelescopeModel", "thing", "(III)I"⟩, prog_14_method_32_code, 6, (Option.some Jvm.ClassFile.FieldType.int)),
  (⟨"CoinTelescopeModel", "of", "(II)I"⟩, prog_14_method_33_code, 3, (Option.some Jvm.ClassFile.FieldType.int)),
  (⟨"CoinTelescopeModel", "then", "(III)I"⟩, prog_14_method_34_code, 5, (Option.some Jvm.ClassFile.FieldType.int)),
  (⟨"CoinTelescopeModel", "becomes", "(II)I"⟩, prog_14_method_35_code, 4, (Option.some Jvm.ClassFile.FieldType.int)),
  (⟨"CoinTelescopeModel", "row", "(III)I"⟩, prog_14_method_36_code, 4, (Option.some Jvm.ClassFile.FieldType.int)),
  (⟨"CoinTelescopeModel", "move", "(II)I"⟩, prog_14_method_37_code, 3, (Option.some Jvm.ClassFile.FieldType.int)),
  (⟨"CoinTelescopeModel", "had", "(IZ)I"⟩, prog_14_method_38_code, 3, (Option.some Jvm.ClassFile.FieldType.int)),
  (⟨"CoinTelescopeModel", "point", "(I)I"⟩, prog_14_method_39_code, 2, (Option.some Jvm.ClassFile.FieldType.int)),
  (⟨"CoinTelescopeModel", "hadOnes", "()I"⟩, prog_14_method_40_code, 3, (Option.some Jvm.ClassFile.FieldType.int)),
  (⟨"CoinTelescopeModel", "lost", "()I"⟩, prog_14_method_41_code, 2, (Option.some Jvm.ClassFile.FieldType.int)),
  (⟨"CoinTelescopeModel", "told", "(I)I"⟩, prog_14_method_42_code, 2, (Option.some Jvm.ClassFile.FieldType.int)),
  (⟨"CoinTelescopeModel", "pay", "()I"⟩, prog_14_method_43_code, 2, (Option.some Jvm.ClassFile.FieldType.int)),
  (⟨"CoinTelescopeModel", "brought", "(II)I"⟩, prog_14_method_44_code, 2, (Option.some Jvm.ClassFile.FieldType.int)),
  (⟨"CoinTelescopeModel", "goes", "(I)I"⟩, prog_14_method_45_code, 5, (Option.some Jvm.ClassFile.FieldType.int)),
  (⟨"CoinTelescopeModel", "tick", "(I)I"⟩, prog_14_method_46_code, 3, (Option.some Jvm.ClassFile.FieldType.int)),
  (⟨"CoinTelescopeModel", "pass", "(I)I"⟩, prog_14_method_47_code, 2, (Option.some Jvm.ClassFile.FieldType.int)),
  (⟨"CoinTelescopeModel", "power", "(I)I"⟩, prog_14_method_48_code, 3, (Option.some Jvm.ClassFile.FieldType.int)),
  (⟨"CoinTelescopeModel", "looksFor", "(I)V"⟩, prog_14_method_49_code, 5, (Option.none : Option Jvm.ClassFile.FieldType)),
  (⟨"CoinTelescopeModel", "look", "(II)I"⟩, prog_14_method_50_code, 3, (Option.some Jvm.ClassFile.FieldType.int)),
  (⟨"CoinTelescopeModel", "aim", "(II)I"⟩, prog_14_method_51_code, 7, (Option.some Jvm.ClassFile.FieldType.int)),
  (⟨"CoinTelescopeModel", "ticksTo", "(III)I"⟩, prog_14_method_52_code, 5, (Option.some Jvm.ClassFile.FieldType.int)),
  (⟨"CoinTelescopeModel", "soon", "(I)I"⟩, prog_14_method_53_code, 3, (Option.some Jvm.ClassFile.FieldType.int)),
  (⟨"CoinTelescopeModel", "ordersFrom", "(IIII)V"⟩, prog_14_method_54_code, 7, (Option.none : Option Jvm.ClassFile.FieldType)),
  (⟨"CoinTelescopeModel", "order", "(I)I"⟩, prog_14_method_55_code, 5, (Option.some Jvm.ClassFile.FieldType.int)),
  (⟨"CoinTelescopeModel", "stood", "(III)I"⟩, prog_14_method_56_code, 4, (Option.some Jvm.ClassFile.FieldType.int)),
  (⟨"CoinTelescopeModel", "areAsTold", "(I)Z"⟩, prog_14_method_57_code, 4, (Option.some Jvm.ClassFile.FieldType.boolean)),
  (⟨"CoinTelescopeModel", "from", "(I)I"⟩, prog_14_method_58_code, 5, (Option.some Jvm.ClassFile.FieldType.int)),
  (⟨"CoinTelescopeModel", "firm", "(II)I"⟩, prog_14_method_59_code, 8, (Option.some Jvm.ClassFile.FieldType.int)),
  (⟨"CoinTelescopeModel", "lowest", "(JJI)J"⟩, prog_14_method_60_code, 11, (Option.some Jvm.ClassFile.FieldType.long)),
  (⟨"CoinTelescopeModel", "odds", "(III)J"⟩, prog_14_method_61_code, 6, (Option.some Jvm.ClassFile.FieldType.long)),
  (⟨"CoinTelescopeModel", "mean", "(I)J"⟩, prog_14_method_62_code, 8, (Option.some Jvm.ClassFile.FieldType.long)),
  (⟨"CoinTelescopeModel", "plan", "(I)I"⟩, prog_14_method_63_code, 2, (Option.some Jvm.ClassFile.FieldType.int)),
  (⟨"CoinTelescopeModel", "done", "(I)I"⟩, prog_14_method_64_code, 5, (Option.some Jvm.ClassFile.FieldType.int)),
  (⟨"CoinTelescopeModel", "book", "(II)I"⟩, prog_14_method_65_code, 3, (Option.some Jvm.ClassFile.FieldType.int)),
  (⟨"CoinTelescopeModel", "looked", "()I"⟩, prog_14_method_66_code, 2, (Option.some Jvm.ClassFile.FieldType.int)),
  (⟨"CoinTelescopeModel", "ranBody", "(I)V"⟩, prog_14_method_67_code, 2, (Option.none : Option Jvm.ClassFile.FieldType)),
  (⟨"CoinTelescopeModel", "isUnder", "(II)Z"⟩, prog_14_method_68_code, 2, (Option.some Jvm.ClassFile.FieldType.boolean)),
  (⟨"CoinTelescopeModel", "plainShows", "(I)I"⟩, prog_14_method_69_code, 2, (Option.some Jvm.ClassFile.FieldType.int)),
  (⟨"CoinTelescopeModel", "showsActs", "(I)I"⟩, prog_14_method_70_code, 2, (Option.some Jvm.ClassFile.FieldType.int)),
  (⟨"CoinTelescopeModel", "plainShakes", "(I)I"⟩, prog_14_method_71_code, 2, (Option.some Jvm.ClassFile.FieldType.int)),
  (⟨"CoinTelescopeModel", "shakesActs", "(I)I"⟩, prog_14_method_72_code, 2, (Option.some Jvm.ClassFile.FieldType.int)),
  (⟨"CoinTelescopeModel", "plainTelling", "(I)I"⟩, prog_14_method_73_code, 2, (Option.some Jvm.ClassFile.FieldType.int)),
  (⟨"CoinTelescopeModel", "tellsActs", "(I)I"⟩, prog_14_method_74_code, 3, (Option.some Jvm.ClassFile.FieldType.int)),
  (⟨"CoinTelescopeModel", "act", "(III)I"⟩, prog_14_method_75_code, 4, (Option.some Jvm.ClassFile.FieldType.int)),
  (⟨"CoinTelescopeModel", "trace", "(I)I"⟩, prog_14_method_76_code, 2, (Option.some Jvm.ClassFile.FieldType.int)),
  (⟨"CoinTelescopeModel", "as", "(II)I"⟩, prog_14_method_77_code, 3, (Option.some Jvm.ClassFile.FieldType.int)),
  (⟨"CoinTelescopeModel", "image", "()I"⟩, prog_14_method_78_code, 2, (Option.some Jvm.ClassFile.FieldType.int)),
  (⟨"CoinTelescopeModel", "undo", "()I"⟩, prog_14_method_79_code, 2, (Option.some Jvm.ClassFile.FieldType.int)),
  (⟨"CoinTelescopeModel", "count", "(I)I"⟩, prog_14_method_80_code, 2, (Option.some Jvm.ClassFile.FieldType.int)),
  (⟨"CoinTelescope$Table", "<init>", "(II)V"⟩, prog_9_method_1_code, 3, (Option.none : Option Jvm.ClassFile.FieldType)),
  (⟨"CoinTelescope$Table", "size", "()I"⟩, prog_9_method_2_code, 1, (Option.some Jvm.ClassFile.FieldType.int)),
  (⟨"CoinTelescope$Table", "isFull", "()Z"⟩, prog_9_method_3_code, 1, (Option.some Jvm.ClassFile.FieldType.boolean)),
  (⟨"CoinTelescope$Table", "clear", "()I"⟩, prog_9_method_4_code, 1, (Option.some Jvm.ClassFile.FieldType.int)),
  (⟨"CoinTelescope$Table", "add", "(III)I"⟩, prog_9_method_5_code, 5, (Option.some Jvm.ClassFile.FieldType.int)),
  (⟨"CoinTelescope$Table", "get", "(II)I"⟩, prog_9_method_6_code, 4, (Option.some Jvm.ClassFile.FieldType.int)),
  (⟨"CoinTelescope$Table", "firstColumn", "()[I"⟩, prog_9_method_7_code, 3, (Option.some (Jvm.ClassFile.FieldType.array Jvm.ClassFile.FieldType.int))),
  (⟨"CoinTelescope$Table", "becomeAs", "(LCoinTelescope$Table;)V"⟩, prog_9_method_8_code, 2, (Option.none : Option Jvm.ClassFile.FieldType)),
  (⟨"CoinTelescope$Thing", "<init>", "(IIILCoinTelescope$Table;)V"⟩, prog_10_method_1_code, 5, (Option.none : Option Jvm.ClassFile.FieldType)),
  (⟨"CoinTelescope$Thing", "placeOn", "(IIII)I"⟩, prog_10_method_2_code, 5, (Option.some Jvm.ClassFile.FieldType.int)),
  (⟨"CoinTelescope$Thing", "isDim", "(II)Z"⟩, prog_10_method_3_code, 3, (Option.some Jvm.ClassFile.FieldType.boolean)),
  (⟨"CoinTelescope$Thing", "worthBy", "(II)I"⟩, prog_10_method_4_code, 3, (Option.some Jvm.ClassFile.FieldType.int)),
  (⟨"CoinTelescope$Thing", "shows", "(I)I"⟩, prog_10_method_5_code, 2, (Option.some Jvm.ClassFile.FieldType.int)),
  (⟨"CoinTelescope$Thing", "shakes", "(I)I"⟩, prog_10_method_6_code, 2, (Option.some Jvm.ClassFile.FieldType.int)),
  (⟨"CoinTelescope$Thing", "tells", "(I)I"⟩, prog_10_method_7_code, 2, (Option.some Jvm.ClassFile.FieldType.int)),
  (⟨"CoinTelescope$Bird", "<init>", "(IIILCoinTelescope$Table;)V"⟩, prog_2_method_1_code, 5, (Option.none : Option Jvm.ClassFile.FieldType)),
  (⟨"CoinTelescope$Bird", "placeOn", "(IIII)I"⟩, prog_2_method_2_code, 5, (Option.some Jvm.ClassFile.FieldType.int)),
  (⟨"CoinTelescope$Bird", "worthBy", "(II)I"⟩, prog_2_method_3_code, 3, (Option.some Jvm.ClassFile.FieldType.int)),
  (⟨"CoinTelescope$Bird", "tells", "(I)I"⟩, prog_2_method_4_code, 2, (Option.some Jvm.ClassFile.FieldType.int)),
  (⟨"CoinTelescope$Boat", "<init>", "(IIILCoinTelescope$Table;)V"⟩, prog_3_method_1_code, 5, (Option.none : Option Jvm.ClassFile.FieldType)),
  (⟨"CoinTelescope$Boat", "placeOn", "(IIII)I"⟩, prog_3_method_2_code, 6, (Option.some Jvm.ClassFile.FieldType.int)),
  (⟨"CoinTelescope$Boat", "worthBy", "(II)I"⟩, prog_3_method_3_code, 3, (Option.some Jvm.ClassFile.FieldType.int)),
  (⟨"CoinTelescope$Boat", "shows", "(I)I"⟩, prog_3_method_4_code, 2, (Option.some Jvm.ClassFile.FieldType.int)),
  (⟨"CoinTelescope$House", "<init>", "(IIILCoinTelescope$Table;)V"⟩, prog_4_method_1_code, 5, (Option.none : Option Jvm.ClassFile.FieldType)),
  (⟨"CoinTelescope$House", "worthBy", "(II)I"⟩, prog_4_method_2_code, 3, (Option.some Jvm.ClassFile.FieldType.int)),
  (⟨"CoinTelescope$House", "shakes", "(I)I"⟩, prog_4_method_3_code, 2, (Option.some Jvm.ClassFile.FieldType.int)),
  (⟨"CoinTelescope$Ship", "<init>", "(IIILCoinTelescope$Table;)V"⟩, prog_6_method_1_code, 5, (Option.none : Option Jvm.ClassFile.FieldType)),
  (⟨"CoinTelescope$Ship", "placeOn", "(IIII)I"⟩, prog_6_method_2_code, 5, (Option.some Jvm.ClassFile.FieldType.int)),
  (⟨"CoinTelescope$Ship", "worthBy", "(II)I"⟩, prog_6_method_3_code, 4, (Option.some Jvm.ClassFile.FieldType.int)),
  (⟨"CoinTelescope$Ship", "tells", "(I)I"⟩, prog_6_method_4_code, 2, (Option.some Jvm.ClassFile.FieldType.int)),
  (⟨"CoinTelescope$Spire", "<init>", "(IIILCoinTelescope$Table;)V"⟩, prog_7_method_1_code, 5, (Option.none : Option Jvm.ClassFile.FieldType)),
  (⟨"CoinTelescope$Spire", "isDim", "(II)Z"⟩, prog_7_method_2_code, 3, (Option.some Jvm.ClassFile.FieldType.boolean)),
  (⟨"CoinTelescope$Spire", "worthBy", "(II)I"⟩, prog_7_method_3_code, 3, (Option.some Jvm.ClassFile.FieldType.int)),
  (⟨"CoinTelescope$Spire", "shows", "(I)I"⟩, prog_7_method_4_code, 2, (Option.some Jvm.ClassFile.FieldType.int)),
  (⟨"CoinTelescope$Told", "<init>", "(IIILCoinTelescope$Table;)V"⟩, prog_11_method_1_code, 5, (Option.none : Option Jvm.ClassFile.FieldType)),
  (⟨"CoinTelescope$Told", "placeOn", "(IIII)I"⟩, prog_11_method_2_code, 5, (Option.some Jvm.ClassFile.FieldType.int)),
  (⟨"CoinTelescope$Told", "worthBy", "(II)I"⟩, prog_11_method_3_code, 3, (Option.some Jvm.ClassFile.FieldType.int)),
  (⟨"CoinTelescope$Told", "shakes", "(I)I"⟩, prog_11_method_4_code, 2, (Option.some Jvm.ClassFile.FieldType.int)),
  (⟨"CoinTelescope$View", "<init>", "()V"⟩, prog_12_method_1_code, 1, (Option.none : Option Jvm.ClassFile.FieldType)),
  (⟨"CoinTelescope$View", "readFrom", "([I)I"⟩, prog_12_method_2_code, 3, (Option.some Jvm.ClassFile.FieldType.int)),
  (⟨"CoinTelescope$View", "readClause", "()Z"⟩, prog_12_method_3_code, 3, (Option.some Jvm.ClassFile.FieldType.boolean)),
  (⟨"CoinTelescope$View", "readWord", "()I"⟩, prog_12_method_4_code, 4, (Option.some Jvm.ClassFile.FieldType.int)),
  (⟨"CoinTelescope$View", "sameSigns", "(I)I"⟩, prog_12_method_5_code, 3, (Option.some Jvm.ClassFile.FieldType.int)),
  (⟨"CoinTelescope$View", "readNumber", "()I"⟩, prog_12_method_6_code, 3, (Option.some Jvm.ClassFile.FieldType.int)),
  (⟨"CoinTelescope$View", "readJoined", "(II)Z"⟩, prog_12_method_7_code, 5, (Option.some Jvm.ClassFile.FieldType.boolean)),
  (⟨"CoinTelescope$View", "readOne", "(I)Z"⟩, prog_12_method_8_code, 3, (Option.some Jvm.ClassFile.FieldType.boolean)),
  (⟨"CoinTelescope$View", "readTest", "()Z"⟩, prog_12_method_9_code, 4, (Option.some Jvm.ClassFile.FieldType.boolean)),
  (⟨"CoinTelescope$View", "readPlaceIn", "(Ljava/lang/String;)I"⟩, prog_12_method_10_code, 4, (Option.some Jvm.ClassFile.FieldType.int)),
  (⟨"CoinTelescope$View", "take", "(C)Z"⟩, prog_12_method_11_code, 3, (Option.some Jvm.ClassFile.FieldType.boolean)),
  (⟨"CoinTelescope$View", "next", "()I"⟩, prog_12_method_12_code, 1, (Option.some Jvm.ClassFile.FieldType.int)),
  (⟨"CoinTelescope$View", "emit", "(I)V"⟩, prog_12_method_13_code, 2, (Option.none : Option Jvm.ClassFile.FieldType)),
  (⟨"CoinTelescope$View", "keepCondition", "(I)V"⟩, prog_12_method_14_code, 2, (Option.none : Option Jvm.ClassFile.FieldType)),
  (⟨"CoinTelescope$View", "baseBy", "([I)I"⟩, prog_12_method_15_code, 5, (Option.some Jvm.ClassFile.FieldType.int)),
  (⟨"CoinTelescope$View", "holds", "(II[I)Z"⟩, prog_12_method_16_code, 7, (Option.some Jvm.ClassFile.FieldType.boolean)),
  (⟨"CoinTelescope$View", "testHolds", "(I[I)Z"⟩, prog_12_method_17_code, 5, (Option.some Jvm.ClassFile.FieldType.boolean)),
  (⟨"CoinTelescope$State", "<init>", "()V"⟩, prog_8_method_1_code, 1, (Option.none : Option Jvm.ClassFile.FieldType)),
  (⟨"CoinTelescope$State", "find", "(I)LCoinTelescope$Thing;"⟩, prog_8_method_2_code, 2, (Option.some (Jvm.ClassFile.FieldType.object "CoinTelescope$Thing"))),
  (⟨"CoinTelescope$State", "put", "(LCoinTelescope$Thing;I)I"⟩, prog_8_method_3_code, 4, (Option.some Jvm.ClassFile.FieldType.int)),
  (⟨"CoinTelescope$State", "homeOf", "(I)I"⟩, prog_8_method_4_code, 2, (Option.some Jvm.ClassFile.FieldType.int)),
  (⟨"CoinTelescope$State", "changeHome", "(II)I"⟩, prog_8_method_5_code, 4, (Option.some Jvm.ClassFile.FieldType.int)),
  (⟨"CoinTelescope$State", "rowNumber", "(II)I"⟩, prog_8_method_6_code, 4, (Option.some Jvm.ClassFile.FieldType.int)),
  (⟨"CoinTelescope$State", "changeRow", "(III)I"⟩, prog_8_method_7_code, 6, (Option.some Jvm.ClassFile.FieldType.int)),
  (⟨"CoinTelescope$State", "isHad", "(I)Z"⟩, prog_8_method_8_code, 2, (Option.some Jvm.ClassFile.FieldType.boolean)),
  (⟨"CoinTelescope$State", "cellOn", "(LCoinTelescope$Thing;I)I"⟩, prog_8_method_9_code, 3, (Option.some Jvm.ClassFile.FieldType.int)),
  (⟨"CoinTelescope$State", "baseOn", "(LCoinTelescope$Thing;II)I"⟩, prog_8_method_10_code, 4, (Option.some Jvm.ClassFile.FieldType.int)),
  (⟨"CoinTelescope$State", "worthOn", "(LCoinTelescope$Thing;II)I"⟩, prog_8_method_11_code, 4, (Option.some Jvm.ClassFile.FieldType.int)),
  (⟨"CoinTelescope$State", "stoodIsSo", "(LCoinTelescope$Thing;II)Z"⟩, prog_8_method_12_code, 7, (Option.some Jvm.ClassFile.FieldType.boolean)),
  (⟨"CoinTelescope$State", "becomeAs", "(LCoinTelescope$State;)V"⟩, prog_8_method_13_code, 3, (Option.none : Option Jvm.ClassFile.FieldType)),
  (⟨"CoinTelescope$Search", "<init>", "(LCoinTelescope$State;)V"⟩, prog_5_method_1_code, 2, (Option.none : Option Jvm.ClassFile.FieldType)),
  (⟨"CoinTelescope$Search", "foresee", "(II)V"⟩, prog_5_method_2_code, 10, (Option.none : Option Jvm.ClassFile.FieldType)),
  (⟨"CoinTelescope$Search", "seenAt", "(II)I"⟩, prog_5_method_3_code, 4, (Option.some Jvm.ClassFile.FieldType.int)),
  (⟨"CoinTelescope$Search", "gainAt", "(III)I"⟩, prog_5_method_4_code, 8, (Option.some Jvm.ClassFile.FieldType.int)),
  (⟨"CoinTelescope$Search", "mostFrom", "(II)I"⟩, prog_5_method_5_code, 3, (Option.some Jvm.ClassFile.FieldType.int)),
  (⟨"CoinTelescope$Search", "tryDoings", "(IIIII)V"⟩, prog_5_method_6_code, 10, (Option.none : Option Jvm.ClassFile.FieldType)),
  (⟨"CoinTelescope$Search", "bestDoing", "(I)I"⟩, prog_5_method_7_code, 2, (Option.some Jvm.ClassFile.FieldType.int)),
  (⟨"CoinTelescope$Search", "soonFrom", "(LCoinTelescope$Thing;II)I"⟩, prog_5_method_8_code, 6, (Option.some Jvm.ClassFile.FieldType.int)),
  (⟨"CoinTelescope$Search", "fewestTicks", "()I"⟩, prog_5_method_9_code, 2, (Option.some Jvm.ClassFile.FieldType.int)),
  (⟨"CoinTelescope$Search", "tryThings", "(IIII)V"⟩, prog_5_method_10_code, 9, (Option.none : Option Jvm.ClassFile.FieldType)),
  (⟨"CoinTelescope$Search", "bestThing", "(I)I"⟩, prog_5_method_11_code, 2, (Option.some Jvm.ClassFile.FieldType.int)),
  (⟨"CoinTelescope", "<init>", "()V"⟩, prog_1_method_1_code, 1, (Option.none : Option Jvm.ClassFile.FieldType)),
  (⟨"CoinTelescope", "feed", "(I)I"⟩, prog_1_method_2_code, 2, (Option.some Jvm.ClassFile.FieldType.int)),
  (⟨"CoinTelescope", "view", "()I"⟩, prog_1_method_3_code, 3, (Option.some Jvm.ClassFile.FieldType.int)),
  (⟨"CoinTelescope", "thing", "(III)I"⟩, prog_1_method_4_code, 4, (Option.some Jvm.ClassFile.FieldType.int)),
  (⟨"CoinTelescope", "of", "(II)I"⟩, prog_1_method_5_code, 4, (Option.some Jvm.ClassFile.FieldType.int)),
  (⟨"CoinTelescope", "then", "(III)I"⟩, prog_1_method_6_code, 7, (Option.some Jvm.ClassFile.FieldType.int)),
  (⟨"CoinTelescope", "row", "(III)I"⟩, prog_1_method_7_code, 5, (Option.some Jvm.ClassFile.FieldType.int)),
  (⟨"CoinTelescope", "move", "(II)I"⟩, prog_1_method_8_code, 3, (Option.some Jvm.ClassFile.FieldType.int)),
  (⟨"CoinTelescope", "had", "(IZ)I"⟩, prog_1_method_9_code, 5, (Option.some Jvm.ClassFile.FieldType.int)),
  (⟨"CoinTelescope", "point", "(I)I"⟩, prog_1_method_10_code, 3, (Option.some Jvm.ClassFile.FieldType.int)),
  (⟨"CoinTelescope", "told", "(I)I"⟩, prog_1_method_11_code, 2, (Option.some Jvm.ClassFile.FieldType.int)),
  (⟨"CoinTelescope", "pay", "()I"⟩, prog_1_method_12_code, 2, (Option.some Jvm.ClassFile.FieldType.int)),
  (⟨"CoinTelescope", "tick", "(I)I"⟩, prog_1_method_13_code, 3, (Option.some Jvm.ClassFile.FieldType.int)),
  (⟨"CoinTelescope", "pass", "(I)I"⟩, prog_1_method_14_code, 2, (Option.some Jvm.ClassFile.FieldType.int)),
  (⟨"CoinTelescope", "look", "(II)I"⟩, prog_1_method_15_code, 4, (Option.some Jvm.ClassFile.FieldType.int)),
  (⟨"CoinTelescope", "aim", "(II)I"⟩, prog_1_method_16_code, 7, (Option.some Jvm.ClassFile.FieldType.int)),
  (⟨"CoinTelescope", "soon", "(I)I"⟩, prog_1_method_17_code, 3, (Option.some Jvm.ClassFile.FieldType.int)),
  (⟨"CoinTelescope", "order", "(I)I"⟩, prog_1_method_18_code, 3, (Option.some Jvm.ClassFile.FieldType.int)),
  (⟨"CoinTelescope", "stood", "(III)I"⟩, prog_1_method_19_code, 4, (Option.some Jvm.ClassFile.FieldType.int)),
  (⟨"CoinTelescope", "from", "(I)I"⟩, prog_1_method_20_code, 5, (Option.some Jvm.ClassFile.FieldType.int)),
  (⟨"CoinTelescope", "firm", "(II)I"⟩, prog_1_method_21_code, 7, (Option.some Jvm.ClassFile.FieldType.int)),
  (⟨"CoinTelescope", "odds", "(III)J"⟩, prog_1_method_22_code, 6, (Option.some Jvm.ClassFile.FieldType.long)),
  (⟨"CoinTelescope", "mean", "(I)J"⟩, prog_1_method_23_code, 6, (Option.some Jvm.ClassFile.FieldType.long)),
  (⟨"CoinTelescope", "plan", "(I)I"⟩, prog_1_method_24_code, 2, (Option.some Jvm.ClassFile.FieldType.int)),
  (⟨"CoinTelescope", "done", "(I)I"⟩, prog_1_method_25_code, 8, (Option.some Jvm.ClassFile.FieldType.int)),
  (⟨"CoinTelescope", "book", "(II)I"⟩, prog_1_method_26_code, 3, (Option.some Jvm.ClassFile.FieldType.int)),
  (⟨"CoinTelescope", "looked", "()I"⟩, prog_1_method_27_code, 3, (Option.some Jvm.ClassFile.FieldType.int)),
  (⟨"CoinTelescope", "act", "(III)I"⟩, prog_1_method_28_code, 5, (Option.some Jvm.ClassFile.FieldType.int)),
  (⟨"CoinTelescope", "trace", "(I)I"⟩, prog_1_method_29_code, 2, (Option.some Jvm.ClassFile.FieldType.int)),
  (⟨"CoinTelescope", "as", "(II)I"⟩, prog_1_method_30_code, 4, (Option.some Jvm.ClassFile.FieldType.int)),
  (⟨"CoinTelescope", "image", "()I"⟩, prog_1_method_31_code, 1, (Option.some Jvm.ClassFile.FieldType.int)),
  (⟨"CoinTelescope", "undo", "()I"⟩, prog_1_method_32_code, 1, (Option.some Jvm.ClassFile.FieldType.int)),
  (⟨"CoinTelescope", "count", "(I)I"⟩, prog_1_method_33_code, 2, (Option.some Jvm.ClassFile.FieldType.int)),
  (⟨"CoinTelescope", "within", "(III)Z"⟩, prog_1_method_34_code, 3, (Option.some Jvm.ClassFile.FieldType.boolean)),
  (⟨"CoinTelescope", "isIn", "([II)Z"⟩, prog_1_method_35_code, 2, (Option.some Jvm.ClassFile.FieldType.boolean)),
  (⟨"CoinTelescope", "copy", "([I[I)V"⟩, prog_1_method_36_code, 2, (Option.none : Option Jvm.ClassFile.FieldType)),
  (⟨"CoinTelescope", "isCell", "(I)Z"⟩, prog_1_method_37_code, 1, (Option.some Jvm.ClassFile.FieldType.boolean)),
  (⟨"CoinTelescope", "bit", "(Z)I"⟩, prog_1_method_38_code, 1, (Option.some Jvm.ClassFile.FieldType.int)),
  (⟨"CoinTelescope", "rowOf", "(I)I"⟩, prog_1_method_39_code, 1, (Option.some Jvm.ClassFile.FieldType.int)),
  (⟨"CoinTelescope", "columnOf", "(I)I"⟩, prog_1_method_40_code, 1, (Option.some Jvm.ClassFile.FieldType.int)),
  (⟨"CoinTelescope", "far", "(II)I"⟩, prog_1_method_41_code, 2, (Option.some Jvm.ClassFile.FieldType.int)),
  (⟨"CoinTelescope", "moved", "(II)I"⟩, prog_1_method_42_code, 2, (Option.some Jvm.ClassFile.FieldType.int)),
  (⟨"CoinTelescope", "partOf", "(III)J"⟩, prog_1_method_43_code, 5, (Option.some Jvm.ClassFile.FieldType.long)),
  (⟨"CoinTelescope", "isOfKind", "(LCoinTelescope$Thing;I)Z"⟩, prog_1_method_44_code, 2, (Option.some Jvm.ClassFile.FieldType.boolean)),
  (⟨"CoinTelescope", "newThing", "(III)LCoinTelescope$Thing;"⟩, prog_1_method_45_code, 4, (Option.some (Jvm.ClassFile.FieldType.object "CoinTelescope$Thing"))),
  (⟨"CoinTelescope", "lostByACoin", "()I"⟩, prog_1_method_46_code, 1, (Option.some Jvm.ClassFile.FieldType.int)),
  (⟨"java/util/Arrays", "fill", "([II)V"⟩, prog_21_method_103_code, 4, (Option.none : Option Jvm.ClassFile.FieldType)),
  (⟨"java/lang/String", "length", "()I"⟩, prog_17_method_54_code, 1, (Option.some Jvm.ClassFile.FieldType.int)),
  (⟨"java/lang/String", "charAt", "(I)C"⟩, prog_17_method_56_code, 2, (Option.some Jvm.ClassFile.FieldType.char)),
  (⟨"java/lang/String", "indexOf", "(I)I"⟩, prog_17_method_79_code, 2, (Option.some Jvm.ClassFile.FieldType.int)),
  (⟨"java/lang/String", "indexOf", "(II)I"⟩, prog_17_method_80_code, 3, (Option.some Jvm.ClassFile.FieldType.int)),
  (⟨"java/lang/String", "coder", "()B"⟩, prog_17_method_152_code, 1, (Option.some Jvm.ClassFile.FieldType.byte)),
  (⟨"java/lang/String", "isLatin1", "()Z"⟩, prog_17_method_154_code, 1, (Option.some Jvm.ClassFile.FieldType.boolean)),
  (⟨"java/lang/String", "checkIndex", "(II)V"⟩, prog_17_method_155_code, 2, (Option.none : Option Jvm.ClassFile.FieldType)),
  (⟨"java/lang/StringLatin1", "charAt", "([BI)C"⟩, prog_18_method_2_code, 2, (Option.some Jvm.ClassFile.FieldType.char)),
  (⟨"java/lang/StringLatin1", "canEncode", "(I)Z"⟩, prog_18_method_4_code, 1, (Option.some Jvm.ClassFile.FieldType.boolean)),
  (⟨"java/lang/StringLatin1", "indexOf", "([BIII)I"⟩, prog_18_method_22_code, 4, (Option.some Jvm.ClassFile.FieldType.int)),
  (⟨"java/lang/StringLatin1", "indexOfChar", "([BIII)I"⟩, prog_18_method_23_code, 6, (Option.some Jvm.ClassFile.FieldType.int)),
  (⟨"jdk/internal/util/Preconditions", "checkIndex", "(IILjava/util/function/BiFunction;)I"⟩, prog_22_method_11_code, 3, (Option.some Jvm.ClassFile.FieldType.int)),
  (⟨"CoinTelescopeLaw", "law", "([I)Z"⟩, code, 4, ret)]
/-- CoinTelescopeModel.<init>()V -/
def c0 : List (Nat × Nat × ClassFile.Instr × List Int) := [(0, 1, .aload_n 0, [0]), (1, 4, .invokespecial 3, [0]), (4, 5, .aload_n 0, [0]), (5, 8, .sipush 919, []), (8, 10, .newarray .int, [20]), (10, 13, .putfield 9, [1, 1, 13]), (13, 14, .aload_n 0, [0]), (14, 17, .sipush 919, []), (17, 19, .newarray .int, [20]), (19, 22, .putfield 15, [2, 1, 13]), (22, 23, .aload_n 0, [0]), (23, 25, .bipush 8, []), (25, 27, .newarray .int, [20]), (27, 30, .putfield 18, [3, 1, 13]), (30, 31, .aload_n 0, [0]), (31, 33, .bipush 6, []), (33, 35, .newarray .int, [20]), (35, 38, .putfield 21, [11, 1, 13]), (38, 39, .aload_n 0, [0]), (39, 41, .bipush 64, []), (41, 43, .newarray .boolean, [21]), (43, 46, .putfield 24, [12, 1, 13]), (46, 47, .aload_n 0, [0]), (47, 49, .bipush 6, []), (49, 51, .newarray .int, [20]), (51, 54, .putfield 28, [15, 1, 13]), (54, 55, .aload_n 0, [0]), (55, 57, .bipush 6, []), (57, 59, .newarray .int, [20]), (59, 62, .putfield 31, [16, 1, 13]), (62, 63, .aload_n 0, [0]), (63, 65, .bipush 20, []), (65, 67, .newarray .int, [20]), (67, 70, .putfield 34, [18, 1, 13]), (70, 71, .aload_n 0, [0]), (71, 74, .getfield 9, [1, 1, 13]), (74, 76, .bipush 17, []), (76, 77, .iconst (-1), []), (77, 78, .iastore, []), (78, 79, .return_, [])]
/-- CoinTelescopeModel.in(III)Z -/
def c1 : List (Nat × Nat × ClassFile.Instr × List Int) := [(0, 1, .iload_n 0, [0]), (1, 2, .iload_n 1, [1]), (2, 5, .if_icmp .lt 12, [14]), (5, 6, .iload_n 0, [0]), (6, 7, .iload_n 2, [2]), (7, 10, .if_icmp .gt 7, [14]), (10, 11, .iconst 1, []), (11, 14, .goto 4, [15]), (14, 15, .iconst 0, []), (15, 16, .ireturn, [])]
/-- CoinTelescopeModel.size(I)I -/
def c2 : List (Nat × Nat × ClassFile.Instr × List Int) := [(0, 1, .iload_n 0, [0]), (1, 4, .ifCond .ge 8, [9]), (4, 5, .iload_n 0, [0]), (5, 6, .ineg, []), (6, 9, .goto 4, [10]), (9, 10, .iload_n 0, [0]), (10, 11, .ireturn, [])]
/-- CoinTelescopeModel.isCell(I)Z -/
def c3 : List (Nat × Nat × ClassFile.Instr × List Int) := [(0, 1, .iload_n 0, [0]), (1, 2, .iconst 0, []), (2, 4, .bipush 23, []), (4, 7, .invokestatic 41, [0, 3, 1]), (7, 8, .ireturn, [])]
/-- CoinTelescopeModel.far(II)I -/
def c4 : List (Nat × Nat × ClassFile.Instr × List Int) := [(0, 1, .iload_n 0, [0]), (1, 3, .bipush 6, []), (3, 4, .idiv, []), (4, 5, .iload_n 1, [1]), (5, 7, .bipush 6, []), (7, 8, .idiv, []), (8, 9, .isub, []), (9, 12, .invokestatic 45, [0, 1, 2]), (12, 13, .iload_n 0, [0]), (13, 15, .bipush 6, []), (15, 16, .irem, []), (16, 17, .iload_n 1, [1]), (17, 19, .bipush 6, []), (19, 20, .irem, []), (20, 21, .isub, []), (21, 24, .invokestatic 45, [0, 1, 2]), (24, 25, .iadd, []), (25, 26, .ireturn, [])]
/-- CoinTelescopeModel.isThing(I)Z -/
def c5 : List (Nat × Nat × ClassFile.Instr × List Int) := [(0, 1, .iload_n 1, [1]), (1, 2, .iconst 0, []), (2, 3, .aload_n 0, [0]), (3, 6, .getfield 9, [1, 1, 13]), (6, 8, .bipush 11, []), (8, 9, .iaload, []), (9, 10, .iconst 1, []), (10, 11, .isub, []), (11, 14, .invokestatic 41, [0, 3, 1]), (14, 15, .ireturn, [])]
/-- CoinTelescopeModel.asItIs()V -/
def c6 : List (Nat × Nat × ClassFile.Instr × List Int) := [(0, 1, .aload_n 0, [0]), (1, 2, .aload_n 0, [0]), (2, 5, .sipush 209, []), (5, 6, .iconst 0, []), (6, 9, .invokevirtual 49, [2, 13, 24, 0]), (9, 12, .putfield 53, [5, 0, 13]), (12, 13, .return_, [])]
/-- CoinTelescopeModel.keeps()V -/
def c7 : List (Nat × Nat × ClassFile.Instr × List Int) := [(0, 1, .iconst 0, []), (1, 2, .istore_n 1, [1]), (2, 3, .iload_n 1, [1]), (3, 5, .bipush 8, []), (5, 8, .if_icmp .ge 21, [26]), (8, 9, .aload_n 0, [0]), (9, 12, .getfield 18, [3, 1, 13]), (12, 13, .iload_n 1, [1]), (13, 14, .aload_n 0, [0]), (14, 17, .getfield 9, [1, 1, 13]), (17, 18, .iload_n 1, [1]), (18, 19, .iaload, []), (19, 20, .iastore, []), (20, 23, .iinc 1 1, [1, 1]), (23, 26, .goto (-21), [2]), (26, 27, .return_, [])]
/-- CoinTelescopeModel.goesBack()V -/
def c8 : List (Nat × Nat × ClassFile.Instr × List Int) := [(0, 1, .iconst 0, []), (1, 2, .istore_n 1, [1]), (2, 3, .iload_n 1, [1]), (3, 5, .bipush 8, []), (5, 8, .if_icmp .ge 21, [26]), (8, 9, .aload_n 0, [0]), (9, 12, .getfield 9, [1, 1, 13]), (12, 13, .iload_n 1, [1]), (13, 14, .aload_n 0, [0]), (14, 17, .getfield 18, [3, 1, 13]), (17, 18, .iload_n 1, [1]), (18, 19, .iaload, []), (19, 20, .iastore, []), (20, 23, .iinc 1 1, [1, 1]), (23, 26, .goto (-21), [2]), (26, 27, .return_, [])]
/-- CoinTelescopeModel.feed(I)I -/
def c9 : List (Nat × Nat × ClassFile.Instr × List Int) := [(0, 1, .iload_n 1, [1]), (1, 2, .iconst 0, []), (2, 4, .bipush 127, []), (4, 7, .invokestatic 41, [0, 3, 1]), (7, 10, .ifCond .ne 6, [13]), (10, 12, .bipush (-2), []), (12, 13, .ireturn, []), (13, 14, .aload_n 0, [0]), (14, 17, .getfield 9, [1, 1, 13]), (17, 19, .bipush 16, []), (19, 20, .iaload, []), (20, 22, .bipush 100, []), (22, 25, .if_icmp .ne 6, [28]), (25, 27, .bipush (-4), []), (27, 28, .ireturn, []), (28, 29, .aload_n 0, [0]), (29, 32, .getfield 9, [1, 1, 13]), (32, 34, .bipush 99, []), (34, 35, .aload_n 0, [0]), (35, 38, .getfield 9, [1, 1, 13]), (38, 40, .bipush 16, []), (40, 41, .iaload, []), (41, 42, .iadd, []), (42, 43, .iload_n 1, [1]), (43, 44, .iastore, []), (44, 45, .aload_n 0, [0]), (45, 48, .getfield 9, [1, 1, 13]), (48, 50, .bipush 16, []), (50, 51, .dup2, []), (51, 52, .iaload, []), (52, 53, .iconst 1, []), (53, 54, .iadd, []), (54, 55, .iastore, []), (55, 56, .aload_n 0, [0]), (56, 59, .getfield 9, [1, 1, 13]), (59, 61, .bipush 16, []), (61, 62, .iaload, []), (62, 63, .ireturn, [])]
/-- CoinTelescopeModel.here()I -/
def c10 : List (Nat × Nat × ClassFile.Instr × List Int) := [(0, 1, .aload_n 0, [0]), (1, 4, .getfield 56, [7, 0, 13]), (4, 5, .aload_n 0, [0]), (5, 8, .getfield 59, [8, 0, 13]), (8, 11, .if_icmp .ge 18, [26]), (11, 12, .aload_n 0, [0]), (12, 15, .getfield 9, [1, 1, 13]), (15, 17, .bipush 99, []), (17, 18, .aload_n 0, [0]), (18, 21, .getfield 56, [7, 0, 13]), (21, 22, .iadd, []), (22, 23, .iaload, []), (23, 26, .goto 4, [27]), (26, 27, .iconst (-1), []), (27, 28, .ireturn, [])]
/-- CoinTelescopeModel.must(I)V -/
def c11 : List (Nat × Nat × ClassFile.Instr × List Int) := [(0, 1, .aload_n 0, [0]), (1, 2, .aload_n 0, [0]), (2, 5, .getfield 62, [9, 2, 13]), (5, 8, .ifCond .ne 11, [16]), (8, 9, .aload_n 0, [0]), (9, 12, .invokevirtual 66, [0, 13, 10, 0]), (12, 13, .iload_n 1, [1]), (13, 16, .if_icmp .eq 7, [20]), (16, 17, .iconst 1, []), (17, 20, .goto 4, [21]), (20, 21, .iconst 0, []), (21, 24, .putfield 62, [9, 2, 13]), (24, 25, .aload_n 0, [0]), (25, 26, .dup, []), (26, 29, .getfield 56, [7, 0, 13]), (29, 30, .aload_n 0, [0]), (30, 33, .getfield 62, [9, 2, 13]), (33, 36, .ifCond .eq 7, [40]), (36, 37, .iconst 0, []), (37, 40, .goto 4, [41]), (40, 41, .iconst 1, []), (41, 42, .iadd, []), (42, 45, .putfield 56, [7, 0, 13]), (45, 46, .return_, [])]
/-- CoinTelescopeModel.spells(Ljava/lang/String;)V -/
def c12 : List (Nat × Nat × ClassFile.Instr × List Int) := [(0, 1, .iconst 0, []), (1, 2, .istore_n 2, [2]), (2, 3, .iload_n 2, [2]), (3, 4, .aload_n 1, [1]), (4, 7, .invokevirtual 70, [0, 500, 205, 0]), (7, 10, .if_icmp .ge 18, [25]), (10, 11, .aload_n 0, [0]), (11, 12, .aload_n 1, [1]), (12, 13, .iload_n 2, [2]), (13, 16, .invokevirtual 75, [1, 500, 206, 0]), (16, 19, .invokevirtual 79, [1, 13, 11, 0]), (19, 22, .iinc 2 1, [2, 1]), (22, 25, .goto (-20), [2]), (25, 26, .return_, [])]
/-- CoinTelescopeModel.figures()I -/
def c13 : List (Nat × Nat × ClassFile.Instr × List Int) := [(0, 1, .aload_n 0, [0]), (1, 2, .aload_n 0, [0]), (2, 5, .getfield 62, [9, 2, 13]), (5, 8, .ifCond .ne 17, [22]), (8, 9, .aload_n 0, [0]), (9, 12, .invokevirtual 66, [0, 13, 10, 0]), (12, 14, .bipush 48, []), (14, 16, .bipush 57, []), (16, 19, .invokestatic 41, [0, 3, 1]), (19, 22, .ifCond .ne 7, [26]), (22, 23, .iconst 1, []), (23, 26, .goto 4, [27]), (26, 27, .iconst 0, []), (27, 30, .putfield 62, [9, 2, 13]), (30, 31, .iconst 0, []), (31, 32, .istore_n 1, [1]), (32, 33, .iconst 0, []), (33, 34, .istore_n 2, [2]), (34, 35, .iload_n 2, [2]), (35, 36, .iconst 2, []), (36, 39, .if_icmp .ge 61, [97]), (39, 40, .aload_n 0, [0]), (40, 43, .getfield 62, [9, 2, 13]), (43, 46, .ifCond .ne 54, [97]), (46, 47, .aload_n 0, [0]), (47, 50, .invokevirtual 66, [0, 13, 10, 0]), (50, 52, .bipush 48, []), (52, 54, .bipush 57, []), (54, 57, .invokestatic 41, [0, 3, 1]), (57, 60, .ifCond .eq 40, [97]), (60, 61, .iload_n 2, [2]), (61, 64, .ifCond .eq 7, [68]), (64, 65, .iload_n 1, [1]), (65, 68, .ifCond .le 32, [97]), (68, 70, .bipush 10, []), (70, 71, .iload_n 1, [1]), (71, 72, .imul, []), (72, 73, .aload_n 0, [0]), (73, 76, .invokevirtual 66, [0, 13, 10, 0]), (76, 77, .iadd, []), (77, 79, .bipush 48, []), (79, 80, .isub, []), (80, 81, .istore_n 1, [1]), (81, 82, .aload_n 0, [0]), (82, 83, .dup, []), (83, 86, .getfield 56, [7, 0, 13]), (86, 87, .iconst 1, []), (87, 88, .iadd, []), (88, 91, .putfield 56, [7, 0, 13]), (91, 94, .iinc 2 1, [2, 1]), (94, 97, .goto (-60), [34]), (97, 98, .iload_n 1, [1]), (98, 99, .ireturn, [])]
/-- CoinTelescopeModel.among(Ljava/lang/String;)I -/
def c14 : List (Nat × Nat × ClassFile.Instr × List Int) := [(0, 1, .iconst 0, []), (1, 2, .istore_n 2, [2]), (2, 3, .iload_n 2, [2]), (3, 4, .aload_n 1, [1]), (4, 7, .invokevirtual 70, [0, 500, 205, 0]), (7, 10, .if_icmp .ge 33, [40]), (10, 11, .aload_n 0, [0]), (11, 14, .invokevirtual 66, [0, 13, 10, 0]), (14, 15, .aload_n 1, [1]), (15, 16, .iload_n 2, [2]), (16, 19, .invokevirtual 75, [1, 500, 206, 0]), (19, 22, .if_icmp .ne 15, [34]), (22, 23, .aload_n 0, [0]), (23, 24, .dup, []), (24, 27, .getfield 56, [7, 0, 13]), (27, 28, .iconst 1, []), (28, 29, .iadd, []), (29, 32, .putfield 56, [7, 0, 13]), (32, 33, .iload_n 2, [2]), (33, 34, .ireturn, []), (34, 37, .iinc 2 1, [2, 1]), (37, 40, .goto (-35), [2]), (40, 41, .iconst (-1), []), (41, 42, .ireturn, [])]
/-- CoinTelescopeModel.emits(I)V -/
def c15 : List (Nat × Nat × ClassFile.Instr × List Int) := [(0, 1, .aload_n 0, [0]), (1, 4, .getfield 62, [9, 2, 13]), (4, 7, .ifCond .ne 52, [56]), (7, 8, .aload_n 0, [0]), (8, 11, .getfield 9, [1, 1, 13]), (11, 14, .sipush 219, []), (14, 17, .sipush 140, []), (17, 18, .aload_n 0, [0]), (18, 21, .getfield 83, [6, 0, 13]), (21, 22, .imul, []), (22, 23, .iadd, []), (23, 24, .aload_n 0, [0]), (24, 27, .getfield 9, [1, 1, 13]), (27, 30, .sipush 214, []), (30, 31, .aload_n 0, [0]), (31, 34, .getfield 83, [6, 0, 13]), (34, 35, .iadd, []), (35, 36, .iaload, []), (36, 37, .iadd, []), (37, 38, .iload_n 1, [1]), (38, 39, .iastore, []), (39, 40, .aload_n 0, [0]), (40, 43, .getfield 9, [1, 1, 13]), (43, 46, .sipush 214, []), (46, 47, .aload_n 0, [0]), (47, 50, .getfield 83, [6, 0, 13]), (50, 51, .iadd, []), (51, 52, .dup2, []), (52, 53, .iaload, []), (53, 54, .iconst 1, []), (54, 55, .iadd, []), (55, 56, .iastore, []), (56, 57, .return_, [])]
/-- CoinTelescopeModel.factor()V -/
def c16 : List (Nat × Nat × ClassFile.Instr × List Int) := [(0, 1, .aload_n 0, [0]), (1, 4, .getfield 62, [9, 2, 13]), (4, 7, .ifCond .eq 4, [8]), (7, 8, .return_, []), (8, 9, .aload_n 0, [0]), (9, 12, .invokevirtual 66, [0, 13, 10, 0]), (12, 13, .istore_n 1, [1]), (13, 14, .iload_n 1, [1]), (14, 16, .bipush 33, []), (16, 19, .if_icmp .eq 9, [25]), (19, 20, .iload_n 1, [1]), (20, 22, .bipush 40, []), (22, 25, .if_icmp .ne 90, [112]), (25, 26, .aload_n 0, [0]), (26, 27, .aload_n 0, [0]), (27, 30, .getfield 86, [10, 0, 13]), (30, 31, .iconst 5, []), (31, 34, .if_icmp .ne 7, [38]), (34, 35, .iconst 1, []), (35, 38, .goto 4, [39]), (38, 39, .iconst 0, []), (39, 42, .putfield 62, [9, 2, 13]), (42, 43, .aload_n 0, [0]), (43, 44, .dup, []), (44, 47, .getfield 86, [10, 0, 13]), (47, 48, .iconst 1, []), (48, 49, .iadd, []), (49, 52, .putfield 86, [10, 0, 13]), (52, 53, .aload_n 0, [0]), (53, 54, .dup, []), (54, 57, .getfield 56, [7, 0, 13]), (57, 58, .aload_n 0, [0]), (58, 61, .getfield 62, [9, 2, 13]), (61, 64, .ifCond .eq 7, [68]), (64, 65, .iconst 0, []), (65, 68, .goto 4, [69]), (68, 69, .iconst 1, []), (69, 70, .iadd, []), (70, 73, .putfield 56, [7, 0, 13]), (73, 74, .iload_n 1, [1]), (74, 76, .bipush 33, []), (76, 79, .if_icmp .ne 15, [91]), (79, 80, .aload_n 0, [0]), (80, 83, .invokevirtual 89, [0, 13, 16, 0]), (83, 84, .aload_n 0, [0]), (84, 85, .iconst (-1), []), (85, 88, .invokevirtual 92, [1, 13, 15, 0]), (88, 91, .goto 13, [101]), (91, 92, .aload_n 0, [0]), (92, 95, .invokevirtual 95, [0, 13, 18, 0]), (95, 96, .aload_n 0, [0]), (96, 98, .bipush 41, []), (98, 101, .invokevirtual 79, [1, 13, 11, 0]), (101, 102, .aload_n 0, [0]), (102, 103, .dup, []), (103, 106, .getfield 86, [10, 0, 13]), (106, 107, .iconst 1, []), (107, 108, .isub, []), (108, 111, .putfield 86, [10, 0, 13]), (111, 112, .return_, []), (112, 113, .aload_n 0, [0]), (113, 115, .ldc 98, [1, 1]), (115, 118, .invokevirtual 100, [1, 13, 14, 0]), (118, 119, .istore_n 2, [2]), (119, 120, .aload_n 0, [0]), (120, 121, .iload_n 2, [2]), (121, 122, .iconst (-1), []), (122, 125, .if_icmp .ne 7, [129]), (125, 126, .iconst 1, []), (126, 129, .goto 4, [130]), (129, 130, .iconst 0, []), (130, 133, .putfield 62, [9, 2, 13]), (133, 134, .aload_n 0, [0]), (134, 137, .getfield 62, [9, 2, 13]), (137, 140, .ifCond .eq 7, [144]), (140, 141, .iconst 0, []), (141, 144, .goto 9, [150]), (144, 145, .aload_n 0, [0]), (145, 147, .ldc 104, [1, 2]), (147, 150, .invokevirtual 100, [1, 13, 14, 0]), (150, 151, .istore_n 3, [3]), (151, 152, .aload_n 0, [0]), (152, 153, .aload_n 0, [0]), (153, 156, .getfield 62, [9, 2, 13]), (156, 159, .ifCond .ne 8, [164]), (159, 160, .iload_n 3, [3]), (160, 161, .iconst (-1), []), (161, 164, .if_icmp .ne 7, [168]), (164, 165, .iconst 1, []), (165, 168, .goto 4, [169]), (168, 169, .iconst 0, []), (169, 172, .putfield 62, [9, 2, 13]), (172, 173, .aload_n 0, [0]), (173, 176, .invokevirtual 106, [0, 13, 13, 0]), (176, 178, .istore 4, [4]), (178, 179, .aload_n 0, [0]), (179, 180, .iload_n 2, [2]), (180, 182, .bipush 8, []), (182, 183, .iload_n 3, [3]), (183, 184, .imul, []), (184, 185, .iadd, []), (185, 187, .bipush 32, []), (187, 189, .iload 4, [4]), (189, 190, .imul, []), (190, 191, .iadd, []), (191, 194, .invokevirtual 92, [1, 13, 15, 0]), (194, 195, .return_, [])]
/-- CoinTelescopeModel.every()V -/
def c17 : List (Nat × Nat × ClassFile.Instr × List Int) := [(0, 1, .aload_n 0, [0]), (1, 4, .invokevirtual 89, [0, 13, 16, 0]), (4, 5, .aload_n 0, [0]), (5, 8, .getfield 62, [9, 2, 13]), (8, 11, .ifCond .ne 35, [43]), (11, 12, .aload_n 0, [0]), (12, 15, .invokevirtual 66, [0, 13, 10, 0]), (15, 17, .bipush 38, []), (17, 20, .if_icmp .ne 26, [43]), (20, 21, .aload_n 0, [0]), (21, 22, .dup, []), (22, 25, .getfield 56, [7, 0, 13]), (25, 26, .iconst 1, []), (26, 27, .iadd, []), (27, 30, .putfield 56, [7, 0, 13]), (30, 31, .aload_n 0, [0]), (31, 34, .invokevirtual 89, [0, 13, 16, 0]), (34, 35, .aload_n 0, [0]), (35, 37, .bipush (-2), []), (37, 40, .invokevirtual 92, [1, 13, 15, 0]), (40, 43, .goto (-36), [4]), (43, 44, .return_, [])]
/-- CoinTelescopeModel.some()V -/
def c18 : List (Nat × Nat × ClassFile.Instr × List Int) := [(0, 1, .aload_n 0, [0]), (1, 4, .invokevirtual 109, [0, 13, 17, 0]), (4, 5, .aload_n 0, [0]), (5, 8, .getfield 62, [9, 2, 13]), (8, 11, .ifCond .ne 35, [43]), (11, 12, .aload_n 0, [0]), (12, 15, .invokevirtual 66, [0, 13, 10, 0]), (15, 17, .bipush 124, []), (17, 20, .if_icmp .ne 26, [43]), (20, 21, .aload_n 0, [0]), (21, 22, .dup, []), (22, 25, .getfield 56, [7, 0, 13]), (25, 26, .iconst 1, []), (26, 27, .iadd, []), (27, 30, .putfield 56, [7, 0, 13]), (30, 31, .aload_n 0, [0]), (31, 34, .invokevirtual 109, [0, 13, 17, 0]), (34, 35, .aload_n 0, [0]), (35, 37, .bipush (-3), []), (37, 40, .invokevirtual 92, [1, 13, 15, 0]), (40, 43, .goto (-36), [4]), (43, 44, .return_, [])]
/-- CoinTelescopeModel.much(ILjava/lang/String;)V -/
def c19 : List (Nat × Nat × ClassFile.Instr × List Int) := [(0, 1, .aload_n 0, [0]), (1, 2, .aload_n 2, [2]), (2, 5, .invokevirtual 112, [1, 13, 12, 0]), (5, 6, .aload_n 0, [0]), (6, 9, .invokevirtual 106, [0, 13, 13, 0]), (9, 10, .istore_n 3, [3]), (10, 11, .aload_n 0, [0]), (11, 13, .bipush 32, []), (13, 16, .invokevirtual 79, [1, 13, 11, 0]), (16, 17, .aload_n 0, [0]), (17, 20, .invokevirtual 95, [0, 13, 18, 0]), (20, 21, .aload_n 0, [0]), (21, 22, .iload_n 1, [1]), (22, 23, .iload_n 3, [3]), (23, 24, .isub, []), (24, 27, .invokevirtual 92, [1, 13, 15, 0]), (27, 28, .return_, [])]
/-- CoinTelescopeModel.tellsHere(ILjava/lang/String;)V -/
def c20 : List (Nat × Nat × ClassFile.Instr × List Int) := [(0, 1, .aload_n 0, [0]), (1, 2, .aload_n 2, [2]), (2, 5, .invokevirtual 112, [1, 13, 12, 0]), (5, 6, .aload_n 0, [0]), (6, 9, .invokevirtual 106, [0, 13, 13, 0]), (9, 10, .istore_n 3, [3]), (10, 11, .aload_n 0, [0]), (11, 14, .getfield 62, [9, 2, 13]), (14, 17, .ifCond .ne 15, [29]), (17, 18, .aload_n 0, [0]), (18, 21, .getfield 9, [1, 1, 13]), (21, 22, .iload_n 1, [1]), (22, 23, .aload_n 0, [0]), (23, 26, .getfield 83, [6, 0, 13]), (26, 27, .iadd, []), (27, 28, .iload_n 3, [3]), (28, 29, .iastore, []), (29, 30, .return_, [])]
/-- CoinTelescopeModel.wordOfD()V -/
def c21 : List (Nat × Nat × ClassFile.Instr × List Int) := [(0, 1, .aload_n 0, [0]), (1, 3, .bipush 100, []), (3, 6, .invokevirtual 79, [1, 13, 11, 0]), (6, 7, .aload_n 0, [0]), (7, 10, .invokevirtual 66, [0, 13, 10, 0]), (10, 12, .bipush 101, []), (12, 15, .if_icmp .ne 14, [26]), (15, 16, .aload_n 0, [0]), (16, 18, .bipush (-10), []), (18, 20, .ldc 116, [1, 6]), (20, 23, .invokevirtual 118, [2, 13, 19, 0]), (23, 26, .goto 12, [35]), (26, 27, .aload_n 0, [0]), (27, 30, .sipush (-200), []), (30, 32, .ldc 122, [1, 7]), (32, 35, .invokevirtual 118, [2, 13, 19, 0]), (35, 36, .return_, [])]
/-- CoinTelescopeModel.clauseHere()V -/
def c22 : List (Nat × Nat × ClassFile.Instr × List Int) := [(0, 1, .aload_n 0, [0]), (1, 4, .invokevirtual 66, [0, 13, 10, 0]), (4, 52, .tableswitch 91 97 104 #[60, 91, 48, 84, 91, 91, 91, 72], [95, 97, 64, 98, 95, 99, 52, 100, 88, 101, 95, 102, 95, 103, 95, 104, 76]), (52, 53, .aload_n 0, [0]), (53, 56, .sipush 199, []), (56, 58, .ldc 124, [1, 3]), (58, 61, .invokevirtual 126, [2, 13, 20, 0]), (61, 64, .goto 39, [100]), (64, 65, .aload_n 0, [0]), (65, 68, .sipush 204, []), (68, 70, .ldc 129, [1, 4]), (70, 73, .invokevirtual 126, [2, 13, 20, 0]), (73, 76, .goto 27, [100]), (76, 77, .aload_n 0, [0]), (77, 80, .sipush 209, []), (80, 82, .ldc 131, [1, 5]), (82, 85, .invokevirtual 126, [2, 13, 20, 0]), (85, 88, .goto 15, [100]), (88, 89, .aload_n 0, [0]), (89, 92, .invokevirtual 133, [0, 13, 21, 0]), (92, 95, .goto 8, [100]), (95, 96, .aload_n 0, [0]), (96, 97, .iconst 1, []), (97, 100, .putfield 62, [9, 2, 13]), (100, 101, .return_, [])]
/-- CoinTelescopeModel.view()I -/
def c23 : List (Nat × Nat × ClassFile.Instr × List Int) := [(0, 1, .aload_n 0, [0]), (1, 4, .getfield 9, [1, 1, 13]), (4, 6, .bipush 12, []), (6, 7, .iaload, []), (7, 8, .iconst 5, []), (8, 11, .if_icmp .ne 6, [14]), (11, 13, .bipush (-4), []), (13, 14, .ireturn, []), (14, 15, .aload_n 0, [0]), (15, 16, .aload_n 0, [0]), (16, 19, .getfield 9, [1, 1, 13]), (19, 21, .bipush 12, []), (21, 22, .iaload, []), (22, 25, .putfield 83, [6, 0, 13]), (25, 26, .aload_n 0, [0]), (26, 27, .aload_n 0, [0]), (27, 30, .getfield 9, [1, 1, 13]), (30, 32, .bipush 16, []), (32, 33, .iaload, []), (33, 36, .putfield 59, [8, 0, 13]), (36, 37, .aload_n 0, [0]), (37, 40, .getfield 9, [1, 1, 13]), (40, 42, .bipush 16, []), (42, 43, .iconst 0, []), (43, 44, .iastore, []), (44, 45, .aload_n 0, [0]), (45, 48, .getfield 9, [1, 1, 13]), (48, 51, .sipush 199, []), (51, 52, .aload_n 0, [0]), (52, 55, .getfield 83, [6, 0, 13]), (55, 56, .iadd, []), (56, 58, .bipush 8, []), (58, 59, .iastore, []), (59, 60, .aload_n 0, [0]), (60, 63, .getfield 9, [1, 1, 13]), (63, 66, .sipush 204, []), (66, 67, .aload_n 0, [0]), (67, 70, .getfield 83, [6, 0, 13]), (70, 71, .iadd, []), (71, 72, .iconst 0, []), (72, 73, .iastore, []), (73, 74, .aload_n 0, [0]), (74, 77, .getfield 9, [1, 1, 13]), (77, 80, .sipush 209, []), (80, 81, .aload_n 0, [0]), (81, 84, .getfield 83, [6, 0, 13]), (84, 85, .iadd, []), (85, 86, .iconst 0, []), (86, 87, .iastore, []), (87, 88, .aload_n 0, [0]), (88, 91, .getfield 9, [1, 1, 13]), (91, 94, .sipush 214, []), (94, 95, .aload_n 0, [0]), (95, 98, .getfield 83, [6, 0, 13]), (98, 99, .iadd, []), (99, 100, .iconst 0, []), (100, 101, .iastore, []), (101, 102, .aload_n 0, [0]), (102, 103, .iconst 0, []), (103, 106, .putfield 56, [7, 0, 13]), (106, 107, .aload_n 0, [0]), (107, 108, .iconst 0, []), (108, 111, .putfield 62, [9, 2, 13]), (111, 112, .aload_n 0, [0]), (112, 113, .iconst 0, []), (113, 116, .putfield 86, [10, 0, 13]), (116, 117, .iconst 1, []), (117, 118, .istore_n 1, [1]), (118, 119, .aload_n 0, [0]), (119, 122, .invokevirtual 136, [0, 13, 22, 0]), (122, 123, .aload_n 0, [0]), (123, 126, .getfield 62, [9, 2, 13]), (126, 129, .ifCond .ne 38, [164]), (129, 130, .iload_n 1, [1]), (130, 132, .bipush 10, []), (132, 135, .if_icmp .ge 32, [164]), (135, 136, .aload_n 0, [0]), (136, 139, .invokevirtual 66, [0, 13, 10, 0]), (139, 141, .bipush 59, []), (141, 144, .if_icmp .ne 23, [164]), (144, 145, .aload_n 0, [0]), (145, 146, .dup, []), (146, 149, .getfield 56, [7, 0, 13]), (149, 150, .iconst 1, []), (150, 151, .iadd, []), (151, 154, .putfield 56, [7, 0, 13]), (154, 155, .aload_n 0, [0]), (155, 158, .invokevirtual 136, [0, 13, 22, 0]), (158, 161, .iinc 1 1, [1, 1]), (161, 164, .goto (-39), [122]), (164, 165, .aload_n 0, [0]), (165, 168, .getfield 62, [9, 2, 13]), (168, 171, .ifCond .ne 14, [182]), (171, 172, .aload_n 0, [0]), (172, 175, .getfield 56, [7, 0, 13]), (175, 176, .aload_n 0, [0]), (176, 179, .getfield 59, [8, 0, 13]), (179, 182, .if_icmp .eq 11, [190]), (182, 184, .bipush (-10), []), (184, 185, .aload_n 0, [0]), (185, 188, .getfield 56, [7, 0, 13]), (188, 189, .isub, []), (189, 190, .ireturn, []), (190, 191, .aload_n 0, [0]), (191, 194, .getfield 9, [1, 1, 13]), (194, 196, .bipush 12, []), (196, 197, .dup2, []), (197, 198, .iaload, []), (198, 199, .iconst 1, []), (199, 200, .iadd, []), (200, 201, .iastore, []), (201, 202, .aload_n 0, [0]), (202, 205, .getfield 9, [1, 1, 13]), (205, 207, .bipush 17, []), (207, 208, .aload_n 0, [0]), (208, 211, .getfield 83, [6, 0, 13]), (211, 212, .iastore, []), (212, 213, .aload_n 0, [0]), (213, 216, .getfield 83, [6, 0, 13]), (216, 217, .ireturn, [])]
/-- CoinTelescopeModel.tellsOf(II)I -/
def c24 : List (Nat × Nat × ClassFile.Instr × List Int) := [(0, 1, .aload_n 0, [0]), (1, 4, .getfield 9, [1, 1, 13]), (4, 6, .bipush 17, []), (6, 7, .iaload, []), (7, 8, .iconst (-1), []), (8, 11, .if_icmp .ne 7, [15]), (11, 12, .iload_n 2, [2]), (12, 15, .goto 17, [29]), (15, 16, .aload_n 0, [0]), (16, 19, .getfield 9, [1, 1, 13]), (19, 20, .iload_n 1, [1]), (20, 21, .aload_n 0, [0]), (21, 24, .getfield 9, [1, 1, 13]), (24, 26, .bipush 17, []), (26, 27, .iaload, []), (27, 28, .iadd, []), (28, 29, .iaload, []), (29, 30, .ireturn, [])]
/-- CoinTelescopeModel.coin()I -/
def c25 : List (Nat × Nat × ClassFile.Instr × List Int) := [(0, 1, .aload_n 0, [0]), (1, 4, .sipush 199, []), (4, 6, .bipush 8, []), (6, 9, .invokevirtual 49, [2, 13, 24, 0]), (9, 10, .istore_n 1, [1]), (10, 11, .iload_n 1, [1]), (11, 14, .ifCond .ne 7, [18]), (14, 15, .iconst 1, []), (15, 18, .goto 4, [19]), (18, 19, .iload_n 1, [1]), (19, 20, .ireturn, [])]
/-- CoinTelescopeModel.isAt(II)I -/
def c26 : List (Nat × Nat × ClassFile.Instr × List Int) := [(0, 1, .aload_n 0, [0]), (1, 4, .getfield 9, [1, 1, 13]), (4, 6, .bipush 30, []), (6, 7, .iload_n 1, [1]), (7, 8, .iadd, []), (8, 9, .iaload, []), (9, 10, .istore_n 3, [3]), (10, 11, .aload_n 0, [0]), (11, 14, .getfield 9, [1, 1, 13]), (14, 16, .bipush 18, []), (16, 17, .iload_n 1, [1]), (17, 18, .iadd, []), (18, 19, .iaload, []), (19, 56, .tableswitch 125 1 6 #[37, 125, 55, 72, 125, 92], [144, 1, 56, 2, 144, 3, 74, 4, 91, 5, 144, 6, 111]), (56, 57, .iload_n 3, [3]), (57, 59, .bipush 6, []), (59, 60, .idiv, []), (60, 62, .bipush 6, []), (62, 63, .imul, []), (63, 64, .iload_n 3, [3]), (64, 66, .bipush 6, []), (66, 67, .irem, []), (67, 68, .iload_n 2, [2]), (68, 69, .iadd, []), (69, 71, .bipush 6, []), (71, 72, .irem, []), (72, 73, .iadd, []), (73, 74, .ireturn, []), (74, 75, .iload_n 3, [3]), (75, 76, .aload_n 0, [0]), (76, 79, .getfield 9, [1, 1, 13]), (79, 81, .bipush 24, []), (81, 82, .iload_n 1, [1]), (82, 83, .iadd, []), (83, 84, .iaload, []), (84, 85, .iload_n 2, [2]), (85, 86, .imul, []), (86, 87, .iadd, []), (87, 89, .bipush 24, []), (89, 90, .irem, []), (90, 91, .ireturn, []), (91, 92, .iload_n 3, [3]), (92, 94, .bipush 6, []), (94, 95, .idiv, []), (95, 97, .bipush 6, []), (97, 98, .imul, []), (98, 99, .iload_n 3, [3]), (99, 101, .bipush 6, []), (101, 102, .irem, []), (102, 103, .iload_n 2, [2]), (103, 104, .iconst 2, []), (104, 105, .idiv, []), (105, 106, .iadd, []), (106, 108, .bipush 6, []), (108, 109, .irem, []), (109, 110, .iadd, []), (110, 111, .ireturn, []), (111, 112, .iload_n 3, [3]), (112, 113, .aload_n 0, [0]), (113, 116, .getfield 9, [1, 1, 13]), (116, 118, .bipush 24, []), (118, 119, .iload_n 1, [1]), (119, 120, .iadd, []), (120, 121, .iaload, []), (121, 122, .iload_n 2, [2]), (122, 123, .imul, []), (123, 124, .iadd, []), (124, 125, .aload_n 0, [0]), (125, 128, .getfield 9, [1, 1, 13]), (128, 130, .bipush 36, []), (130, 131, .iconst 4, []), (131, 132, .iload_n 1, [1]), (132, 133, .imul, []), (133, 134, .iadd, []), (134, 135, .iload_n 2, [2]), (135, 136, .iconst 4, []), (136, 137, .irem, []), (137, 138, .iadd, []), (138, 139, .iaload, []), (139, 140, .iadd, []), (140, 142, .bipush 24, []), (142, 143, .irem, []), (143, 144, .ireturn, []), (144, 145, .iload_n 3, [3]), (145, 146, .ireturn, [])]
/-- CoinTelescopeModel.isDim(II)Z -/
def c27 : List (Nat × Nat × ClassFile.Instr × List Int) := [(0, 1, .aload_n 0, [0]), (1, 4, .getfield 9, [1, 1, 13]), (4, 6, .bipush 18, []), (6, 7, .iload_n 1, [1]), (7, 8, .iadd, []), (8, 9, .iaload, []), (9, 10, .iconst 5, []), (10, 13, .if_icmp .eq 23, [33]), (13, 14, .aload_n 0, [0]), (14, 15, .iload_n 1, [1]), (15, 16, .iload_n 2, [2]), (16, 19, .invokevirtual 139, [2, 13, 26, 0]), (19, 21, .bipush 6, []), (21, 22, .idiv, []), (22, 23, .aload_n 0, [0]), (23, 26, .getfield 53, [5, 0, 13]), (26, 29, .if_icmp .ge 7, [33]), (29, 30, .iconst 1, []), (30, 33, .goto 4, [34]), (33, 34, .iconst 0, []), (34, 35, .ireturn, [])]
/-- CoinTelescopeModel.baseOf(II)I -/
def c28 : List (Nat × Nat × ClassFile.Instr × List Int) := [(0, 1, .aload_n 0, [0]), (1, 4, .getfield 21, [11, 1, 13]), (4, 5, .iconst 0, []), (5, 6, .iload_n 1, [1]), (6, 7, .iastore, []), (7, 8, .aload_n 0, [0]), (8, 11, .getfield 21, [11, 1, 13]), (11, 12, .iconst 1, []), (12, 13, .aload_n 0, [0]), (13, 16, .getfield 9, [1, 1, 13]), (16, 18, .bipush 18, []), (18, 19, .iload_n 1, [1]), (19, 20, .iadd, []), (20, 21, .iaload, []), (21, 22, .iastore, []), (22, 23, .aload_n 0, [0]), (23, 26, .getfield 21, [11, 1, 13]), (26, 27, .iconst 2, []), (27, 28, .aload_n 0, [0]), (28, 31, .getfield 9, [1, 1, 13]), (31, 33, .bipush 24, []), (33, 34, .iload_n 1, [1]), (34, 35, .iadd, []), (35, 36, .iaload, []), (36, 37, .iastore, []), (37, 38, .aload_n 0, [0]), (38, 41, .getfield 21, [11, 1, 13]), (41, 42, .iconst 3, []), (42, 43, .aload_n 0, [0]), (43, 44, .iload_n 1, [1]), (44, 45, .iload_n 2, [2]), (45, 48, .invokevirtual 139, [2, 13, 26, 0]), (48, 49, .iastore, []), (49, 50, .aload_n 0, [0]), (50, 53, .getfield 21, [11, 1, 13]), (53, 54, .iconst 4, []), (54, 55, .iload_n 2, [2]), (55, 57, .bipush 10, []), (57, 58, .irem, []), (58, 59, .iastore, []), (59, 60, .aload_n 0, [0]), (60, 63, .getfield 21, [11, 1, 13]), (63, 64, .iconst 5, []), (64, 65, .aload_n 0, [0]), (65, 68, .getfield 9, [1, 1, 13]), (68, 70, .bipush 8, []), (70, 71, .iaload, []), (71, 72, .iastore, []), (72, 73, .iconst 0, []), (73, 74, .istore_n 3, [3]), (74, 75, .aload_n 0, [0]), (75, 78, .sipush 214, []), (78, 79, .iconst 0, []), (79, 82, .invokevirtual 49, [2, 13, 24, 0]), (82, 84, .istore 4, [4]), (84, 87, .sipush 219, []), (87, 90, .sipush 140, []), (90, 91, .aload_n 0, [0]), (91, 94, .getfield 9, [1, 1, 13]), (94, 96, .bipush 17, []), (96, 97, .iaload, []), (97, 98, .imul, []), (98, 99, .iadd, []), (99, 101, .istore 5, [5]), (101, 102, .iconst 0, []), (102, 104, .istore 6, [6]), (104, 106, .iload 5, [5]), (106, 108, .istore 7, [7]), (108, 110, .iload 7, [7]), (110, 112, .iload 5, [5]), (112, 114, .iload 4, [4]), (114, 115, .iadd, []), (115, 118, .if_icmp .ge 300, [415]), (118, 119, .aload_n 0, [0]), (119, 122, .getfield 9, [1, 1, 13]), (122, 124, .iload 7, [7]), (124, 125, .iaload, []), (125, 127, .istore 8, [8]), (127, 129, .iload 8, [8]), (129, 132, .ifCond .lt 97, [226]), (132, 133, .aload_n 0, [0]), (133, 136, .getfield 21, [11, 1, 13]), (136, 138, .iload 8, [8]), (138, 140, .bipush 8, []), (140, 141, .irem, []), (141, 142, .iaload, []), (142, 144, .istore 9, [9]), (144, 146, .iload 8, [8]), (146, 148, .bipush 8, []), (148, 149, .idiv, []), (149, 150, .iconst 4, []), (150, 151, .irem, []), (151, 153, .istore 10, [10]), (153, 155, .iload 8, [8]), (155, 157, .bipush 32, []), (157, 158, .idiv, []), (158, 160, .istore 11, [11]), (160, 161, .aload_n 0, [0]), (161, 164, .getfield 24, [12, 1, 13]), (164, 166, .iload 6, [6]), (166, 168, .iload 10, [10]), (168, 171, .ifCond .ne 18, [186]), (171, 173, .iload 9, [9]), (173, 175, .iload 11, [11]), (175, 178, .if_icmp .ge 7, [182]), (178, 179, .iconst 1, []), (179, 182, .goto 40, [219]), (182, 183, .iconst 0, []), (183, 186, .goto 36, [219]), (186, 188, .iload 10, [10]), (188, 189, .iconst 1, []), (189, 192, .if_icmp .ne 18, [207]), (192, 194, .iload 9, [9]), (194, 196, .iload 11, [11]), (196, 199, .if_icmp .ne 7, [203]), (199, 200, .iconst 1, []), (200, 203, .goto 19, [219]), (203, 204, .iconst 0, []), (204, 207, .goto 15, [219]), (207, 209, .iload 9, [9]), (209, 211, .iload 11, [11]), (211, 214, .if_icmp .le 7, [218]), (214, 215, .iconst 1, []), (215, 218, .goto 4, [219]), (218, 219, .iconst 0, []), (219, 220, .bastore, []), (220, 223, .iinc 6 1, [6, 1]), (223, 226, .goto 186, [409]), (226, 228, .iload 8, [8]), (228, 229, .iconst (-1), []), (229, 232, .if_icmp .ne 32, [261]), (232, 233, .aload_n 0, [0]), (233, 236, .getfield 24, [12, 1, 13]), (236, 238, .iload 6, [6]), (238, 239, .iconst 1, []), (239, 240, .isub, []), (240, 241, .aload_n 0, [0]), (241, 244, .getfield 24, [12, 1, 13]), (244, 246, .iload 6, [6]), (246, 247, .iconst 1, []), (247, 248, .isub, []), (248, 249, .baload, []), (249, 252, .ifCond .ne 7, [256]), (252, 253, .iconst 1, []), (253, 256, .goto 4, [257]), (256, 257, .iconst 0, []), (257, 258, .bastore, []), (258, 261, .goto 151, [409]), (261, 263, .iload 8, [8]), (263, 265, .bipush (-10), []), (265, 268, .if_icmp .le 82, [347]), (268, 271, .iinc 6 (-1), [6, (-1)]), (271, 272, .aload_n 0, [0]), (272, 275, .getfield 24, [12, 1, 13]), (275, 277, .iload 6, [6]), (277, 278, .iconst 1, []), (278, 279, .isub, []), (279, 281, .iload 8, [8]), (281, 283, .bipush (-2), []), (283, 286, .if_icmp .ne 33, [316]), (286, 287, .aload_n 0, [0]), (287, 290, .getfield 24, [12, 1, 13]), (290, 292, .iload 6, [6]), (292, 293, .iconst 1, []), (293, 294, .isub, []), (294, 295, .baload, []), (295, 298, .ifCond .eq 17, [312]), (298, 299, .aload_n 0, [0]), (299, 302, .getfield 24, [12, 1, 13]), (302, 304, .iload 6, [6]), (304, 305, .baload, []), (305, 308, .ifCond .eq 7, [312]), (308, 309, .iconst 1, []), (309, 312, .goto 34, [343]), (312, 313, .iconst 0, []), (313, 316, .goto 30, [343]), (316, 317, .aload_n 0, [0]), (317, 320, .getfield 24, [12, 1, 13]), (320, 322, .iload 6, [6]), (322, 323, .iconst 1, []), (323, 324, .isub, []), (324, 325, .baload, []), (325, 328, .ifCond .ne 13, [338]), (328, 329, .aload_n 0, [0]), (329, 332, .getfield 24, [12, 1, 13]), (332, 334, .iload 6, [6]), (334, 335, .baload, []), (335, 338, .ifCond .eq 7, [342]), (338, 339, .iconst 1, []), (339, 342, .goto 4, [343]), (342, 343, .iconst 0, []), (343, 344, .bastore, []), (344, 347, .goto 65, [409]), (347, 348, .iconst 0, []), (348, 350, .istore 6, [6]), (350, 351, .aload_n 0, [0]), (351, 354, .getfield 24, [12, 1, 13]), (354, 355, .iconst 0, []), (355, 356, .baload, []), (356, 358, .istore 9, [9]), (358, 359, .iload_n 3, [3]), (359, 361, .iload 9, [9]), (361, 364, .ifCond .eq 19, [380]), (364, 366, .iload 8, [8]), (366, 369, .sipush (-200), []), (369, 372, .if_icmp .le 11, [380]), (372, 374, .bipush (-10), []), (374, 376, .iload 8, [8]), (376, 377, .isub, []), (377, 380, .goto 4, [381]), (380, 381, .iconst 0, []), (381, 382, .iadd, []), (382, 383, .istore_n 3, [3]), (383, 384, .iload_n 3, [3]), (384, 386, .iload 9, [9]), (386, 389, .ifCond .eq 20, [406]), (389, 391, .iload 8, [8]), (391, 394, .sipush (-200), []), (394, 397, .if_icmp .gt 12, [406]), (397, 400, .sipush (-200), []), (400, 402, .iload 8, [8]), (402, 403, .isub, []), (403, 406, .goto 4, [407]), (406, 407, .iconst 0, []), (407, 408, .isub, []), (408, 409, .istore_n 3, [3]), (409, 412, .iinc 7 1, [7, 1]), (412, 415, .goto (-304), [108]), (415, 416, .iload_n 3, [3]), (416, 417, .ireturn, [])]
/-- CoinTelescopeModel.worthOf(II)I -/
def c29 : List (Nat × Nat × ClassFile.Instr × List Int) := [(0, 1, .aload_n 0, [0]), (1, 2, .iload_n 1, [1]), (2, 3, .iload_n 2, [2]), (3, 6, .invokevirtual 142, [2, 13, 28, 0]), (6, 7, .istore_n 3, [3]), (7, 8, .iconst 4, []), (8, 9, .iload_n 3, [3]), (9, 10, .iadd, []), (10, 12, .istore 4, [4]), (12, 13, .aload_n 0, [0]), (13, 16, .getfield 9, [1, 1, 13]), (16, 18, .bipush 18, []), (18, 19, .iload_n 1, [1]), (19, 20, .iadd, []), (20, 21, .iaload, []), (21, 60, .tableswitch 137 1 6 #[39, 47, 57, 73, 99, 119], [158, 1, 60, 2, 68, 3, 78, 4, 94, 5, 120, 6, 140]), (60, 61, .iconst 5, []), (61, 62, .iload_n 3, [3]), (62, 63, .iadd, []), (63, 65, .istore 4, [4]), (65, 68, .goto 93, [158]), (68, 69, .iconst 4, []), (69, 70, .iload_n 3, [3]), (70, 71, .iadd, []), (71, 72, .iconst 2, []), (72, 73, .idiv, []), (73, 75, .istore 4, [4]), (75, 78, .goto 83, [158]), (78, 79, .iload_n 3, [3]), (79, 80, .aload_n 0, [0]), (80, 83, .getfield 9, [1, 1, 13]), (83, 85, .bipush 24, []), (85, 86, .iload_n 1, [1]), (86, 87, .iadd, []), (87, 88, .iaload, []), (88, 89, .iadd, []), (89, 91, .istore 4, [4]), (91, 94, .goto 67, [158]), (94, 95, .iconst 5, []), (95, 96, .iload_n 3, [3]), (96, 97, .iadd, []), (97, 98, .aload_n 0, [0]), (98, 99, .iload_n 1, [1]), (99, 100, .iload_n 2, [2]), (100, 103, .invokevirtual 139, [2, 13, 26, 0]), (103, 105, .bipush 6, []), (105, 106, .irem, []), (106, 109, .ifCond .ne 7, [113]), (109, 110, .iconst 2, []), (110, 113, .goto 4, [114]), (113, 114, .iconst 1, []), (114, 115, .imul, []), (115, 117, .istore 4, [4]), (117, 120, .goto 41, [158]), (120, 121, .iconst 4, []), (121, 122, .iload_n 3, [3]), (122, 123, .iadd, []), (123, 124, .iconst 2, []), (124, 125, .idiv, []), (125, 126, .aload_n 0, [0]), (126, 129, .getfield 9, [1, 1, 13]), (129, 131, .bipush 24, []), (131, 132, .iload_n 1, [1]), (132, 133, .iadd, []), (133, 134, .iaload, []), (134, 135, .iadd, []), (135, 137, .istore 4, [4]), (137, 140, .goto 21, [158]), (140, 141, .iload_n 3, [3]), (141, 142, .aload_n 0, [0]), (142, 145, .getfield 9, [1, 1, 13]), (145, 147, .bipush 24, []), (147, 148, .iload_n 1, [1]), (148, 149, .iadd, []), (149, 150, .iaload, []), (150, 151, .iadd, []), (151, 152, .iconst 1, []), (152, 153, .iadd, []), (153, 155, .istore 4, [4]), (155, 158, .goto 3, [158]), (158, 160, .iload 4, [4]), (160, 163, .ifCond .ge 7, [167]), (163, 164, .iconst 0, []), (164, 167, .goto 5, [169]), (167, 169, .iload 4, [4]), (169, 170, .ireturn, [])]
/-- CoinTelescopeModel.thing(III)I -/
def c30 : List (Nat × Nat × ClassFile.Instr × List Int) := [(0, 1, .iload_n 1, [1]), (1, 2, .iconst 0, []), (2, 4, .bipush 6, []), (4, 7, .invokestatic 41, [0, 3, 1]), (7, 10, .ifCond .eq 10, [17]), (10, 11, .iload_n 3, [3]), (11, 14, .invokestatic 145, [0, 1, 3]), (14, 17, .ifCond .ne 5, [19]), (17, 18, .iconst (-1), []), (18, 19, .ireturn, []), (19, 20, .iload_n 2, [2]), (20, 21, .iconst 0, []), (21, 23, .bipush 9, []), (23, 26, .invokestatic 41, [0, 3, 1]), (26, 29, .ifCond .ne 6, [32]), (29, 31, .bipush (-2), []), (31, 32, .ireturn, []), (32, 33, .aload_n 0, [0]), (33, 36, .getfield 9, [1, 1, 13]), (36, 38, .bipush 11, []), (38, 39, .iaload, []), (39, 41, .bipush 6, []), (41, 44, .if_icmp .ne 6, [47]), (44, 46, .bipush (-4), []), (46, 47, .ireturn, []), (47, 48, .aload_n 0, [0]), (48, 51, .getfield 9, [1, 1, 13]), (51, 53, .bipush 11, []), (53, 54, .iaload, []), (54, 56, .istore 4, [4]), (56, 57, .aload_n 0, [0]), (57, 60, .getfield 9, [1, 1, 13]), (60, 62, .bipush 18, []), (62, 64, .iload 4, [4]), (64, 65, .iadd, []), (65, 66, .iload_n 1, [1]), (66, 67, .iastore, []), (67, 68, .aload_n 0, [0]), (68, 71, .getfield 9, [1, 1, 13]), (71, 73, .bipush 24, []), (73, 75, .iload 4, [4]), (75, 76, .iadd, []), (76, 77, .iload_n 2, [2]), (77, 78, .iastore, []), (78, 79, .aload_n 0, [0]), (79, 82, .getfield 9, [1, 1, 13]), (82, 84, .bipush 30, []), (84, 86, .iload 4, [4]), (86, 87, .iadd, []), (87, 88, .iload_n 3, [3]), (88, 89, .iastore, []), (89, 90, .aload_n 0, [0]), (90, 93, .getfield 9, [1, 1, 13]), (93, 94, .iconst 2, []), (94, 96, .iload 4, [4]), (96, 97, .iadd, []), (97, 98, .iconst 0, []), (98, 99, .iastore, []), (99, 100, .iconst 0, []), (100, 102, .istore 5, [5]), (102, 104, .iload 5, [5]), (104, 105, .iconst 4, []), (105, 108, .if_icmp .ge 25, [130]), (108, 109, .aload_n 0, [0]), (109, 112, .getfield 9, [1, 1, 13]), (112, 114, .bipush 36, []), (114, 115, .iconst 4, []), (115, 117, .iload 4, [4]), (117, 118, .imul, []), (118, 119, .iadd, []), (119, 121, .iload 5, [5]), (121, 122, .iadd, []), (122, 123, .iconst 0, []), (123, 124, .iastore, []), (124, 127, .iinc 5 1, [5, 1]), (127, 130, .goto (-25), [102]), (130, 131, .aload_n 0, [0]), (131, 134, .getfield 9, [1, 1, 13]), (134, 136, .bipush 11, []), (136, 137, .dup2, []), (137, 138, .iaload, []), (138, 139, .iconst 1, []), (139, 140, .iadd, []), (140, 141, .iastore, []), (141, 143, .iload 4, [4]), (143, 144, .ireturn, [])]
/-- CoinTelescopeModel.of(II)I -/
def c31 : List (Nat × Nat × ClassFile.Instr × List Int) := [(0, 1, .aload_n 0, [0]), (1, 2, .iload_n 1, [1]), (2, 5, .invokevirtual 149, [1, 13, 5, 0]), (5, 8, .ifCond .ne 5, [10]), (8, 9, .iconst (-1), []), (9, 10, .ireturn, []), (10, 11, .iload_n 2, [2]), (11, 40, .tableswitch 68 0 3 #[29, 39, 49, 59], [79, 0, 40, 1, 50, 2, 60, 3, 70]), (40, 41, .aload_n 0, [0]), (41, 44, .getfield 9, [1, 1, 13]), (44, 46, .bipush 18, []), (46, 47, .iload_n 1, [1]), (47, 48, .iadd, []), (48, 49, .iaload, []), (49, 50, .ireturn, []), (50, 51, .aload_n 0, [0]), (51, 54, .getfield 9, [1, 1, 13]), (54, 56, .bipush 24, []), (56, 57, .iload_n 1, [1]), (57, 58, .iadd, []), (58, 59, .iaload, []), (59, 60, .ireturn, []), (60, 61, .aload_n 0, [0]), (61, 64, .getfield 9, [1, 1, 13]), (64, 66, .bipush 30, []), (66, 67, .iload_n 1, [1]), (67, 68, .iadd, []), (68, 69, .iaload, []), (69, 70, .ireturn, []), (70, 71, .aload_n 0, [0]), (71, 74, .getfield 9, [1, 1, 13]), (74, 75, .iconst 2, []), (75, 76, .iload_n 1, [1]), (76, 77, .iadd, []), (77, 78, .iaload, []), (78, 79, .ireturn, []), (79, 80, .iconst (-1), []), (80, 81, .ireturn, [])]
/-- CoinTelescopeModel.then(III)I -/
def c32 : List (Nat × Nat × ClassFile.Instr × List Int) := [(0, 1, .aload_n 0, [0]), (1, 2, .iload_n 1, [1]), (2, 5, .invokevirtual 149, [1, 13, 5, 0]), (5, 8, .ifCond .eq 13, [18]), (8, 9, .iload_n 2, [2]), (9, 10, .iconst 0, []), (10, 12, .bipush 60, []), (12, 15, .invokestatic 41, [0, 3, 1]), (15, 18, .ifCond .ne 6, [21]), (18, 20, .ldc 152, [0, (-999999)]), (20, 21, .ireturn, []), (21, 22, .aload_n 0, [0]), (22, 25, .invokevirtual 153, [0, 13, 6, 0]), (25, 26, .aload_n 0, [0]), (26, 29, .getfield 9, [1, 1, 13]), (29, 30, .iconst 0, []), (30, 31, .iaload, []), (31, 32, .iload_n 2, [2]), (32, 33, .iadd, []), (33, 35, .istore 4, [4]), (35, 36, .iload_n 3, [3]), (36, 68, .tableswitch 72 0 3 #[32, 40, 56, 64], [108, 0, 68, 1, 76, 2, 92, 3, 100]), (68, 69, .aload_n 0, [0]), (69, 70, .iload_n 1, [1]), (70, 72, .iload 4, [4]), (72, 75, .invokevirtual 139, [2, 13, 26, 0]), (75, 76, .ireturn, []), (76, 77, .aload_n 0, [0]), (77, 78, .iload_n 1, [1]), (78, 80, .iload 4, [4]), (80, 83, .invokevirtual 156, [2, 13, 27, 0]), (83, 86, .ifCond .eq 7, [90]), (86, 87, .iconst 1, []), (87, 90, .goto 4, [91]), (90, 91, .iconst 0, []), (91, 92, .ireturn, []), (92, 93, .aload_n 0, [0]), (93, 94, .iload_n 1, [1]), (94, 96, .iload 4, [4]), (96, 99, .invokevirtual 142, [2, 13, 28, 0]), (99, 100, .ireturn, []), (100, 101, .aload_n 0, [0]), (101, 102, .iload_n 1, [1]), (102, 104, .iload 4, [4]), (104, 107, .invokevirtual 160, [2, 13, 29, 0]), (107, 108, .ireturn, []), (108, 110, .ldc 152, [0, (-999999)]), (110, 111, .ireturn, [])]
/-- CoinTelescopeModel.becomes(II)I -/
def c33 : List (Nat × Nat × ClassFile.Instr × List Int) := [(0, 1, .aload_n 0, [0]), (1, 4, .getfield 9, [1, 1, 13]), (4, 5, .iload_n 1, [1]), (5, 6, .iaload, []), (6, 7, .istore_n 3, [3]), (7, 8, .aload_n 0, [0]), (8, 11, .getfield 9, [1, 1, 13]), (11, 12, .iload_n 1, [1]), (12, 13, .iload_n 2, [2]), (13, 14, .iastore, []), (14, 15, .iload_n 3, [3]), (15, 16, .ireturn, [])]
/-- CoinTelescopeModel.row(III)I -/
def c34 : List (Nat × Nat × ClassFile.Instr × List Int) := [(0, 1, .aload_n 0, [0]), (1, 2, .iload_n 1, [1]), (2, 5, .invokevirtual 149, [1, 13, 5, 0]), (5, 8, .ifCond .eq 12, [17]), (8, 9, .iload_n 2, [2]), (9, 10, .iconst 0, []), (10, 11, .iconst 3, []), (11, 14, .invokestatic 41, [0, 3, 1]), (14, 17, .ifCond .ne 5, [19]), (17, 18, .iconst (-1), []), (18, 19, .ireturn, []), (19, 20, .iload_n 3, [3]), (20, 21, .iconst 0, []), (21, 23, .bipush 9, []), (23, 26, .invokestatic 41, [0, 3, 1]), (26, 29, .ifCond .ne 6, [32]), (29, 31, .bipush (-2), []), (31, 32, .ireturn, []), (32, 33, .aload_n 0, [0]), (33, 36, .getfield 9, [1, 1, 13]), (36, 38, .bipush 18, []), (38, 39, .iload_n 1, [1]), (39, 40, .iadd, []), (40, 41, .iaload, []), (41, 43, .bipush 6, []), (43, 46, .if_icmp .ne 19, [62]), (46, 47, .aload_n 0, [0]), (47, 49, .bipush 36, []), (49, 50, .iconst 4, []), (50, 51, .iload_n 1, [1]), (51, 52, .imul, []), (52, 53, .iadd, []), (53, 54, .iload_n 2, [2]), (54, 55, .iadd, []), (55, 56, .iload_n 3, [3]), (56, 59, .invokevirtual 163, [2, 13, 33, 0]), (59, 62, .goto 5, [64]), (62, 64, .bipush (-3), []), (64, 65, .ireturn, [])]
/-- CoinTelescopeModel.move(II)I -/
def c35 : List (Nat × Nat × ClassFile.Instr × List Int) := [(0, 1, .aload_n 0, [0]), (1, 2, .iload_n 1, [1]), (2, 5, .invokevirtual 149, [1, 13, 5, 0]), (5, 8, .ifCond .eq 22, [27]), (8, 9, .iload_n 2, [2]), (9, 12, .invokestatic 145, [0, 1, 3]), (12, 15, .ifCond .eq 15, [27]), (15, 16, .aload_n 0, [0]), (16, 18, .bipush 30, []), (18, 19, .iload_n 1, [1]), (19, 20, .iadd, []), (20, 21, .iload_n 2, [2]), (21, 24, .invokevirtual 163, [2, 13, 33, 0]), (24, 27, .goto 4, [28]), (27, 28, .iconst (-1), []), (28, 29, .ireturn, [])]
/-- CoinTelescopeModel.had(IZ)I -/
def c36 : List (Nat × Nat × ClassFile.Instr × List Int) := [(0, 1, .aload_n 0, [0]), (1, 2, .iload_n 1, [1]), (2, 5, .invokevirtual 149, [1, 13, 5, 0]), (5, 8, .ifCond .eq 22, [27]), (8, 9, .aload_n 0, [0]), (9, 10, .iconst 2, []), (10, 11, .iload_n 1, [1]), (11, 12, .iadd, []), (12, 13, .iload_n 2, [2]), (13, 16, .ifCond .eq 7, [20]), (16, 17, .iconst 1, []), (17, 20, .goto 4, [21]), (20, 21, .iconst 0, []), (21, 24, .invokevirtual 163, [2, 13, 33, 0]), (24, 27, .goto 4, [28]), (27, 28, .iconst (-1), []), (28, 29, .ireturn, [])]
/-- CoinTelescopeModel.point(I)I -/
def c37 : List (Nat × Nat × ClassFile.Instr × List Int) := [(0, 1, .iload_n 1, [1]), (1, 4, .invokestatic 145, [0, 1, 3]), (4, 7, .ifCond .eq 12, [16]), (7, 8, .aload_n 0, [0]), (8, 9, .iconst 1, []), (9, 10, .iload_n 1, [1]), (10, 13, .invokevirtual 163, [2, 13, 33, 0]), (13, 16, .goto 4, [17]), (16, 17, .iconst (-1), []), (17, 18, .ireturn, [])]
/-- CoinTelescopeModel.hadOnes()I -/
def c38 : List (Nat × Nat × ClassFile.Instr × List Int) := [(0, 1, .iconst 0, []), (1, 2, .istore_n 1, [1]), (2, 3, .iconst 0, []), (3, 4, .istore_n 2, [2]), (4, 5, .iload_n 2, [2]), (5, 6, .aload_n 0, [0]), (6, 9, .getfield 9, [1, 1, 13]), (9, 11, .bipush 11, []), (11, 12, .iaload, []), (12, 15, .if_icmp .ge 31, [43]), (15, 16, .iload_n 1, [1]), (16, 17, .aload_n 0, [0]), (17, 20, .getfield 9, [1, 1, 13]), (20, 21, .iconst 2, []), (21, 22, .iload_n 2, [2]), (22, 23, .iadd, []), (23, 24, .iaload, []), (24, 25, .iconst 1, []), (25, 28, .if_icmp .ne 9, [34]), (28, 29, .iconst 1, []), (29, 30, .iload_n 2, [2]), (30, 31, .ishl, []), (31, 34, .goto 4, [35]), (34, 35, .iconst 0, []), (35, 36, .ior, []), (36, 37, .istore_n 1, [1]), (37, 40, .iinc 2 1, [2, 1]), (40, 43, .goto (-36), [4]), (43, 44, .iload_n 1, [1]), (44, 45, .ireturn, [])]
/-- CoinTelescopeModel.lost()I -/
def c39 : List (Nat × Nat × ClassFile.Instr × List Int) := [(0, 1, .aload_n 0, [0]), (1, 4, .invokevirtual 166, [0, 13, 25, 0]), (4, 5, .aload_n 0, [0]), (5, 8, .getfield 9, [1, 1, 13]), (8, 10, .bipush 8, []), (10, 11, .iaload, []), (11, 12, .iadd, []), (12, 14, .bipush 99, []), (14, 15, .isub, []), (15, 16, .istore_n 1, [1]), (16, 17, .aload_n 0, [0]), (17, 20, .sipush 204, []), (20, 21, .iconst 0, []), (21, 24, .invokevirtual 49, [2, 13, 24, 0]), (24, 27, .ifCond .ne 13, [37]), (27, 28, .aload_n 0, [0]), (28, 31, .getfield 9, [1, 1, 13]), (31, 33, .bipush 8, []), (33, 34, .iaload, []), (34, 37, .goto 12, [46]), (37, 38, .iload_n 1, [1]), (38, 41, .ifCond .ge 7, [45]), (41, 42, .iconst 0, []), (42, 45, .goto 4, [46]), (45, 46, .iload_n 1, [1]), (46, 47, .ireturn, [])]
/-- CoinTelescopeModel.told(I)I -/
def c40 : List (Nat × Nat × ClassFile.Instr × List Int) := [(0, 1, .iload_n 1, [1]), (1, 56, .tableswitch 126 0 9 #[55, 62, 67, 76, 85, 92, 100, 108, 116, 121], [127, 0, 56, 1, 63, 2, 68, 3, 77, 4, 86, 5, 93, 6, 101, 7, 109, 8, 117, 9, 122]), (56, 57, .aload_n 0, [0]), (57, 60, .getfield 9, [1, 1, 13]), (60, 61, .iconst 0, []), (61, 62, .iaload, []), (62, 63, .ireturn, []), (63, 64, .aload_n 0, [0]), (64, 67, .invokevirtual 166, [0, 13, 25, 0]), (67, 68, .ireturn, []), (68, 69, .aload_n 0, [0]), (69, 72, .sipush 204, []), (72, 73, .iconst 0, []), (73, 76, .invokevirtual 49, [2, 13, 24, 0]), (76, 77, .ireturn, []), (77, 78, .aload_n 0, [0]), (78, 81, .sipush 209, []), (81, 82, .iconst 0, []), (82, 85, .invokevirtual 49, [2, 13, 24, 0]), (85, 86, .ireturn, []), (86, 87, .aload_n 0, [0]), (87, 90, .getfield 9, [1, 1, 13]), (90, 91, .iconst 1, []), (91, 92, .iaload, []), (92, 93, .ireturn, []), (93, 94, .aload_n 0, [0]), (94, 97, .getfield 9, [1, 1, 13]), (97, 99, .bipush 8, []), (99, 100, .iaload, []), (100, 101, .ireturn, []), (101, 102, .aload_n 0, [0]), (102, 105, .getfield 9, [1, 1, 13]), (105, 107, .bipush 9, []), (107, 108, .iaload, []), (108, 109, .ireturn, []), (109, 110, .aload_n 0, [0]), (110, 113, .getfield 9, [1, 1, 13]), (113, 115, .bipush 10, []), (115, 116, .iaload, []), (116, 117, .ireturn, []), (117, 118, .aload_n 0, [0]), (118, 121, .invokevirtual 169, [0, 13, 38, 0]), (121, 122, .ireturn, []), (122, 123, .aload_n 0, [0]), (123, 126, .invokevirtual 172, [0, 13, 39, 0]), (126, 127, .ireturn, []), (127, 128, .iconst (-1), []), (128, 129, .ireturn, [])]
/-- CoinTelescopeModel.pay()I -/
def c41 : List (Nat × Nat × ClassFile.Instr × List Int) := [(0, 1, .aload_n 0, [0]), (1, 4, .getfield 9, [1, 1, 13]), (4, 6, .bipush 9, []), (6, 7, .iaload, []), (7, 10, .sipush 9999, []), (10, 13, .if_icmp .ne 6, [16]), (13, 15, .bipush (-3), []), (15, 16, .ireturn, []), (16, 17, .aload_n 0, [0]), (17, 20, .getfield 9, [1, 1, 13]), (20, 22, .bipush 9, []), (22, 23, .dup2, []), (23, 24, .iaload, []), (24, 25, .iconst 1, []), (25, 26, .iadd, []), (26, 27, .iastore, []), (27, 28, .aload_n 0, [0]), (28, 31, .sipush 204, []), (31, 32, .iconst 0, []), (32, 35, .invokevirtual 49, [2, 13, 24, 0]), (35, 38, .ifCond .le 13, [48]), (38, 39, .aload_n 0, [0]), (39, 42, .getfield 9, [1, 1, 13]), (42, 44, .bipush 8, []), (44, 45, .iaload, []), (45, 48, .goto 4, [49]), (48, 49, .iconst 0, []), (49, 50, .aload_n 0, [0]), (50, 53, .invokevirtual 166, [0, 13, 25, 0]), (53, 54, .iadd, []), (54, 55, .istore_n 1, [1]), (55, 56, .aload_n 0, [0]), (56, 59, .getfield 9, [1, 1, 13]), (59, 61, .bipush 8, []), (61, 62, .iload_n 1, [1]), (62, 64, .bipush 99, []), (64, 67, .if_icmp .le 8, [72]), (67, 69, .bipush 99, []), (69, 72, .goto 4, [73]), (72, 73, .iload_n 1, [1]), (73, 74, .iastore, []), (74, 75, .aload_n 0, [0]), (75, 78, .getfield 9, [1, 1, 13]), (78, 80, .bipush 8, []), (80, 81, .iaload, []), (81, 82, .ireturn, [])]
/-- CoinTelescopeModel.brought(II)I -/
def c42 : List (Nat × Nat × ClassFile.Instr × List Int) := [(0, 1, .iload_n 1, [1]), (1, 32, .tableswitch 92 1 4 #[31, 46, 62, 77], [93, 1, 32, 2, 47, 3, 63, 4, 78]), (32, 33, .iload_n 0, [0]), (33, 35, .bipush 6, []), (35, 38, .if_icmp .ge 7, [42]), (38, 39, .iload_n 0, [0]), (39, 42, .goto 7, [46]), (42, 43, .iload_n 0, [0]), (43, 45, .bipush 6, []), (45, 46, .isub, []), (46, 47, .ireturn, []), (47, 48, .iload_n 0, [0]), (48, 50, .bipush 6, []), (50, 51, .irem, []), (51, 52, .iconst 5, []), (52, 55, .if_icmp .ne 7, [59]), (55, 56, .iload_n 0, [0]), (56, 59, .goto 6, [62]), (59, 60, .iload_n 0, [0]), (60, 61, .iconst 1, []), (61, 62, .iadd, []), (62, 63, .ireturn, []), (63, 64, .iload_n 0, [0]), (64, 66, .bipush 17, []), (66, 69, .if_icmp .le 7, [73]), (69, 70, .iload_n 0, [0]), (70, 73, .goto 7, [77]), (73, 74, .iload_n 0, [0]), (74, 76, .bipush 6, []), (76, 77, .iadd, []), (77, 78, .ireturn, []), (78, 79, .iload_n 0, [0]), (79, 81, .bipush 6, []), (81, 82, .irem, []), (82, 85, .ifCond .ne 7, [89]), (85, 86, .iload_n 0, [0]), (86, 89, .goto 6, [92]), (89, 90, .iload_n 0, [0]), (90, 91, .iconst 1, []), (91, 92, .isub, []), (92, 93, .ireturn, []), (93, 94, .iload_n 0, [0]), (94, 95, .ireturn, [])]
/-- CoinTelescopeModel.goes(I)I -/
def c43 : List (Nat × Nat × ClassFile.Instr × List Int) := [(0, 1, .aload_n 0, [0]), (1, 4, .getfield 9, [1, 1, 13]), (4, 5, .iconst 0, []), (5, 6, .dup2, []), (6, 7, .iaload, []), (7, 8, .iconst 1, []), (8, 9, .iadd, []), (9, 10, .iastore, []), (10, 11, .iload_n 1, [1]), (11, 12, .iconst 5, []), (12, 15, .if_icmp .ne 5, [17]), (15, 16, .iconst 0, []), (16, 17, .ireturn, []), (17, 18, .aload_n 0, [0]), (18, 21, .getfield 9, [1, 1, 13]), (21, 22, .iconst 1, []), (22, 23, .aload_n 0, [0]), (23, 26, .getfield 9, [1, 1, 13]), (26, 27, .iconst 1, []), (27, 28, .iaload, []), (28, 29, .iload_n 1, [1]), (29, 32, .invokestatic 175, [0, 2, 42]), (32, 33, .iastore, []), (33, 34, .iconst 0, []), (34, 35, .istore_n 2, [2]), (35, 36, .iconst 0, []), (36, 37, .istore_n 3, [3]), (37, 38, .iload_n 3, [3]), (38, 39, .aload_n 0, [0]), (39, 42, .getfield 9, [1, 1, 13]), (42, 44, .bipush 11, []), (44, 45, .iaload, []), (45, 48, .if_icmp .ge 109, [154]), (48, 49, .aload_n 0, [0]), (49, 52, .getfield 9, [1, 1, 13]), (52, 53, .iconst 2, []), (53, 54, .iload_n 3, [3]), (54, 55, .iadd, []), (55, 56, .iaload, []), (56, 59, .ifCond .ne 41, [97]), (59, 60, .aload_n 0, [0]), (60, 61, .iload_n 3, [3]), (61, 62, .aload_n 0, [0]), (62, 65, .getfield 9, [1, 1, 13]), (65, 66, .iconst 0, []), (66, 67, .iaload, []), (67, 70, .invokevirtual 139, [2, 13, 26, 0]), (70, 71, .aload_n 0, [0]), (71, 74, .getfield 9, [1, 1, 13]), (74, 75, .iconst 1, []), (75, 76, .iaload, []), (76, 79, .if_icmp .ne 21, [97]), (79, 80, .aload_n 0, [0]), (80, 81, .iload_n 3, [3]), (81, 82, .aload_n 0, [0]), (82, 85, .getfield 9, [1, 1, 13]), (85, 86, .iconst 0, []), (86, 87, .iaload, []), (87, 90, .invokevirtual 156, [2, 13, 27, 0]), (90, 93, .ifCond .ne 7, [97]), (93, 94, .iconst 1, []), (94, 97, .goto 4, [98]), (97, 98, .iconst 0, []), (98, 100, .istore 4, [4]), (100, 101, .iload_n 2, [2]), (101, 103, .iload 4, [4]), (103, 106, .ifCond .eq 17, [120]), (106, 107, .aload_n 0, [0]), (107, 108, .iload_n 3, [3]), (108, 109, .aload_n 0, [0]), (109, 112, .getfield 9, [1, 1, 13]), (112, 113, .iconst 0, []), (113, 114, .iaload, []), (114, 117, .invokevirtual 160, [2, 13, 29, 0]), (117, 120, .goto 4, [121]), (120, 121, .iconst 0, []), (121, 122, .iadd, []), (122, 123, .istore_n 2, [2]), (123, 124, .aload_n 0, [0]), (124, 127, .getfield 9, [1, 1, 13]), (127, 128, .iconst 2, []), (128, 129, .iload_n 3, [3]), (129, 130, .iadd, []), (130, 132, .iload 4, [4]), (132, 135, .ifCond .eq 7, [139]), (135, 136, .iconst 1, []), (136, 139, .goto 11, [147]), (139, 140, .aload_n 0, [0]), (140, 143, .getfield 9, [1, 1, 13]), (143, 144, .iconst 2, []), (144, 145, .iload_n 3, [3]), (145, 146, .iadd, []), (146, 147, .iaload, []), (147, 148, .iastore, []), (148, 151, .iinc 3 1, [3, 1]), (151, 154, .goto (-114), [37]), (154, 155, .iload_n 2, [2]), (155, 156, .ireturn, [])]
/-- CoinTelescopeModel.tick(I)I -/
def c44 : List (Nat × Nat × ClassFile.Instr × List Int) := [(0, 1, .iload_n 1, [1]), (1, 2, .iconst 0, []), (2, 3, .iconst 4, []), (3, 6, .invokestatic 41, [0, 3, 1]), (6, 9, .ifCond .ne 5, [11]), (9, 10, .iconst (-1), []), (10, 11, .ireturn, []), (11, 12, .aload_n 0, [0]), (12, 15, .getfield 9, [1, 1, 13]), (15, 17, .bipush 8, []), (17, 18, .iaload, []), (18, 21, .ifCond .eq 15, [33]), (21, 22, .aload_n 0, [0]), (22, 25, .getfield 9, [1, 1, 13]), (25, 26, .iconst 0, []), (26, 27, .iaload, []), (27, 30, .sipush 9999, []), (30, 33, .if_icmp .ne 6, [36]), (33, 35, .bipush (-3), []), (35, 36, .ireturn, []), (36, 37, .aload_n 0, [0]), (37, 40, .invokevirtual 153, [0, 13, 6, 0]), (40, 41, .aload_n 0, [0]), (41, 42, .iload_n 1, [1]), (42, 45, .invokevirtual 178, [1, 13, 43, 0]), (45, 46, .istore_n 2, [2]), (46, 47, .aload_n 0, [0]), (47, 50, .getfield 9, [1, 1, 13]), (50, 52, .bipush 10, []), (52, 53, .aload_n 0, [0]), (53, 56, .getfield 9, [1, 1, 13]), (56, 58, .bipush 10, []), (58, 59, .iaload, []), (59, 60, .iload_n 2, [2]), (60, 61, .iadd, []), (61, 63, .ldc 181, [0, 9999999]), (63, 66, .if_icmp .le 8, [71]), (66, 68, .ldc 181, [0, 9999999]), (68, 71, .goto 12, [80]), (71, 72, .aload_n 0, [0]), (72, 75, .getfield 9, [1, 1, 13]), (75, 77, .bipush 10, []), (77, 78, .iaload, []), (78, 79, .iload_n 2, [2]), (79, 80, .iadd, []), (80, 81, .iastore, []), (81, 82, .aload_n 0, [0]), (82, 85, .getfield 9, [1, 1, 13]), (85, 87, .bipush 8, []), (87, 88, .dup2, []), (88, 89, .iaload, []), (89, 90, .iconst 1, []), (90, 91, .isub, []), (91, 92, .iastore, []), (92, 93, .iload_n 2, [2]), (93, 94, .ireturn, [])]
/-- CoinTelescopeModel.pass(I)I -/
def c45 : List (Nat × Nat × ClassFile.Instr × List Int) := [(0, 1, .iload_n 1, [1]), (1, 2, .iconst 0, []), (2, 4, .bipush 60, []), (4, 7, .invokestatic 41, [0, 3, 1]), (7, 10, .ifCond .ne 6, [13]), (10, 12, .bipush (-2), []), (12, 13, .ireturn, []), (13, 14, .aload_n 0, [0]), (14, 17, .getfield 9, [1, 1, 13]), (17, 18, .iconst 0, []), (18, 19, .iaload, []), (19, 20, .iload_n 1, [1]), (20, 21, .iadd, []), (21, 24, .sipush 9999, []), (24, 27, .if_icmp .le 6, [30]), (27, 29, .bipush (-3), []), (29, 30, .ireturn, []), (30, 31, .aload_n 0, [0]), (31, 34, .getfield 9, [1, 1, 13]), (34, 35, .iconst 0, []), (35, 36, .dup2, []), (36, 37, .iaload, []), (37, 38, .iload_n 1, [1]), (38, 39, .iadd, []), (39, 40, .iastore, []), (40, 41, .aload_n 0, [0]), (41, 44, .getfield 9, [1, 1, 13]), (44, 46, .bipush 8, []), (46, 47, .aload_n 0, [0]), (47, 50, .getfield 9, [1, 1, 13]), (50, 52, .bipush 8, []), (52, 53, .iaload, []), (53, 54, .iload_n 1, [1]), (54, 57, .if_icmp .ge 7, [61]), (57, 58, .iconst 0, []), (58, 61, .goto 12, [70]), (61, 62, .aload_n 0, [0]), (62, 65, .getfield 9, [1, 1, 13]), (65, 67, .bipush 8, []), (67, 68, .iaload, []), (68, 69, .iload_n 1, [1]), (69, 70, .isub, []), (70, 71, .iastore, []), (71, 72, .aload_n 0, [0]), (72, 75, .getfield 9, [1, 1, 13]), (75, 77, .bipush 8, []), (77, 78, .iaload, []), (78, 79, .ireturn, [])]
/-- CoinTelescopeModel.power(I)I -/
def c46 : List (Nat × Nat × ClassFile.Instr × List Int) := [(0, 1, .iconst 1, []), (1, 2, .istore_n 1, [1]), (2, 3, .iconst 0, []), (3, 4, .istore_n 2, [2]), (4, 5, .iload_n 2, [2]), (5, 6, .iload_n 0, [0]), (6, 9, .if_icmp .ge 13, [19]), (9, 10, .iload_n 1, [1]), (10, 11, .iconst 5, []), (11, 12, .imul, []), (12, 13, .istore_n 1, [1]), (13, 16, .iinc 2 1, [2, 1]), (16, 19, .goto (-12), [4]), (19, 20, .iload_n 1, [1]), (20, 21, .ireturn, [])]
/-- CoinTelescopeModel.looksFor(I)V -/
def c47 : List (Nat × Nat × ClassFile.Instr × List Int) := [(0, 1, .aload_n 0, [0]), (1, 4, .invokevirtual 182, [0, 13, 7, 0]), (4, 5, .aload_n 0, [0]), (5, 6, .iconst (-1), []), (6, 9, .putfield 185, [14, 0, 13]), (9, 10, .iconst 0, []), (10, 11, .istore_n 2, [2]), (11, 12, .iload_n 2, [2]), (12, 13, .iload_n 1, [1]), (13, 16, .invokestatic 188, [0, 1, 46]), (16, 19, .if_icmp .ge 87, [103]), (19, 20, .iconst 0, []), (20, 21, .istore_n 3, [3]), (21, 22, .iload_n 1, [1]), (22, 23, .iconst 1, []), (23, 24, .isub, []), (24, 26, .istore 4, [4]), (26, 28, .iload 4, [4]), (28, 31, .ifCond .lt 25, [53]), (31, 32, .iload_n 3, [3]), (32, 33, .aload_n 0, [0]), (33, 34, .iload_n 2, [2]), (34, 36, .iload 4, [4]), (36, 39, .invokestatic 188, [0, 1, 46]), (39, 40, .idiv, []), (40, 41, .iconst 5, []), (41, 42, .irem, []), (42, 45, .invokevirtual 178, [1, 13, 43, 0]), (45, 46, .iadd, []), (46, 47, .istore_n 3, [3]), (47, 50, .iinc 4 (-1), [4, (-1)]), (50, 53, .goto (-24), [26]), (53, 54, .aload_n 0, [0]), (54, 57, .invokevirtual 191, [0, 13, 8, 0]), (57, 58, .aload_n 0, [0]), (58, 59, .iload_n 3, [3]), (59, 60, .aload_n 0, [0]), (60, 63, .getfield 185, [14, 0, 13]), (63, 66, .if_icmp .le 7, [70]), (66, 67, .iload_n 2, [2]), (67, 70, .goto 7, [74]), (70, 71, .aload_n 0, [0]), (71, 74, .getfield 194, [13, 0, 13]), (74, 77, .putfield 194, [13, 0, 13]), (77, 78, .aload_n 0, [0]), (78, 79, .iload_n 3, [3]), (79, 80, .aload_n 0, [0]), (80, 83, .getfield 185, [14, 0, 13]), (83, 86, .if_icmp .le 7, [90]), (86, 87, .iload_n 3, [3]), (87, 90, .goto 7, [94]), (90, 91, .aload_n 0, [0]), (91, 94, .getfield 185, [14, 0, 13]), (94, 97, .putfield 185, [14, 0, 13]), (97, 100, .iinc 2 1, [2, 1]), (100, 103, .goto (-89), [11]), (103, 104, .return_, [])]
/-- CoinTelescopeModel.look(II)I -/
def c48 : List (Nat × Nat × ClassFile.Instr × List Int) := [(0, 1, .iload_n 2, [2]), (1, 2, .iconst (-1), []), (2, 3, .iconst 4, []), (3, 6, .invokestatic 41, [0, 3, 1]), (6, 9, .ifCond .ne 5, [11]), (9, 10, .iconst (-1), []), (10, 11, .ireturn, []), (11, 12, .iload_n 1, [1]), (12, 13, .iconst 0, []), (13, 14, .iconst 5, []), (14, 17, .invokestatic 41, [0, 3, 1]), (17, 20, .ifCond .ne 6, [23]), (20, 22, .bipush (-2), []), (22, 23, .ireturn, []), (23, 24, .aload_n 0, [0]), (24, 27, .invokevirtual 153, [0, 13, 6, 0]), (27, 28, .aload_n 0, [0]), (28, 29, .iload_n 1, [1]), (29, 32, .invokevirtual 197, [1, 13, 47, 0]), (32, 33, .iload_n 2, [2]), (33, 34, .iconst (-1), []), (34, 37, .if_icmp .ne 10, [44]), (37, 38, .aload_n 0, [0]), (38, 41, .getfield 185, [14, 0, 13]), (41, 44, .goto 28, [69]), (44, 45, .iload_n 2, [2]), (45, 46, .iload_n 1, [1]), (46, 49, .if_icmp .ge 21, [67]), (49, 50, .aload_n 0, [0]), (50, 53, .getfield 194, [13, 0, 13]), (53, 54, .iload_n 1, [1]), (54, 55, .iconst 1, []), (55, 56, .isub, []), (56, 57, .iload_n 2, [2]), (57, 58, .isub, []), (58, 61, .invokestatic 188, [0, 1, 46]), (61, 62, .idiv, []), (62, 63, .iconst 5, []), (63, 64, .irem, []), (64, 67, .goto 5, [69]), (67, 69, .bipush (-5), []), (69, 70, .ireturn, [])]
/-- CoinTelescopeModel.aim(II)I -/
def c49 : List (Nat × Nat × ClassFile.Instr × List Int) := [(0, 1, .iload_n 2, [2]), (1, 2, .iconst 0, []), (2, 3, .iconst 1, []), (3, 6, .invokestatic 41, [0, 3, 1]), (6, 9, .ifCond .ne 5, [11]), (9, 10, .iconst (-1), []), (10, 11, .ireturn, []), (11, 12, .iload_n 1, [1]), (12, 13, .iconst 1, []), (13, 14, .iconst 3, []), (14, 17, .invokestatic 41, [0, 3, 1]), (17, 20, .ifCond .ne 6, [23]), (20, 22, .bipush (-2), []), (22, 23, .ireturn, []), (23, 24, .aload_n 0, [0]), (24, 27, .invokevirtual 153, [0, 13, 6, 0]), (27, 28, .aload_n 0, [0]), (28, 31, .getfield 9, [1, 1, 13]), (31, 32, .iconst 1, []), (32, 33, .iaload, []), (33, 34, .istore_n 3, [3]), (34, 35, .iconst (-1), []), (35, 37, .istore 4, [4]), (37, 38, .iconst (-1), []), (38, 40, .istore 5, [5]), (40, 41, .iconst 0, []), (41, 43, .istore 6, [6]), (43, 45, .iload 6, [6]), (45, 47, .bipush 24, []), (47, 50, .if_icmp .ge 60, [107]), (50, 51, .aload_n 0, [0]), (51, 54, .getfield 9, [1, 1, 13]), (54, 55, .iconst 1, []), (55, 57, .iload 6, [6]), (57, 58, .iastore, []), (58, 59, .aload_n 0, [0]), (59, 60, .iload_n 1, [1]), (60, 63, .invokevirtual 197, [1, 13, 47, 0]), (63, 64, .aload_n 0, [0]), (64, 67, .getfield 185, [14, 0, 13]), (67, 69, .iload 5, [5]), (69, 72, .if_icmp .le 8, [77]), (72, 74, .iload 6, [6]), (74, 77, .goto 5, [79]), (77, 79, .iload 4, [4]), (79, 81, .istore 4, [4]), (81, 82, .aload_n 0, [0]), (82, 85, .getfield 185, [14, 0, 13]), (85, 87, .iload 5, [5]), (87, 90, .if_icmp .le 10, [97]), (90, 91, .aload_n 0, [0]), (91, 94, .getfield 185, [14, 0, 13]), (94, 97, .goto 5, [99]), (97, 99, .iload 5, [5]), (99, 101, .istore 5, [5]), (101, 104, .iinc 6 1, [6, 1]), (104, 107, .goto (-61), [43]), (107, 108, .aload_n 0, [0]), (108, 111, .getfield 9, [1, 1, 13]), (111, 112, .iconst 1, []), (112, 113, .iload_n 3, [3]), (113, 114, .iastore, []), (114, 115, .iload_n 2, [2]), (115, 118, .ifCond .ne 8, [123]), (118, 120, .iload 4, [4]), (120, 123, .goto 5, [125]), (123, 125, .iload 5, [5]), (125, 126, .ireturn, [])]
/-- CoinTelescopeModel.ticksTo(III)I -/
def c50 : List (Nat × Nat × ClassFile.Instr × List Int) := [(0, 1, .iconst 1, []), (1, 3, .istore 4, [4]), (3, 5, .iload 4, [4]), (5, 7, .bipush 40, []), (7, 10, .if_icmp .gt 42, [49]), (10, 11, .aload_n 0, [0]), (11, 12, .iload_n 1, [1]), (12, 13, .iload_n 3, [3]), (13, 15, .iload 4, [4]), (15, 16, .iadd, []), (16, 19, .invokevirtual 156, [2, 13, 27, 0]), (19, 22, .ifCond .ne 24, [43]), (22, 23, .iload_n 2, [2]), (23, 24, .aload_n 0, [0]), (24, 25, .iload_n 1, [1]), (25, 26, .iload_n 3, [3]), (26, 28, .iload 4, [4]), (28, 29, .iadd, []), (29, 32, .invokevirtual 139, [2, 13, 26, 0]), (32, 35, .invokestatic 200, [0, 2, 4]), (35, 37, .iload 4, [4]), (37, 40, .if_icmp .gt 6, [43]), (40, 42, .iload 4, [4]), (42, 43, .ireturn, []), (43, 46, .iinc 4 1, [4, 1]), (46, 49, .goto (-43), [3]), (49, 51, .ldc 203, [0, 1000000000]), (51, 52, .ireturn, [])]
/-- CoinTelescopeModel.soon(I)I -/
def c51 : List (Nat × Nat × ClassFile.Instr × List Int) := [(0, 1, .aload_n 0, [0]), (1, 2, .iload_n 1, [1]), (2, 5, .invokevirtual 149, [1, 13, 5, 0]), (5, 8, .ifCond .ne 5, [10]), (8, 9, .iconst (-1), []), (9, 10, .ireturn, []), (10, 11, .aload_n 0, [0]), (11, 14, .invokevirtual 153, [0, 13, 6, 0]), (14, 15, .aload_n 0, [0]), (15, 16, .iload_n 1, [1]), (16, 17, .aload_n 0, [0]), (17, 20, .getfield 9, [1, 1, 13]), (20, 21, .iconst 1, []), (21, 22, .iaload, []), (22, 23, .aload_n 0, [0]), (23, 26, .getfield 9, [1, 1, 13]), (26, 27, .iconst 0, []), (27, 28, .iaload, []), (28, 31, .invokevirtual 204, [3, 13, 50, 0]), (31, 32, .istore_n 2, [2]), (32, 33, .iload_n 2, [2]), (33, 35, .ldc 203, [0, 1000000000]), (35, 38, .if_icmp .ne 8, [43]), (38, 40, .bipush (-5), []), (40, 43, .goto 4, [44]), (43, 44, .iload_n 2, [2]), (44, 45, .ireturn, [])]
/-- CoinTelescopeModel.ordersFrom(IIII)V -/
def c52 : List (Nat × Nat × ClassFile.Instr × List Int) := [(0, 1, .iload_n 2, [2]), (1, 4, .ifCond .ne 61, [62]), (4, 6, .iload 4, [4]), (6, 7, .aload_n 0, [0]), (7, 10, .getfield 9, [1, 1, 13]), (10, 11, .iconst 0, []), (11, 12, .iaload, []), (12, 13, .isub, []), (13, 14, .aload_n 0, [0]), (14, 17, .getfield 208, [17, 0, 13]), (17, 20, .if_icmp .ge 45, [62]), (20, 21, .aload_n 0, [0]), (21, 23, .iload 4, [4]), (23, 24, .aload_n 0, [0]), (24, 27, .getfield 9, [1, 1, 13]), (27, 28, .iconst 0, []), (28, 29, .iaload, []), (29, 30, .isub, []), (30, 33, .putfield 208, [17, 0, 13]), (33, 34, .iconst 0, []), (34, 36, .istore 5, [5]), (36, 38, .iload 5, [5]), (38, 39, .iload_n 1, [1]), (39, 42, .if_icmp .ge 23, [62]), (42, 43, .aload_n 0, [0]), (43, 46, .getfield 31, [16, 1, 13]), (46, 48, .iload 5, [5]), (48, 49, .aload_n 0, [0]), (49, 52, .getfield 28, [15, 1, 13]), (52, 54, .iload 5, [5]), (54, 55, .iaload, []), (55, 56, .iastore, []), (56, 59, .iinc 5 1, [5, 1]), (59, 62, .goto (-23), [36]), (62, 63, .iconst 0, []), (63, 65, .istore 5, [5]), (65, 67, .iload 5, [5]), (67, 68, .aload_n 0, [0]), (68, 71, .getfield 9, [1, 1, 13]), (71, 73, .bipush 11, []), (73, 74, .iaload, []), (74, 77, .if_icmp .ge 81, [155]), (77, 78, .iload_n 2, [2]), (78, 80, .iload 5, [5]), (80, 81, .ishr, []), (81, 82, .iconst 1, []), (82, 83, .iand, []), (83, 84, .iconst 1, []), (84, 87, .if_icmp .ne 15, [99]), (87, 88, .aload_n 0, [0]), (88, 90, .iload 5, [5]), (90, 91, .iload_n 3, [3]), (91, 93, .iload 4, [4]), (93, 96, .invokevirtual 204, [3, 13, 50, 0]), (96, 99, .goto 5, [101]), (99, 101, .ldc 203, [0, 1000000000]), (101, 103, .istore 6, [6]), (103, 105, .iload 6, [6]), (105, 107, .ldc 203, [0, 1000000000]), (107, 110, .if_icmp .eq 42, [149]), (110, 111, .aload_n 0, [0]), (111, 114, .getfield 28, [15, 1, 13]), (114, 115, .iload_n 1, [1]), (115, 117, .iload 5, [5]), (117, 118, .iastore, []), (118, 119, .aload_n 0, [0]), (119, 120, .iload_n 1, [1]), (120, 121, .iconst 1, []), (121, 122, .iadd, []), (122, 123, .iload_n 2, [2]), (123, 124, .iconst 1, []), (124, 126, .iload 5, [5]), (126, 127, .ishl, []), (127, 128, .iconst (-1), []), (128, 129, .ixor, []), (129, 130, .iand, []), (130, 131, .aload_n 0, [0]), (131, 133, .iload 5, [5]), (133, 135, .iload 4, [4]), (135, 137, .iload 6, [6]), (137, 138, .iadd, []), (138, 141, .invokevirtual 139, [2, 13, 26, 0]), (141, 143, .iload 4, [4]), (143, 145, .iload 6, [6]), (145, 146, .iadd, []), (146, 149, .invokevirtual 211, [4, 13, 52, 0]), (149, 152, .iinc 5 1, [5, 1]), (152, 155, .goto (-87), [65]), (155, 156, .return_, [])]
/-- CoinTelescopeModel.order(I)I -/
def c53 : List (Nat × Nat × ClassFile.Instr × List Int) := [(0, 1, .iload_n 1, [1]), (1, 2, .iconst (-1), []), (2, 3, .iconst 5, []), (3, 6, .invokestatic 41, [0, 3, 1]), (6, 9, .ifCond .ne 5, [11]), (9, 10, .iconst (-1), []), (10, 11, .ireturn, []), (11, 12, .aload_n 0, [0]), (12, 15, .invokevirtual 153, [0, 13, 6, 0]), (15, 16, .iconst 1, []), (16, 17, .aload_n 0, [0]), (17, 20, .getfield 9, [1, 1, 13]), (20, 22, .bipush 11, []), (22, 23, .iaload, []), (23, 24, .ishl, []), (24, 25, .iconst 1, []), (25, 26, .isub, []), (26, 27, .aload_n 0, [0]), (27, 30, .invokevirtual 169, [0, 13, 38, 0]), (30, 31, .iconst (-1), []), (31, 32, .ixor, []), (32, 33, .iand, []), (33, 34, .istore_n 2, [2]), (34, 35, .iconst 0, []), (35, 36, .istore_n 3, [3]), (36, 37, .iconst 0, []), (37, 39, .istore 4, [4]), (39, 41, .iload 4, [4]), (41, 43, .bipush 6, []), (43, 46, .if_icmp .ge 18, [61]), (46, 47, .iload_n 3, [3]), (47, 48, .iload_n 2, [2]), (48, 50, .iload 4, [4]), (50, 51, .ishr, []), (51, 52, .iconst 1, []), (52, 53, .iand, []), (53, 54, .iadd, []), (54, 55, .istore_n 3, [3]), (55, 58, .iinc 4 1, [4, 1]), (58, 61, .goto (-19), [39]), (61, 62, .aload_n 0, [0]), (62, 64, .ldc 203, [0, 1000000000]), (64, 67, .putfield 208, [17, 0, 13]), (67, 68, .aload_n 0, [0]), (68, 69, .iconst 0, []), (69, 70, .iload_n 2, [2]), (70, 71, .aload_n 0, [0]), (71, 74, .getfield 9, [1, 1, 13]), (74, 75, .iconst 1, []), (75, 76, .iaload, []), (76, 77, .aload_n 0, [0]), (77, 80, .getfield 9, [1, 1, 13]), (80, 81, .iconst 0, []), (81, 82, .iaload, []), (82, 85, .invokevirtual 211, [4, 13, 52, 0]), (85, 86, .aload_n 0, [0]), (86, 89, .getfield 208, [17, 0, 13]), (89, 91, .ldc 203, [0, 1000000000]), (91, 94, .if_icmp .ne 6, [97]), (94, 96, .bipush (-5), []), (96, 97, .ireturn, []), (97, 98, .iload_n 1, [1]), (98, 99, .iconst (-1), []), (99, 102, .if_icmp .ne 10, [109]), (102, 103, .aload_n 0, [0]), (103, 106, .getfield 208, [17, 0, 13]), (106, 109, .goto 19, [125]), (109, 110, .iload_n 1, [1]), (110, 111, .iload_n 3, [3]), (111, 114, .if_icmp .ge 12, [123]), (114, 115, .aload_n 0, [0]), (115, 118, .getfield 31, [16, 1, 13]), (118, 119, .iload_n 1, [1]), (119, 120, .iaload, []), (120, 123, .goto 5, [125]), (123, 125, .bipush (-5), []), (125, 126, .ireturn, [])]
/-- CoinTelescopeModel.stood(III)I -/
def c54 : List (Nat × Nat × ClassFile.Instr × List Int) := [(0, 1, .iload_n 1, [1]), (1, 2, .iconst (-1), []), (2, 5, .if_icmp .ne 13, [15]), (5, 6, .aload_n 0, [0]), (6, 9, .getfield 9, [1, 1, 13]), (9, 11, .bipush 13, []), (11, 12, .iconst 0, []), (12, 13, .iastore, []), (13, 14, .iconst 0, []), (14, 15, .ireturn, []), (15, 16, .aload_n 0, [0]), (16, 17, .iload_n 1, [1]), (17, 20, .invokevirtual 149, [1, 13, 5, 0]), (20, 23, .ifCond .eq 10, [30]), (23, 24, .iload_n 3, [3]), (24, 27, .invokestatic 145, [0, 1, 3]), (27, 30, .ifCond .ne 5, [32]), (30, 31, .iconst (-1), []), (31, 32, .ireturn, []), (32, 33, .iload_n 2, [2]), (33, 34, .iconst 0, []), (34, 36, .bipush 40, []), (36, 39, .invokestatic 41, [0, 3, 1]), (39, 42, .ifCond .ne 6, [45]), (42, 44, .bipush (-2), []), (44, 45, .ireturn, []), (45, 46, .aload_n 0, [0]), (46, 49, .getfield 9, [1, 1, 13]), (49, 51, .bipush 13, []), (51, 52, .iaload, []), (52, 53, .iconst 5, []), (53, 56, .if_icmp .ne 6, [59]), (56, 58, .bipush (-4), []), (58, 59, .ireturn, []), (59, 60, .aload_n 0, [0]), (60, 63, .getfield 9, [1, 1, 13]), (63, 65, .bipush 60, []), (65, 66, .aload_n 0, [0]), (66, 69, .getfield 9, [1, 1, 13]), (69, 71, .bipush 13, []), (71, 72, .iaload, []), (72, 73, .iadd, []), (73, 74, .iload_n 1, [1]), (74, 75, .iastore, []), (75, 76, .aload_n 0, [0]), (76, 79, .getfield 9, [1, 1, 13]), (79, 81, .bipush 65, []), (81, 82, .aload_n 0, [0]), (82, 85, .getfield 9, [1, 1, 13]), (85, 87, .bipush 13, []), (87, 88, .iaload, []), (88, 89, .iadd, []), (89, 90, .iload_n 2, [2]), (90, 91, .iastore, []), (91, 92, .aload_n 0, [0]), (92, 95, .getfield 9, [1, 1, 13]), (95, 97, .bipush 70, []), (97, 98, .aload_n 0, [0]), (98, 101, .getfield 9, [1, 1, 13]), (101, 103, .bipush 13, []), (103, 104, .iaload, []), (104, 105, .iadd, []), (105, 106, .iload_n 3, [3]), (106, 107, .iastore, []), (107, 108, .aload_n 0, [0]), (108, 111, .getfield 9, [1, 1, 13]), (111, 113, .bipush 13, []), (113, 114, .dup2, []), (114, 115, .iaload, []), (115, 116, .iconst 1, []), (116, 117, .iadd, []), (117, 118, .iastore, []), (118, 119, .aload_n 0, [0]), (119, 122, .getfield 9, [1, 1, 13]), (122, 124, .bipush 13, []), (124, 125, .iaload, []), (125, 126, .ireturn, [])]
/-- CoinTelescopeModel.areAsTold(I)Z -/
def c55 : List (Nat × Nat × ClassFile.Instr × List Int) := [(0, 1, .iconst 1, []), (1, 2, .istore_n 2, [2]), (2, 3, .iconst 0, []), (3, 4, .istore_n 3, [3]), (4, 5, .iload_n 3, [3]), (5, 6, .aload_n 0, [0]), (6, 9, .getfield 9, [1, 1, 13]), (9, 11, .bipush 13, []), (11, 12, .iaload, []), (12, 15, .if_icmp .ge 65, [77]), (15, 16, .iload_n 2, [2]), (16, 19, .ifCond .eq 53, [69]), (19, 20, .aload_n 0, [0]), (20, 23, .getfield 9, [1, 1, 13]), (23, 25, .bipush 60, []), (25, 26, .iload_n 3, [3]), (26, 27, .iadd, []), (27, 28, .iaload, []), (28, 29, .iload_n 1, [1]), (29, 32, .if_icmp .ne 36, [65]), (32, 33, .aload_n 0, [0]), (33, 34, .iload_n 1, [1]), (34, 35, .aload_n 0, [0]), (35, 38, .getfield 9, [1, 1, 13]), (38, 39, .iconst 0, []), (39, 40, .iaload, []), (40, 41, .aload_n 0, [0]), (41, 44, .getfield 9, [1, 1, 13]), (44, 46, .bipush 65, []), (46, 47, .iload_n 3, [3]), (47, 48, .iadd, []), (48, 49, .iaload, []), (49, 50, .iadd, []), (50, 53, .invokevirtual 139, [2, 13, 26, 0]), (53, 54, .aload_n 0, [0]), (54, 57, .getfield 9, [1, 1, 13]), (57, 59, .bipush 70, []), (59, 60, .iload_n 3, [3]), (60, 61, .iadd, []), (61, 62, .iaload, []), (62, 65, .if_icmp .ne 7, [69]), (65, 66, .iconst 1, []), (66, 69, .goto 4, [70]), (69, 70, .iconst 0, []), (70, 71, .istore_n 2, [2]), (71, 74, .iinc 3 1, [3, 1]), (74, 77, .goto (-70), [4]), (77, 78, .iload_n 2, [2]), (78, 79, .ireturn, [])]
/-- CoinTelescopeModel.from(I)I -/
def c56 : List (Nat × Nat × ClassFile.Instr × List Int) := [(0, 1, .aload_n 0, [0]), (1, 2, .iload_n 1, [1]), (2, 5, .invokevirtual 149, [1, 13, 5, 0]), (5, 8, .ifCond .ne 5, [10]), (8, 9, .iconst (-1), []), (9, 10, .ireturn, []), (10, 11, .aload_n 0, [0]), (11, 14, .getfield 9, [1, 1, 13]), (14, 16, .bipush 30, []), (16, 17, .iload_n 1, [1]), (17, 18, .iadd, []), (18, 19, .iaload, []), (19, 20, .istore_n 2, [2]), (20, 21, .iconst 0, []), (21, 22, .istore_n 3, [3]), (22, 23, .iconst 0, []), (23, 25, .istore 4, [4]), (25, 27, .iload 4, [4]), (27, 29, .bipush 24, []), (29, 32, .if_icmp .ge 39, [68]), (32, 33, .aload_n 0, [0]), (33, 36, .getfield 9, [1, 1, 13]), (36, 38, .bipush 30, []), (38, 39, .iload_n 1, [1]), (39, 40, .iadd, []), (40, 42, .iload 4, [4]), (42, 43, .iastore, []), (43, 44, .iload_n 3, [3]), (44, 45, .aload_n 0, [0]), (45, 46, .iload_n 1, [1]), (46, 49, .invokevirtual 215, [1, 13, 55, 0]), (49, 52, .ifCond .eq 10, [59]), (52, 53, .iconst 1, []), (53, 55, .iload 4, [4]), (55, 56, .ishl, []), (56, 59, .goto 4, [60]), (59, 60, .iconst 0, []), (60, 61, .ior, []), (61, 62, .istore_n 3, [3]), (62, 65, .iinc 4 1, [4, 1]), (65, 68, .goto (-40), [25]), (68, 69, .aload_n 0, [0]), (69, 72, .getfield 9, [1, 1, 13]), (72, 74, .bipush 30, []), (74, 75, .iload_n 1, [1]), (75, 76, .iadd, []), (76, 77, .iload_n 2, [2]), (77, 78, .iastore, []), (78, 79, .iload_n 3, [3]), (79, 80, .ireturn, [])]
/-- CoinTelescopeModel.firm(II)I -/
def c57 : List (Nat × Nat × ClassFile.Instr × List Int) := [(0, 1, .aload_n 0, [0]), (1, 2, .iload_n 1, [1]), (2, 5, .invokevirtual 149, [1, 13, 5, 0]), (5, 8, .ifCond .eq 12, [17]), (8, 9, .iload_n 2, [2]), (9, 10, .iconst 0, []), (10, 11, .iconst 1, []), (11, 14, .invokestatic 41, [0, 3, 1]), (14, 17, .ifCond .ne 5, [19]), (17, 18, .iconst (-1), []), (18, 19, .ireturn, []), (19, 20, .aload_n 0, [0]), (20, 23, .getfield 9, [1, 1, 13]), (23, 25, .bipush 24, []), (25, 26, .iload_n 1, [1]), (26, 27, .iadd, []), (27, 28, .iaload, []), (28, 29, .istore_n 3, [3]), (29, 30, .iconst 0, []), (30, 32, .istore 4, [4]), (32, 34, .bipush (-5), []), (34, 36, .istore 5, [5]), (36, 38, .bipush 9, []), (38, 40, .istore 6, [6]), (40, 42, .iload 6, [6]), (42, 45, .ifCond .lt 56, [98]), (45, 46, .aload_n 0, [0]), (46, 49, .getfield 9, [1, 1, 13]), (49, 51, .bipush 24, []), (51, 52, .iload_n 1, [1]), (52, 53, .iadd, []), (53, 55, .iload 6, [6]), (55, 56, .iastore, []), (56, 57, .aload_n 0, [0]), (57, 58, .iload_n 1, [1]), (58, 61, .invokevirtual 215, [1, 13, 55, 0]), (61, 63, .istore 7, [7]), (63, 65, .iload 4, [4]), (65, 67, .iload 7, [7]), (67, 70, .ifCond .eq 7, [74]), (70, 71, .iconst 1, []), (71, 74, .goto 4, [75]), (74, 75, .iconst 0, []), (75, 76, .iadd, []), (76, 78, .istore 4, [4]), (78, 80, .iload 7, [7]), (80, 83, .ifCond .eq 8, [88]), (83, 85, .iload 6, [6]), (85, 88, .goto 5, [90]), (88, 90, .iload 5, [5]), (90, 92, .istore 5, [5]), (92, 95, .iinc 6 (-1), [6, (-1)]), (95, 98, .goto (-55), [40]), (98, 99, .aload_n 0, [0]), (99, 102, .getfield 9, [1, 1, 13]), (102, 104, .bipush 24, []), (104, 105, .iload_n 1, [1]), (105, 106, .iadd, []), (106, 107, .iload_n 3, [3]), (107, 108, .iastore, []), (108, 109, .iload_n 2, [2]), (109, 112, .ifCond .ne 8, [117]), (112, 114, .iload 4, [4]), (114, 117, .goto 5, [119]), (117, 119, .iload 5, [5]), (119, 120, .ireturn, [])]
/-- CoinTelescopeModel.lowest(JJI)J -/
def c58 : List (Nat × Nat × ClassFile.Instr × List Int) := [(0, 1, .lload_n 0, [0]), (1, 2, .lconst 0, []), (2, 3, .lcmp, []), (3, 6, .ifCond .ge 8, [11]), (6, 7, .lload_n 0, [0]), (7, 8, .lneg, []), (8, 11, .goto 4, [12]), (11, 12, .lload_n 0, [0]), (12, 14, .lstore 5, [5]), (14, 15, .lload_n 2, [2]), (15, 17, .lstore 7, [7]), (17, 19, .lload 7, [7]), (19, 20, .lconst 0, []), (20, 21, .lcmp, []), (21, 24, .ifCond .eq 21, [42]), (24, 26, .lload 5, [5]), (26, 28, .lload 7, [7]), (28, 29, .lrem, []), (29, 31, .lstore 9, [9]), (31, 33, .lload 7, [7]), (33, 35, .lstore 5, [5]), (35, 37, .lload 9, [9]), (37, 39, .lstore 7, [7]), (39, 42, .goto (-22), [17]), (42, 44, .iload 4, [4]), (44, 47, .ifCond .ne 7, [51]), (47, 48, .lload_n 0, [0]), (48, 51, .goto 4, [52]), (51, 52, .lload_n 2, [2]), (52, 54, .lload 5, [5]), (54, 55, .ldiv, []), (55, 56, .lreturn, [])]
/-- CoinTelescopeModel.odds(III)J -/
def c59 : List (Nat × Nat × ClassFile.Instr × List Int) := [(0, 1, .iload_n 1, [1]), (1, 2, .iconst 0, []), (2, 3, .iconst 3, []), (3, 6, .invokestatic 41, [0, 3, 1]), (6, 9, .ifCond .eq 23, [29]), (9, 10, .iload_n 2, [2]), (10, 11, .iconst 0, []), (11, 14, .sipush 9999, []), (14, 17, .invokestatic 41, [0, 3, 1]), (17, 20, .ifCond .eq 12, [29]), (20, 21, .iload_n 3, [3]), (21, 22, .iconst 0, []), (22, 23, .iconst 1, []), (23, 26, .invokestatic 41, [0, 3, 1]), (26, 29, .ifCond .ne 7, [33]), (29, 32, .ldc2_w 218, [(-9223372036854775808)]), (32, 33, .lreturn, []), (33, 34, .lconst 0, []), (34, 36, .lstore 4, [4]), (36, 37, .aload_n 0, [0]), (37, 38, .iconst 0, []), (38, 41, .putfield 53, [5, 0, 13]), (41, 42, .aload_n 0, [0]), (42, 45, .getfield 53, [5, 0, 13]), (45, 46, .iconst 4, []), (46, 49, .if_icmp .ge 39, [85]), (49, 50, .aload_n 0, [0]), (50, 51, .iload_n 1, [1]), (51, 54, .invokevirtual 197, [1, 13, 47, 0]), (54, 56, .lload 4, [4]), (56, 57, .aload_n 0, [0]), (57, 60, .getfield 185, [14, 0, 13]), (60, 61, .iload_n 2, [2]), (61, 64, .if_icmp .lt 7, [68]), (64, 65, .lconst 1, []), (65, 68, .goto 4, [69]), (68, 69, .lconst 0, []), (69, 70, .ladd, []), (70, 72, .lstore 4, [4]), (72, 73, .aload_n 0, [0]), (73, 74, .dup, []), (74, 77, .getfield 53, [5, 0, 13]), (77, 78, .iconst 1, []), (78, 79, .iadd, []), (79, 82, .putfield 53, [5, 0, 13]), (82, 85, .goto (-41), [41]), (85, 87, .lload 4, [4]), (87, 90, .ldc2_w 220, [4]), (90, 91, .iload_n 3, [3]), (91, 94, .invokestatic 222, [0, 3, 58]), (94, 95, .lreturn, [])]
/-- CoinTelescopeModel.mean(I)J -/
def c60 : List (Nat × Nat × ClassFile.Instr × List Int) := [(0, 1, .lconst 0, []), (1, 2, .lstore_n 2, [2]), (2, 3, .lconst 0, []), (3, 5, .lstore 4, [4]), (5, 6, .iconst 0, []), (6, 8, .istore 6, [6]), (8, 10, .iload 6, [6]), (10, 11, .aload_n 0, [0]), (11, 14, .getfield 9, [1, 1, 13]), (14, 16, .bipush 11, []), (16, 17, .iaload, []), (17, 20, .if_icmp .ge 68, [85]), (20, 21, .aload_n 0, [0]), (21, 24, .getfield 9, [1, 1, 13]), (24, 25, .iconst 2, []), (25, 27, .iload 6, [6]), (27, 28, .iadd, []), (28, 29, .iaload, []), (29, 32, .ifCond .ne 7, [36]), (32, 33, .iconst 1, []), (33, 36, .goto 4, [37]), (36, 37, .iconst 0, []), (37, 39, .istore 7, [7]), (39, 40, .lload_n 2, [2]), (40, 42, .iload 7, [7]), (42, 45, .ifCond .eq 19, [61]), (45, 46, .aload_n 0, [0]), (46, 48, .iload 6, [6]), (48, 49, .aload_n 0, [0]), (49, 52, .getfield 9, [1, 1, 13]), (52, 53, .iconst 0, []), (53, 54, .iaload, []), (54, 57, .invokevirtual 160, [2, 13, 29, 0]), (57, 58, .i2l, []), (58, 61, .goto 4, [62]), (61, 62, .lconst 0, []), (62, 63, .ladd, []), (63, 64, .lstore_n 2, [2]), (64, 66, .lload 4, [4]), (66, 68, .iload 7, [7]), (68, 71, .ifCond .eq 7, [75]), (71, 72, .lconst 1, []), (72, 75, .goto 4, [76]), (75, 76, .lconst 0, []), (76, 77, .ladd, []), (77, 79, .lstore 4, [4]), (79, 82, .iinc 6 1, [6, 1]), (82, 85, .goto (-74), [8]), (85, 86, .iload_n 1, [1]), (86, 87, .iconst 0, []), (87, 88, .iconst 1, []), (88, 91, .invokestatic 41, [0, 3, 1]), (91, 94, .ifCond .eq 10, [101]), (94, 96, .lload 4, [4]), (96, 97, .lconst 0, []), (97, 98, .lcmp, []), (98, 101, .ifCond .ne 9, [107]), (101, 104, .ldc2_w 218, [(-9223372036854775808)]), (104, 107, .goto 10, [114]), (107, 108, .lload_n 2, [2]), (108, 110, .lload 4, [4]), (110, 111, .iload_n 1, [1]), (111, 114, .invokestatic 222, [0, 3, 58]), (114, 115, .lreturn, [])]
/-- CoinTelescopeModel.plan(I)I -/
def c61 : List (Nat × Nat × ClassFile.Instr × List Int) := [(0, 1, .iload_n 1, [1]), (1, 2, .iconst (-1), []), (2, 5, .if_icmp .ne 13, [15]), (5, 6, .aload_n 0, [0]), (6, 9, .getfield 9, [1, 1, 13]), (9, 11, .bipush 14, []), (11, 12, .iconst 0, []), (12, 13, .iastore, []), (13, 14, .iconst 0, []), (14, 15, .ireturn, []), (15, 16, .iload_n 1, [1]), (16, 17, .iconst 0, []), (17, 18, .iconst 5, []), (18, 21, .invokestatic 41, [0, 3, 1]), (21, 24, .ifCond .ne 5, [26]), (24, 25, .iconst (-1), []), (25, 26, .ireturn, []), (26, 27, .aload_n 0, [0]), (27, 30, .getfield 9, [1, 1, 13]), (30, 32, .bipush 14, []), (32, 33, .iaload, []), (33, 35, .bipush 8, []), (35, 38, .if_icmp .ne 6, [41]), (38, 40, .bipush (-4), []), (40, 41, .ireturn, []), (41, 42, .aload_n 0, [0]), (42, 45, .getfield 9, [1, 1, 13]), (45, 47, .bipush 75, []), (47, 48, .aload_n 0, [0]), (48, 51, .getfield 9, [1, 1, 13]), (51, 53, .bipush 14, []), (53, 54, .iaload, []), (54, 55, .iadd, []), (55, 56, .iload_n 1, [1]), (56, 57, .iastore, []), (57, 58, .aload_n 0, [0]), (58, 61, .getfield 9, [1, 1, 13]), (61, 63, .bipush 14, []), (63, 64, .dup2, []), (64, 65, .iaload, []), (65, 66, .iconst 1, []), (66, 67, .iadd, []), (67, 68, .iastore, []), (68, 69, .aload_n 0, [0]), (69, 72, .getfield 9, [1, 1, 13]), (72, 74, .bipush 14, []), (74, 75, .iaload, []), (75, 76, .ireturn, [])]
/-- CoinTelescopeModel.done(I)I -/
def c62 : List (Nat × Nat × ClassFile.Instr × List Int) := [(0, 1, .iload_n 1, [1]), (1, 2, .iconst 0, []), (2, 3, .iconst 2, []), (3, 6, .invokestatic 41, [0, 3, 1]), (6, 9, .ifCond .ne 5, [11]), (9, 10, .iconst (-1), []), (10, 11, .ireturn, []), (11, 12, .aload_n 0, [0]), (12, 15, .invokevirtual 153, [0, 13, 6, 0]), (15, 16, .aload_n 0, [0]), (16, 19, .invokevirtual 182, [0, 13, 7, 0]), (19, 20, .iconst 0, []), (20, 21, .istore_n 2, [2]), (21, 22, .iconst 0, []), (22, 23, .istore_n 3, [3]), (23, 24, .iload_n 3, [3]), (24, 25, .aload_n 0, [0]), (25, 28, .getfield 9, [1, 1, 13]), (28, 30, .bipush 14, []), (30, 31, .iaload, []), (31, 34, .if_icmp .ge 25, [56]), (34, 35, .iload_n 2, [2]), (35, 36, .aload_n 0, [0]), (36, 37, .aload_n 0, [0]), (37, 40, .getfield 9, [1, 1, 13]), (40, 42, .bipush 75, []), (42, 43, .iload_n 3, [3]), (43, 44, .iadd, []), (44, 45, .iaload, []), (45, 48, .invokevirtual 178, [1, 13, 43, 0]), (48, 49, .iadd, []), (49, 50, .istore_n 2, [2]), (50, 53, .iinc 3 1, [3, 1]), (53, 56, .goto (-30), [23]), (56, 57, .aload_n 0, [0]), (57, 60, .getfield 9, [1, 1, 13]), (60, 61, .iconst 1, []), (61, 62, .iaload, []), (62, 63, .istore_n 3, [3]), (63, 64, .aload_n 0, [0]), (64, 67, .invokevirtual 191, [0, 13, 8, 0]), (67, 68, .aload_n 0, [0]), (68, 71, .getfield 9, [1, 1, 13]), (71, 73, .bipush 8, []), (73, 74, .iaload, []), (74, 75, .aload_n 0, [0]), (75, 78, .getfield 9, [1, 1, 13]), (78, 80, .bipush 14, []), (80, 81, .iaload, []), (81, 84, .if_icmp .ge 7, [88]), (84, 85, .iconst 0, []), (85, 88, .goto 18, [103]), (88, 89, .aload_n 0, [0]), (89, 92, .getfield 9, [1, 1, 13]), (92, 94, .bipush 8, []), (94, 95, .iaload, []), (95, 96, .aload_n 0, [0]), (96, 99, .getfield 9, [1, 1, 13]), (99, 101, .bipush 14, []), (101, 102, .iaload, []), (102, 103, .isub, []), (103, 105, .istore 4, [4]), (105, 106, .iload_n 1, [1]), (106, 109, .ifCond .ne 7, [113]), (109, 110, .iload_n 2, [2]), (110, 113, .goto 14, [124]), (113, 114, .iload_n 1, [1]), (114, 115, .iconst 1, []), (115, 118, .if_icmp .ne 7, [122]), (118, 119, .iload_n 3, [3]), (119, 122, .goto 5, [124]), (122, 124, .iload 4, [4]), (124, 125, .ireturn, [])]
/-- CoinTelescopeModel.book(II)I -/
def c63 : List (Nat × Nat × ClassFile.Instr × List Int) := [(0, 1, .iload_n 1, [1]), (1, 2, .iconst (-1), []), (2, 5, .if_icmp .ne 13, [15]), (5, 6, .aload_n 0, [0]), (6, 9, .getfield 9, [1, 1, 13]), (9, 11, .bipush 15, []), (11, 12, .iconst 0, []), (12, 13, .iastore, []), (13, 14, .iconst 0, []), (14, 15, .ireturn, []), (15, 16, .aload_n 0, [0]), (16, 17, .iload_n 1, [1]), (17, 20, .invokevirtual 149, [1, 13, 5, 0]), (20, 23, .ifCond .eq 10, [30]), (23, 24, .iload_n 2, [2]), (24, 27, .invokestatic 145, [0, 1, 3]), (27, 30, .ifCond .ne 5, [32]), (30, 31, .iconst (-1), []), (31, 32, .ireturn, []), (32, 33, .aload_n 0, [0]), (33, 36, .getfield 9, [1, 1, 13]), (36, 38, .bipush 15, []), (38, 39, .iaload, []), (39, 41, .bipush 8, []), (41, 44, .if_icmp .ne 6, [47]), (44, 46, .bipush (-4), []), (46, 47, .ireturn, []), (47, 48, .aload_n 0, [0]), (48, 51, .getfield 9, [1, 1, 13]), (51, 53, .bipush 83, []), (53, 54, .aload_n 0, [0]), (54, 57, .getfield 9, [1, 1, 13]), (57, 59, .bipush 15, []), (59, 60, .iaload, []), (60, 61, .iadd, []), (61, 62, .iload_n 1, [1]), (62, 63, .iastore, []), (63, 64, .aload_n 0, [0]), (64, 67, .getfield 9, [1, 1, 13]), (67, 69, .bipush 91, []), (69, 70, .aload_n 0, [0]), (70, 73, .getfield 9, [1, 1, 13]), (73, 75, .bipush 15, []), (75, 76, .iaload, []), (76, 77, .iadd, []), (77, 78, .iload_n 2, [2]), (78, 79, .iastore, []), (79, 80, .aload_n 0, [0]), (80, 83, .getfield 9, [1, 1, 13]), (83, 85, .bipush 15, []), (85, 86, .dup2, []), (86, 87, .iaload, []), (87, 88, .iconst 1, []), (88, 89, .iadd, []), (89, 90, .iastore, []), (90, 91, .aload_n 0, [0]), (91, 94, .getfield 9, [1, 1, 13]), (94, 96, .bipush 15, []), (96, 97, .iaload, []), (97, 98, .ireturn, [])]
/-- CoinTelescopeModel.looked()I -/
def c64 : List (Nat × Nat × ClassFile.Instr × List Int) := [(0, 1, .iconst 0, []), (1, 2, .istore_n 1, [1]), (2, 3, .iload_n 1, [1]), (3, 4, .aload_n 0, [0]), (4, 7, .getfield 9, [1, 1, 13]), (7, 9, .bipush 15, []), (9, 10, .iaload, []), (10, 13, .if_icmp .ge 42, [52]), (13, 14, .aload_n 0, [0]), (14, 15, .aload_n 0, [0]), (15, 18, .getfield 9, [1, 1, 13]), (18, 20, .bipush 83, []), (20, 21, .iload_n 1, [1]), (21, 22, .iadd, []), (22, 23, .iaload, []), (23, 24, .aload_n 0, [0]), (24, 27, .getfield 9, [1, 1, 13]), (27, 28, .iconst 0, []), (28, 29, .iaload, []), (29, 32, .invokevirtual 139, [2, 13, 26, 0]), (32, 33, .aload_n 0, [0]), (33, 36, .getfield 9, [1, 1, 13]), (36, 38, .bipush 91, []), (38, 39, .iload_n 1, [1]), (39, 40, .iadd, []), (40, 41, .iaload, []), (41, 44, .if_icmp .eq 5, [46]), (44, 45, .iload_n 1, [1]), (45, 46, .ireturn, []), (46, 49, .iinc 1 1, [1, 1]), (49, 52, .goto (-47), [2]), (52, 54, .bipush (-5), []), (54, 55, .ireturn, [])]
/-- CoinTelescopeModel.ranBody(I)V -/
def c65 : List (Nat × Nat × ClassFile.Instr × List Int) := [(0, 1, .aload_n 0, [0]), (1, 4, .getfield 226, [19, 0, 13]), (4, 6, .bipush 20, []), (6, 9, .if_icmp .ge 13, [19]), (9, 10, .aload_n 0, [0]), (10, 13, .getfield 34, [18, 1, 13]), (13, 14, .aload_n 0, [0]), (14, 17, .getfield 226, [19, 0, 13]), (17, 18, .iload_n 1, [1]), (18, 19, .iastore, []), (19, 20, .aload_n 0, [0]), (20, 21, .dup, []), (21, 24, .getfield 226, [19, 0, 13]), (24, 25, .iconst 1, []), (25, 26, .iadd, []), (26, 29, .putfield 226, [19, 0, 13]), (29, 30, .return_, [])]
/-- CoinTelescopeModel.isUnder(II)Z -/
def c66 : List (Nat × Nat × ClassFile.Instr × List Int) := [(0, 1, .iload_n 1, [1]), (1, 4, .ifCond .eq 24, [25]), (4, 5, .iload_n 1, [1]), (5, 6, .iload_n 0, [0]), (6, 9, .if_icmp .eq 19, [25]), (9, 10, .iload_n 1, [1]), (10, 13, .ifCond .le 19, [29]), (13, 14, .iload_n 1, [1]), (14, 15, .iconst 4, []), (15, 18, .if_icmp .ge 14, [29]), (18, 19, .iload_n 0, [0]), (19, 20, .iload_n 1, [1]), (20, 21, .iconst 3, []), (21, 22, .iadd, []), (22, 25, .if_icmp .ne 7, [29]), (25, 26, .iconst 1, []), (26, 29, .goto 4, [30]), (29, 30, .iconst 0, []), (30, 31, .ireturn, [])]
/-- CoinTelescopeModel.plainShows(I)I -/
def c67 : List (Nat × Nat × ClassFile.Instr × List Int) := [(0, 1, .aload_n 0, [0]), (1, 2, .iconst 1, []), (2, 5, .invokevirtual 229, [1, 13, 65, 0]), (5, 6, .iload_n 1, [1]), (6, 7, .aload_n 0, [0]), (7, 10, .getfield 232, [21, 0, 13]), (10, 11, .iadd, []), (11, 12, .ireturn, [])]
/-- CoinTelescopeModel.showsActs(I)I -/
def c68 : List (Nat × Nat × ClassFile.Instr × List Int) := [(0, 1, .aload_n 0, [0]), (1, 4, .getfield 235, [20, 0, 13]), (4, 5, .iconst 1, []), (5, 8, .invokestatic 238, [0, 2, 66]), (8, 11, .ifCond .eq 17, [25]), (11, 12, .aload_n 0, [0]), (12, 14, .bipush 11, []), (14, 17, .invokevirtual 229, [1, 13, 65, 0]), (17, 18, .aload_n 0, [0]), (18, 19, .iload_n 1, [1]), (19, 20, .iconst 3, []), (20, 21, .imul, []), (21, 24, .invokevirtual 241, [1, 13, 67, 0]), (24, 25, .ireturn, []), (25, 26, .aload_n 0, [0]), (26, 29, .getfield 235, [20, 0, 13]), (29, 30, .iconst 5, []), (30, 33, .if_icmp .ne 20, [50]), (33, 34, .aload_n 0, [0]), (34, 36, .bipush 51, []), (36, 39, .invokevirtual 229, [1, 13, 65, 0]), (39, 40, .aload_n 0, [0]), (40, 41, .iload_n 1, [1]), (41, 44, .invokevirtual 241, [1, 13, 67, 0]), (44, 45, .aload_n 0, [0]), (45, 48, .getfield 232, [21, 0, 13]), (48, 49, .ixor, []), (49, 50, .ireturn, []), (50, 51, .aload_n 0, [0]), (51, 52, .iload_n 1, [1]), (52, 55, .invokevirtual 241, [1, 13, 67, 0]), (55, 56, .ireturn, [])]
/-- CoinTelescopeModel.plainShakes(I)I -/
def c69 : List (Nat × Nat × ClassFile.Instr × List Int) := [(0, 1, .aload_n 0, [0]), (1, 2, .iconst 2, []), (2, 5, .invokevirtual 229, [1, 13, 65, 0]), (5, 6, .aload_n 0, [0]), (6, 7, .iload_n 1, [1]), (7, 10, .invokevirtual 244, [1, 13, 68, 0]), (10, 11, .aload_n 0, [0]), (11, 14, .getfield 247, [22, 0, 13]), (14, 15, .isub, []), (15, 16, .ireturn, [])]
/-- CoinTelescopeModel.shakesActs(I)I -/
def c70 : List (Nat × Nat × ClassFile.Instr × List Int) := [(0, 1, .aload_n 0, [0]), (1, 4, .getfield 235, [20, 0, 13]), (4, 5, .iconst 2, []), (5, 8, .invokestatic 238, [0, 2, 66]), (8, 11, .ifCond .eq 16, [24]), (11, 12, .aload_n 0, [0]), (12, 14, .bipush 21, []), (14, 17, .invokevirtual 229, [1, 13, 65, 0]), (17, 18, .aload_n 0, [0]), (18, 19, .iload_n 1, [1]), (19, 22, .invokevirtual 250, [1, 13, 69, 0]), (22, 23, .ineg, []), (23, 24, .ireturn, []), (24, 25, .aload_n 0, [0]), (25, 28, .getfield 235, [20, 0, 13]), (28, 30, .bipush 6, []), (30, 33, .if_icmp .ne 20, [50]), (33, 34, .aload_n 0, [0]), (34, 36, .bipush 61, []), (36, 39, .invokevirtual 229, [1, 13, 65, 0]), (39, 40, .aload_n 0, [0]), (40, 41, .iload_n 1, [1]), (41, 44, .invokevirtual 250, [1, 13, 69, 0]), (44, 45, .aload_n 0, [0]), (45, 48, .getfield 247, [22, 0, 13]), (48, 49, .iadd, []), (49, 50, .ireturn, []), (50, 51, .aload_n 0, [0]), (51, 52, .iload_n 1, [1]), (52, 55, .invokevirtual 250, [1, 13, 69, 0]), (55, 56, .ireturn, [])]
/-- CoinTelescopeModel.plainTelling(I)I -/
def c71 : List (Nat × Nat × ClassFile.Instr × List Int) := [(0, 1, .aload_n 0, [0]), (1, 2, .iconst 3, []), (2, 5, .invokevirtual 229, [1, 13, 65, 0]), (5, 6, .aload_n 0, [0]), (6, 7, .iload_n 1, [1]), (7, 10, .invokevirtual 253, [1, 13, 70, 0]), (10, 11, .iconst 2, []), (11, 12, .imul, []), (12, 13, .ireturn, [])]
/-- CoinTelescopeModel.tellsActs(I)I -/
def c72 : List (Nat × Nat × ClassFile.Instr × List Int) := [(0, 1, .aload_n 0, [0]), (1, 4, .getfield 235, [20, 0, 13]), (4, 5, .iconst 3, []), (5, 8, .invokestatic 238, [0, 2, 66]), (8, 11, .ifCond .eq 18, [26]), (11, 12, .aload_n 0, [0]), (12, 14, .bipush 31, []), (14, 17, .invokevirtual 229, [1, 13, 65, 0]), (17, 18, .aload_n 0, [0]), (18, 19, .iload_n 1, [1]), (19, 22, .invokevirtual 256, [1, 13, 71, 0]), (22, 24, .bipush 7, []), (24, 25, .ixor, []), (25, 26, .ireturn, []), (26, 27, .aload_n 0, [0]), (27, 30, .getfield 235, [20, 0, 13]), (30, 31, .iconst 4, []), (31, 34, .if_icmp .ne 25, [56]), (34, 35, .aload_n 0, [0]), (35, 37, .bipush 41, []), (37, 40, .invokevirtual 229, [1, 13, 65, 0]), (40, 41, .aload_n 0, [0]), (41, 42, .iload_n 1, [1]), (42, 43, .iconst 1, []), (43, 44, .isub, []), (44, 47, .invokevirtual 256, [1, 13, 71, 0]), (47, 48, .istore_n 2, [2]), (48, 49, .iload_n 2, [2]), (49, 50, .aload_n 0, [0]), (50, 51, .iconst 2, []), (51, 54, .invokevirtual 244, [1, 13, 68, 0]), (54, 55, .iadd, []), (55, 56, .ireturn, []), (56, 57, .aload_n 0, [0]), (57, 58, .iload_n 1, [1]), (58, 61, .invokevirtual 256, [1, 13, 71, 0]), (61, 62, .ireturn, [])]
/-- CoinTelescopeModel.act(III)I -/
def c73 : List (Nat × Nat × ClassFile.Instr × List Int) := [(0, 1, .aload_n 0, [0]), (1, 2, .iconst 0, []), (2, 5, .putfield 226, [19, 0, 13]), (5, 6, .aload_n 0, [0]), (6, 7, .iload_n 1, [1]), (7, 10, .invokevirtual 149, [1, 13, 5, 0]), (10, 13, .ifCond .eq 12, [22]), (13, 14, .iload_n 2, [2]), (14, 15, .iconst 0, []), (15, 16, .iconst 2, []), (16, 19, .invokestatic 41, [0, 3, 1]), (19, 22, .ifCond .ne 5, [24]), (22, 23, .iconst 0, []), (23, 24, .ireturn, []), (24, 25, .aload_n 0, [0]), (25, 26, .aload_n 0, [0]), (26, 29, .getfield 9, [1, 1, 13]), (29, 31, .bipush 18, []), (31, 32, .iload_n 1, [1]), (32, 33, .iadd, []), (33, 34, .iaload, []), (34, 37, .putfield 235, [20, 0, 13]), (37, 38, .aload_n 0, [0]), (38, 39, .iload_n 1, [1]), (39, 42, .putfield 232, [21, 0, 13]), (42, 43, .aload_n 0, [0]), (43, 44, .aload_n 0, [0]), (44, 47, .getfield 9, [1, 1, 13]), (47, 49, .bipush 24, []), (49, 50, .iload_n 1, [1]), (50, 51, .iadd, []), (51, 52, .iaload, []), (52, 55, .putfield 247, [22, 0, 13]), (55, 56, .iload_n 2, [2]), (56, 59, .ifCond .ne 11, [67]), (59, 60, .aload_n 0, [0]), (60, 61, .iload_n 3, [3]), (61, 64, .invokevirtual 244, [1, 13, 68, 0]), (64, 67, .goto 21, [85]), (67, 68, .iload_n 2, [2]), (68, 69, .iconst 1, []), (69, 72, .if_icmp .ne 11, [80]), (72, 73, .aload_n 0, [0]), (73, 74, .iload_n 3, [3]), (74, 77, .invokevirtual 253, [1, 13, 70, 0]), (77, 80, .goto 8, [85]), (80, 81, .aload_n 0, [0]), (81, 82, .iload_n 3, [3]), (82, 85, .invokevirtual 259, [1, 13, 72, 0]), (85, 86, .ireturn, [])]
/-- CoinTelescopeModel.trace(I)I -/
def c74 : List (Nat × Nat × ClassFile.Instr × List Int) := [(0, 1, .iload_n 1, [1]), (1, 2, .iconst 0, []), (2, 3, .aload_n 0, [0]), (3, 6, .getfield 226, [19, 0, 13]), (6, 8, .bipush 20, []), (8, 11, .if_icmp .ge 10, [18]), (11, 12, .aload_n 0, [0]), (12, 15, .getfield 226, [19, 0, 13]), (15, 18, .goto 5, [20]), (18, 20, .bipush 20, []), (20, 21, .iconst 1, []), (21, 22, .isub, []), (22, 25, .invokestatic 41, [0, 3, 1]), (25, 28, .ifCond .eq 12, [37]), (28, 29, .aload_n 0, [0]), (29, 32, .getfield 34, [18, 1, 13]), (32, 33, .iload_n 1, [1]), (33, 34, .iaload, []), (34, 37, .goto 4, [38]), (37, 38, .iconst (-1), []), (38, 39, .ireturn, [])]
/-- CoinTelescopeModel.as(II)I -/
def c75 : List (Nat × Nat × ClassFile.Instr × List Int) := [(0, 1, .aload_n 0, [0]), (1, 2, .iload_n 1, [1]), (2, 5, .invokevirtual 149, [1, 13, 5, 0]), (5, 8, .ifCond .eq 13, [18]), (8, 9, .iload_n 2, [2]), (9, 10, .iconst 0, []), (10, 12, .bipush 6, []), (12, 15, .invokestatic 41, [0, 3, 1]), (15, 18, .ifCond .ne 5, [20]), (18, 19, .iconst (-1), []), (19, 20, .ireturn, []), (20, 21, .aload_n 0, [0]), (21, 24, .getfield 9, [1, 1, 13]), (24, 26, .bipush 18, []), (26, 27, .iload_n 1, [1]), (27, 28, .iadd, []), (28, 29, .iaload, []), (29, 30, .iload_n 2, [2]), (30, 33, .invokestatic 238, [0, 2, 66]), (33, 36, .ifCond .eq 15, [48]), (36, 37, .aload_n 0, [0]), (37, 40, .getfield 9, [1, 1, 13]), (40, 42, .bipush 24, []), (42, 43, .iload_n 1, [1]), (43, 44, .iadd, []), (44, 45, .iaload, []), (45, 48, .goto 5, [50]), (48, 50, .bipush (-6), []), (50, 51, .ireturn, [])]
/-- CoinTelescopeModel.image()I -/
def c76 : List (Nat × Nat × ClassFile.Instr × List Int) := [(0, 1, .iconst 0, []), (1, 2, .istore_n 1, [1]), (2, 3, .iload_n 1, [1]), (3, 6, .sipush 919, []), (6, 9, .if_icmp .ge 21, [27]), (9, 10, .aload_n 0, [0]), (10, 13, .getfield 15, [2, 1, 13]), (13, 14, .iload_n 1, [1]), (14, 15, .aload_n 0, [0]), (15, 18, .getfield 9, [1, 1, 13]), (18, 19, .iload_n 1, [1]), (19, 20, .iaload, []), (20, 21, .iastore, []), (21, 24, .iinc 1 1, [1, 1]), (24, 27, .goto (-22), [2]), (27, 28, .aload_n 0, [0]), (28, 29, .iconst 1, []), (29, 32, .putfield 262, [4, 2, 13]), (32, 33, .aload_n 0, [0]), (33, 36, .getfield 9, [1, 1, 13]), (36, 38, .bipush 11, []), (38, 39, .iaload, []), (39, 40, .ireturn, [])]
/-- CoinTelescopeModel.undo()I -/
def c77 : List (Nat × Nat × ClassFile.Instr × List Int) := [(0, 1, .aload_n 0, [0]), (1, 4, .getfield 262, [4, 2, 13]), (4, 7, .ifCond .ne 6, [10]), (7, 9, .bipush (-3), []), (9, 10, .ireturn, []), (10, 11, .iconst 0, []), (11, 12, .istore_n 1, [1]), (12, 13, .iload_n 1, [1]), (13, 16, .sipush 919, []), (16, 19, .if_icmp .ge 21, [37]), (19, 20, .aload_n 0, [0]), (20, 23, .getfield 9, [1, 1, 13]), (23, 24, .iload_n 1, [1]), (24, 25, .aload_n 0, [0]), (25, 28, .getfield 15, [2, 1, 13]), (28, 29, .iload_n 1, [1]), (29, 30, .iaload, []), (30, 31, .iastore, []), (31, 34, .iinc 1 1, [1, 1]), (34, 37, .goto (-22), [12]), (37, 38, .aload_n 0, [0]), (38, 41, .getfield 9, [1, 1, 13]), (41, 43, .bipush 11, []), (43, 44, .iaload, []), (44, 45, .ireturn, [])]
/-- CoinTelescopeModel.count(I)I -/
def c78 : List (Nat × Nat × ClassFile.Instr × List Int) := [(0, 1, .iload_n 1, [1]), (1, 3, .bipush 6, []), (3, 6, .if_icmp .ne 10, [13]), (6, 7, .aload_n 0, [0]), (7, 10, .getfield 226, [19, 0, 13]), (10, 13, .goto 25, [35]), (13, 14, .iload_n 1, [1]), (14, 15, .iconst 0, []), (15, 16, .iconst 5, []), (16, 19, .invokestatic 41, [0, 3, 1]), (19, 22, .ifCond .eq 15, [34]), (22, 23, .aload_n 0, [0]), (23, 26, .getfield 9, [1, 1, 13]), (26, 28, .bipush 11, []), (28, 29, .iload_n 1, [1]), (29, 30, .iadd, []), (30, 31, .iaload, []), (31, 34, .goto 4, [35]), (34, 35, .iconst (-1), []), (35, 36, .ireturn, [])]
/-- CoinTelescope$Table.<init>(II)V -/
def c79 : List (Nat × Nat × ClassFile.Instr × List Int) := [(0, 1, .aload_n 0, [0]), (1, 4, .invokespecial 3, [0]), (4, 5, .aload_n 0, [0]), (5, 6, .iconst 1, []), (6, 7, .iload_n 1, [1]), (7, 10, .invokestatic 9, [2]), (10, 13, .putfield 15, [0, 0, 8]), (13, 14, .aload_n 0, [0]), (14, 15, .iconst 0, []), (15, 16, .iload_n 2, [2]), (16, 19, .invokestatic 9, [2]), (19, 22, .putfield 21, [1, 0, 8]), (22, 23, .aload_n 0, [0]), (23, 24, .aload_n 0, [0]), (24, 27, .getfield 15, [0, 0, 8]), (27, 28, .aload_n 0, [0]), (28, 31, .getfield 21, [1, 0, 8]), (31, 32, .imul, []), (32, 34, .newarray .int, [20]), (34, 37, .putfield 24, [2, 1, 8]), (37, 38, .aload_n 0, [0]), (38, 39, .iconst 0, []), (39, 42, .putfield 28, [3, 0, 8]), (42, 43, .return_, [])]
/-- CoinTelescope$Table.size()I -/
def c80 : List (Nat × Nat × ClassFile.Instr × List Int) := [(0, 1, .aload_n 0, [0]), (1, 4, .getfield 28, [3, 0, 8]), (4, 5, .ireturn, [])]
/-- CoinTelescope$Table.isFull()Z -/
def c81 : List (Nat × Nat × ClassFile.Instr × List Int) := [(0, 1, .aload_n 0, [0]), (1, 4, .getfield 28, [3, 0, 8]), (4, 5, .aload_n 0, [0]), (5, 8, .getfield 21, [1, 0, 8]), (8, 11, .if_icmp .lt 7, [15]), (11, 12, .iconst 1, []), (12, 15, .goto 4, [16]), (15, 16, .iconst 0, []), (16, 17, .ireturn, [])]
/-- CoinTelescope$Table.clear()I -/
def c82 : List (Nat × Nat × ClassFile.Instr × List Int) := [(0, 1, .aload_n 0, [0]), (1, 2, .iconst 0, []), (2, 5, .putfield 28, [3, 0, 8]), (5, 6, .aload_n 0, [0]), (6, 9, .getfield 28, [3, 0, 8]), (9, 10, .ireturn, [])]
/-- CoinTelescope$Table.add(III)I -/
def c83 : List (Nat × Nat × ClassFile.Instr × List Int) := [(0, 1, .aload_n 0, [0]), (1, 4, .getfield 28, [3, 0, 8]), (4, 5, .aload_n 0, [0]), (5, 8, .getfield 15, [0, 0, 8]), (8, 9, .imul, []), (9, 11, .istore 4, [4]), (11, 12, .aload_n 0, [0]), (12, 15, .getfield 28, [3, 0, 8]), (15, 16, .aload_n 0, [0]), (16, 19, .getfield 21, [1, 0, 8]), (19, 22, .if_icmp .ge 67, [86]), (22, 24, .iload 4, [4]), (24, 27, .ifCond .lt 62, [86]), (27, 29, .iload 4, [4]), (29, 30, .aload_n 0, [0]), (30, 33, .getfield 15, [0, 0, 8]), (33, 34, .iadd, []), (34, 35, .aload_n 0, [0]), (35, 38, .getfield 24, [2, 1, 8]), (38, 39, .arraylength, []), (39, 42, .if_icmp .gt 47, [86]), (42, 43, .aload_n 0, [0]), (43, 46, .getfield 24, [2, 1, 8]), (46, 48, .iload 4, [4]), (48, 49, .iload_n 1, [1]), (49, 50, .iastore, []), (50, 51, .aload_n 0, [0]), (51, 54, .getfield 15, [0, 0, 8]), (54, 55, .iconst 1, []), (55, 58, .if_icmp .le 13, [68]), (58, 59, .aload_n 0, [0]), (59, 62, .getfield 24, [2, 1, 8]), (62, 64, .iload 4, [4]), (64, 65, .iconst 1, []), (65, 66, .iadd, []), (66, 67, .iload_n 2, [2]), (67, 68, .iastore, []), (68, 69, .aload_n 0, [0]), (69, 72, .getfield 15, [0, 0, 8]), (72, 73, .iconst 2, []), (73, 76, .if_icmp .le 13, [86]), (76, 77, .aload_n 0, [0]), (77, 80, .getfield 24, [2, 1, 8]), (80, 82, .iload 4, [4]), (82, 83, .iconst 2, []), (83, 84, .iadd, []), (84, 85, .iload_n 3, [3]), (85, 86, .iastore, []), (86, 87, .aload_n 0, [0]), (87, 88, .dup, []), (88, 91, .getfield 28, [3, 0, 8]), (91, 92, .iconst 1, []), (92, 93, .iadd, []), (93, 96, .putfield 28, [3, 0, 8]), (96, 97, .aload_n 0, [0]), (97, 100, .getfield 28, [3, 0, 8]), (100, 101, .ireturn, [])]
/-- CoinTelescope$Table.get(II)I -/
def c84 : List (Nat × Nat × ClassFile.Instr × List Int) := [(0, 1, .iload_n 1, [1]), (1, 4, .ifCond .lt 31, [32]), (4, 5, .iload_n 1, [1]), (5, 6, .aload_n 0, [0]), (6, 9, .getfield 28, [3, 0, 8]), (9, 12, .if_icmp .ge 23, [32]), (12, 13, .iload_n 1, [1]), (13, 14, .aload_n 0, [0]), (14, 17, .getfield 21, [1, 0, 8]), (17, 20, .if_icmp .ge 15, [32]), (20, 21, .iload_n 2, [2]), (21, 24, .ifCond .lt 11, [32]), (24, 25, .iload_n 2, [2]), (25, 26, .aload_n 0, [0]), (26, 29, .getfield 15, [0, 0, 8]), (29, 32, .if_icmp .lt 5, [34]), (32, 33, .iconst (-1), []), (33, 34, .ireturn, []), (34, 35, .iload_n 1, [1]), (35, 36, .aload_n 0, [0]), (36, 39, .getfield 15, [0, 0, 8]), (39, 40, .imul, []), (40, 41, .iload_n 2, [2]), (41, 42, .iadd, []), (42, 43, .istore_n 3, [3]), (43, 44, .iload_n 3, [3]), (44, 45, .aload_n 0, [0]), (45, 48, .getfield 24, [2, 1, 8]), (48, 49, .arraylength, []), (49, 52, .if_icmp .ge 12, [61]), (52, 53, .aload_n 0, [0]), (53, 56, .getfield 24, [2, 1, 8]), (56, 57, .iload_n 3, [3]), (57, 58, .iaload, []), (58, 61, .goto 4, [62]), (61, 62, .iconst (-1), []), (62, 63, .ireturn, [])]
/-- CoinTelescope$Table.firstColumn()[I -/
def c85 : List (Nat × Nat × ClassFile.Instr × List Int) := [(0, 1, .aload_n 0, [0]), (1, 4, .getfield 28, [3, 0, 8]), (4, 5, .aload_n 0, [0]), (5, 8, .getfield 21, [1, 0, 8]), (8, 11, .invokestatic 31, [3]), (11, 13, .newarray .int, [20]), (13, 14, .astore_n 1, [1]), (14, 15, .iconst 0, []), (15, 16, .istore_n 2, [2]), (16, 17, .iload_n 2, [2]), (17, 18, .aload_n 1, [1]), (18, 19, .arraylength, []), (19, 22, .if_icmp .ge 18, [37]), (22, 23, .aload_n 1, [1]), (23, 24, .iload_n 2, [2]), (24, 25, .aload_n 0, [0]), (25, 26, .iload_n 2, [2]), (26, 27, .iconst 0, []), (27, 30, .invokevirtual 34, [2, 8, 84, 0]), (30, 31, .iastore, []), (31, 34, .iinc 2 1, [2, 1]), (34, 37, .goto (-18), [16]), (37, 38, .aload_n 1, [1]), (38, 39, .areturn, [])]
/-- CoinTelescope$Table.becomeAs(LCoinTelescope$Table;)V -/
def c86 : List (Nat × Nat × ClassFile.Instr × List Int) := [(0, 1, .aload_n 0, [0]), (1, 2, .aload_n 1, [1]), (2, 5, .getfield 28, [3, 0, 8]), (5, 8, .putfield 28, [3, 0, 8]), (8, 9, .aload_n 1, [1]), (9, 12, .getfield 24, [2, 1, 8]), (12, 13, .aload_n 0, [0]), (13, 16, .getfield 24, [2, 1, 8]), (16, 19, .invokestatic 37, [1, 2, 193]), (19, 20, .return_, [])]
/-- CoinTelescope$Thing.<init>(IIILCoinTelescope$Table;)V -/
def c87 : List (Nat × Nat × ClassFile.Instr × List Int) := [(0, 1, .aload_n 0, [0]), (1, 4, .invokespecial 1, [0]), (4, 5, .aload_n 0, [0]), (5, 6, .iload_n 1, [1]), (6, 9, .putfield 7, [0, 0, 1, 2, 3, 5, 6, 9, 10]), (9, 10, .aload_n 0, [0]), (10, 11, .iload_n 2, [2]), (11, 14, .putfield 13, [1, 0, 1, 2, 3, 5, 6, 9, 10]), (14, 15, .aload_n 0, [0]), (15, 16, .iload_n 3, [3]), (16, 19, .putfield 16, [2, 0, 1, 2, 3, 5, 6, 9, 10]), (19, 20, .aload_n 0, [0]), (20, 22, .aload 4, [4]), (22, 25, .putfield 19, [3, 1, 1, 2, 3, 5, 6, 9, 10]), (25, 26, .return_, [])]
/-- CoinTelescope$Thing.placeOn(IIII)I -/
def c88 : List (Nat × Nat × ClassFile.Instr × List Int) := [(0, 1, .iload_n 2, [2]), (1, 2, .ireturn, [])]
/-- CoinTelescope$Thing.isDim(II)Z -/
def c89 : List (Nat × Nat × ClassFile.Instr × List Int) := [(0, 1, .iload_n 1, [1]), (1, 4, .invokestatic 23, [1, 1, 196]), (4, 5, .iload_n 2, [2]), (5, 8, .if_icmp .ge 7, [12]), (8, 9, .iconst 1, []), (9, 12, .goto 4, [13]), (12, 13, .iconst 0, []), (13, 14, .ireturn, [])]
/-- CoinTelescope$Thing.worthBy(II)I -/
def c90 : List (Nat × Nat × ClassFile.Instr × List Int) := [(0, 1, .iconst 4, []), (1, 2, .iload_n 1, [1]), (2, 3, .iadd, []), (3, 4, .ireturn, [])]
/-- CoinTelescope$Thing.shows(I)I -/
def c91 : List (Nat × Nat × ClassFile.Instr × List Int) := [(0, 1, .aload_n 0, [0]), (1, 4, .getfield 19, [3, 1, 1, 2, 3, 5, 6, 9, 10]), (4, 5, .iconst 1, []), (5, 6, .iconst 0, []), (6, 7, .iconst 0, []), (7, 10, .invokevirtual 29, [3, 8, 83, 0]), (10, 11, .pop, []), (11, 12, .iload_n 1, [1]), (12, 13, .aload_n 0, [0]), (13, 16, .getfield 13, [1, 0, 1, 2, 3, 5, 6, 9, 10]), (16, 17, .iadd, []), (17, 18, .ireturn, [])]
/-- CoinTelescope$Thing.shakes(I)I -/
def c92 : List (Nat × Nat × ClassFile.Instr × List Int) := [(0, 1, .aload_n 0, [0]), (1, 4, .getfield 19, [3, 1, 1, 2, 3, 5, 6, 9, 10]), (4, 5, .iconst 2, []), (5, 6, .iconst 0, []), (6, 7, .iconst 0, []), (7, 10, .invokevirtual 29, [3, 8, 83, 0]), (10, 11, .pop, []), (11, 12, .aload_n 0, [0]), (12, 13, .iload_n 1, [1]), (13, 16, .invokevirtual 35, [1, 1, 91, 1, 2, 101, 2, 3, 91, 1, 5, 101, 2, 6, 112, 2, 9, 91, 0, 10, 91, 1]), (16, 17, .aload_n 0, [0]), (17, 20, .getfield 16, [2, 0, 1, 2, 3, 5, 6, 9, 10]), (20, 21, .isub, []), (21, 22, .ireturn, [])]
/-- CoinTelescope$Thing.tells(I)I -/
def c93 : List (Nat × Nat × ClassFile.Instr × List Int) := [(0, 1, .aload_n 0, [0]), (1, 4, .getfield 19, [3, 1, 1, 2, 3, 5, 6, 9, 10]), (4, 5, .iconst 3, []), (5, 6, .iconst 0, []), (6, 7, .iconst 0, []), (7, 10, .invokevirtual 29, [3, 8, 83, 0]), (10, 11, .pop, []), (11, 12, .aload_n 0, [0]), (12, 13, .iload_n 1, [1]), (13, 16, .invokevirtual 38, [1, 1, 92, 1, 2, 92, 1, 3, 104, 2, 5, 92, 1, 6, 104, 2, 9, 92, 0, 10, 116, 2]), (16, 17, .iconst 2, []), (17, 18, .imul, []), (18, 19, .ireturn, [])]
/-- CoinTelescope$Bird.<init>(IIILCoinTelescope$Table;)V -/
def c94 : List (Nat × Nat × ClassFile.Instr × List Int) := [(0, 1, .aload_n 0, [0]), (1, 2, .iload_n 1, [1]), (2, 3, .iload_n 2, [2]), (3, 4, .iload_n 3, [3]), (4, 6, .aload 4, [4]), (6, 9, .invokespecial 3, [1, 4, 87]), (9, 10, .return_, [])]
/-- CoinTelescope$Bird.placeOn(IIII)I -/
def c95 : List (Nat × Nat × ClassFile.Instr × List Int) := [(0, 1, .iload_n 2, [2]), (1, 2, .iload_n 3, [3]), (2, 3, .iload_n 1, [1]), (3, 4, .imul, []), (4, 5, .iadd, []), (5, 7, .bipush 24, []), (7, 8, .irem, []), (8, 9, .ireturn, [])]
/-- CoinTelescope$Bird.worthBy(II)I -/
def c96 : List (Nat × Nat × ClassFile.Instr × List Int) := [(0, 1, .iload_n 1, [1]), (1, 2, .aload_n 0, [0]), (2, 5, .getfield 9, [2, 0, 1, 2, 3, 5, 6, 9, 10]), (5, 6, .iadd, []), (6, 7, .ireturn, [])]
/-- CoinTelescope$Bird.tells(I)I -/
def c97 : List (Nat × Nat × ClassFile.Instr × List Int) := [(0, 1, .aload_n 0, [0]), (1, 4, .getfield 15, [3, 1, 1, 2, 3, 5, 6, 9, 10]), (4, 6, .bipush 31, []), (6, 7, .iconst 0, []), (7, 8, .iconst 0, []), (8, 11, .invokevirtual 19, [3, 8, 83, 0]), (11, 12, .pop, []), (12, 13, .aload_n 0, [0]), (13, 14, .iload_n 1, [1]), (14, 17, .invokespecial 25, [2, 1, 93, 1, 10]), (17, 19, .bipush 7, []), (19, 20, .ixor, []), (20, 21, .ireturn, [])]
/-- CoinTelescope$Boat.<init>(IIILCoinTelescope$Table;)V -/
def c98 : List (Nat × Nat × ClassFile.Instr × List Int) := [(0, 1, .aload_n 0, [0]), (1, 2, .iload_n 1, [1]), (2, 3, .iload_n 2, [2]), (3, 4, .iload_n 3, [3]), (4, 6, .aload 4, [4]), (6, 9, .invokespecial 3, [1, 4, 87]), (9, 10, .return_, [])]
/-- CoinTelescope$Boat.placeOn(IIII)I -/
def c99 : List (Nat × Nat × ClassFile.Instr × List Int) := [(0, 1, .iload_n 2, [2]), (1, 3, .bipush 6, []), (3, 4, .irem, []), (4, 6, .istore 5, [5]), (6, 7, .iload_n 2, [2]), (7, 9, .iload 5, [5]), (9, 10, .isub, []), (10, 12, .iload 5, [5]), (12, 13, .iload_n 1, [1]), (13, 14, .iadd, []), (14, 16, .bipush 6, []), (16, 17, .irem, []), (17, 18, .iadd, []), (18, 19, .ireturn, [])]
/-- CoinTelescope$Boat.worthBy(II)I -/
def c100 : List (Nat × Nat × ClassFile.Instr × List Int) := [(0, 1, .iconst 5, []), (1, 2, .iload_n 1, [1]), (2, 3, .iadd, []), (3, 4, .ireturn, [])]
/-- CoinTelescope$Boat.shows(I)I -/
def c101 : List (Nat × Nat × ClassFile.Instr × List Int) := [(0, 1, .aload_n 0, [0]), (1, 4, .getfield 9, [3, 1, 1, 2, 3, 5, 6, 9, 10]), (4, 6, .bipush 11, []), (6, 7, .iconst 0, []), (7, 8, .iconst 0, []), (8, 11, .invokevirtual 15, [3, 8, 83, 0]), (11, 12, .pop, []), (12, 13, .aload_n 0, [0]), (13, 14, .iload_n 1, [1]), (14, 15, .iconst 3, []), (15, 16, .imul, []), (16, 19, .invokespecial 21, [2, 1, 91, 2, 5]), (19, 20, .ireturn, [])]
/-- CoinTelescope$House.<init>(IIILCoinTelescope$Table;)V -/
def c102 : List (Nat × Nat × ClassFile.Instr × List Int) := [(0, 1, .aload_n 0, [0]), (1, 2, .iload_n 1, [1]), (2, 3, .iload_n 2, [2]), (3, 4, .iload_n 3, [3]), (4, 6, .aload 4, [4]), (6, 9, .invokespecial 1, [1, 4, 87]), (9, 10, .return_, [])]
/-- CoinTelescope$House.worthBy(II)I -/
def c103 : List (Nat × Nat × ClassFile.Instr × List Int) := [(0, 1, .aload_n 0, [0]), (1, 2, .iload_n 1, [1]), (2, 3, .iload_n 2, [2]), (3, 6, .invokespecial 7, [2, 2, 90, 3, 6]), (6, 7, .iconst 2, []), (7, 8, .idiv, []), (8, 9, .ireturn, [])]
/-- CoinTelescope$House.shakes(I)I -/
def c104 : List (Nat × Nat × ClassFile.Instr × List Int) := [(0, 1, .aload_n 0, [0]), (1, 4, .getfield 11, [3, 1, 1, 2, 3, 5, 6, 9, 10]), (4, 6, .bipush 21, []), (6, 7, .iconst 0, []), (7, 8, .iconst 0, []), (8, 11, .invokevirtual 17, [3, 8, 83, 0]), (11, 12, .pop, []), (12, 13, .aload_n 0, [0]), (13, 14, .iload_n 1, [1]), (14, 17, .invokespecial 23, [2, 1, 92, 3, 6]), (17, 18, .ineg, []), (18, 19, .ireturn, [])]
/-- CoinTelescope$Ship.<init>(IIILCoinTelescope$Table;)V -/
def c105 : List (Nat × Nat × ClassFile.Instr × List Int) := [(0, 1, .aload_n 0, [0]), (1, 2, .iload_n 1, [1]), (2, 3, .iload_n 2, [2]), (3, 4, .iload_n 3, [3]), (4, 6, .aload 4, [4]), (6, 9, .invokespecial 1, [1, 4, 98]), (9, 10, .return_, [])]
/-- CoinTelescope$Ship.placeOn(IIII)I -/
def c106 : List (Nat × Nat × ClassFile.Instr × List Int) := [(0, 1, .aload_n 0, [0]), (1, 2, .iload_n 1, [1]), (2, 3, .iconst 2, []), (3, 4, .idiv, []), (4, 5, .iload_n 2, [2]), (5, 6, .iload_n 3, [3]), (6, 8, .iload 4, [4]), (8, 11, .invokespecial 7, [2, 4, 99, 5]), (11, 12, .ireturn, [])]
/-- CoinTelescope$Ship.worthBy(II)I -/
def c107 : List (Nat × Nat × ClassFile.Instr × List Int) := [(0, 1, .aload_n 0, [0]), (1, 2, .iload_n 1, [1]), (2, 3, .iload_n 2, [2]), (3, 6, .invokespecial 11, [2, 2, 100, 5]), (6, 7, .istore_n 3, [3]), (7, 8, .iload_n 2, [2]), (8, 11, .invokestatic 15, [1, 1, 197]), (11, 14, .ifCond .ne 9, [20]), (14, 15, .iload_n 3, [3]), (15, 16, .iconst 2, []), (16, 17, .imul, []), (17, 20, .goto 4, [21]), (20, 21, .iload_n 3, [3]), (21, 22, .ireturn, [])]
/-- CoinTelescope$Ship.tells(I)I -/
def c108 : List (Nat × Nat × ClassFile.Instr × List Int) := [(0, 1, .aload_n 0, [0]), (1, 4, .getfield 21, [3, 1, 1, 2, 3, 5, 6, 9, 10]), (4, 6, .bipush 41, []), (6, 7, .iconst 0, []), (7, 8, .iconst 0, []), (8, 11, .invokevirtual 27, [3, 8, 83, 0]), (11, 12, .pop, []), (12, 13, .aload_n 0, [0]), (13, 14, .iload_n 1, [1]), (14, 15, .iconst 1, []), (15, 16, .isub, []), (16, 19, .invokespecial 33, [2, 1, 93, 5]), (19, 20, .aload_n 0, [0]), (20, 21, .iconst 2, []), (21, 24, .invokevirtual 36, [1, 5, 101, 1]), (24, 25, .iadd, []), (25, 26, .ireturn, [])]
/-- CoinTelescope$Spire.<init>(IIILCoinTelescope$Table;)V -/
def c109 : List (Nat × Nat × ClassFile.Instr × List Int) := [(0, 1, .aload_n 0, [0]), (1, 2, .iload_n 1, [1]), (2, 3, .iload_n 2, [2]), (3, 4, .iload_n 3, [3]), (4, 6, .aload 4, [4]), (6, 9, .invokespecial 1, [1, 4, 102]), (9, 10, .return_, [])]
/-- CoinTelescope$Spire.isDim(II)Z -/
def c110 : List (Nat × Nat × ClassFile.Instr × List Int) := [(0, 1, .iconst 0, []), (1, 2, .ireturn, [])]
/-- CoinTelescope$Spire.worthBy(II)I -/
def c111 : List (Nat × Nat × ClassFile.Instr × List Int) := [(0, 1, .aload_n 0, [0]), (1, 2, .iload_n 1, [1]), (2, 3, .iload_n 2, [2]), (3, 6, .invokespecial 7, [2, 2, 103, 6]), (6, 7, .aload_n 0, [0]), (7, 10, .getfield 11, [2, 0, 1, 2, 3, 5, 6, 9, 10]), (10, 11, .iadd, []), (11, 12, .ireturn, [])]
/-- CoinTelescope$Spire.shows(I)I -/
def c112 : List (Nat × Nat × ClassFile.Instr × List Int) := [(0, 1, .aload_n 0, [0]), (1, 4, .getfield 17, [3, 1, 1, 2, 3, 5, 6, 9, 10]), (4, 6, .bipush 51, []), (6, 7, .iconst 0, []), (7, 8, .iconst 0, []), (8, 11, .invokevirtual 21, [3, 8, 83, 0]), (11, 12, .pop, []), (12, 13, .aload_n 0, [0]), (13, 14, .iload_n 1, [1]), (14, 17, .invokespecial 27, [2, 1, 91, 6]), (17, 18, .aload_n 0, [0]), (18, 21, .getfield 31, [1, 0, 1, 2, 3, 5, 6, 9, 10]), (21, 22, .ixor, []), (22, 23, .ireturn, [])]
/-- CoinTelescope$Told.<init>(IIILCoinTelescope$Table;)V -/
def c113 : List (Nat × Nat × ClassFile.Instr × List Int) := [(0, 1, .aload_n 0, [0]), (1, 2, .iload_n 1, [1]), (2, 3, .iload_n 2, [2]), (3, 4, .iload_n 3, [3]), (4, 6, .aload 4, [4]), (6, 9, .invokespecial 3, [1, 4, 94]), (9, 10, .return_, [])]
/-- CoinTelescope$Told.placeOn(IIII)I -/
def c114 : List (Nat × Nat × ClassFile.Instr × List Int) := [(0, 1, .aload_n 0, [0]), (1, 2, .iload_n 1, [1]), (2, 3, .iload_n 2, [2]), (3, 4, .iload_n 3, [3]), (4, 6, .iload 4, [4]), (6, 9, .invokespecial 9, [2, 4, 95, 10]), (9, 11, .iload 4, [4]), (11, 12, .iadd, []), (12, 14, .bipush 24, []), (14, 15, .irem, []), (15, 16, .ireturn, [])]
/-- CoinTelescope$Told.worthBy(II)I -/
def c115 : List (Nat × Nat × ClassFile.Instr × List Int) := [(0, 1, .aload_n 0, [0]), (1, 2, .iload_n 1, [1]), (2, 3, .iload_n 2, [2]), (3, 6, .invokespecial 13, [2, 2, 96, 10]), (6, 7, .iconst 1, []), (7, 8, .iadd, []), (8, 9, .ireturn, [])]
/-- CoinTelescope$Told.shakes(I)I -/
def c116 : List (Nat × Nat × ClassFile.Instr × List Int) := [(0, 1, .aload_n 0, [0]), (1, 4, .getfield 17, [3, 1, 1, 2, 3, 5, 6, 9, 10]), (4, 6, .bipush 61, []), (6, 7, .iconst 0, []), (7, 8, .iconst 0, []), (8, 11, .invokevirtual 23, [3, 8, 83, 0]), (11, 12, .pop, []), (12, 13, .aload_n 0, [0]), (13, 14, .iload_n 1, [1]), (14, 17, .invokespecial 29, [2, 1, 92, 10]), (17, 18, .aload_n 0, [0]), (18, 21, .getfield 33, [2, 0, 1, 2, 3, 5, 6, 9, 10]), (21, 22, .iadd, []), (22, 23, .ireturn, [])]
/-- CoinTelescope$View.<init>()V -/
def c117 : List (Nat × Nat × ClassFile.Instr × List Int) := [(0, 1, .aload_n 0, [0]), (1, 4, .invokespecial 3, [0]), (4, 5, .aload_n 0, [0]), (5, 7, .bipush 8, []), (7, 10, .putfield 9, [0, 0, 11]), (10, 11, .aload_n 0, [0]), (11, 12, .iconst 0, []), (12, 15, .putfield 15, [1, 0, 11]), (15, 16, .aload_n 0, [0]), (16, 17, .iconst 0, []), (17, 20, .putfield 18, [2, 0, 11]), (20, 21, .aload_n 0, [0]), (21, 23, .bipush 100, []), (23, 25, .newarray .int, [20]), (25, 28, .putfield 21, [3, 1, 11]), (28, 29, .aload_n 0, [0]), (29, 30, .iconst 0, []), (30, 33, .putfield 25, [4, 0, 11]), (33, 34, .aload_n 0, [0]), (34, 36, .bipush 10, []), (36, 38, .newarray .int, [20]), (38, 41, .putfield 28, [5, 1, 11]), (41, 42, .aload_n 0, [0]), (42, 44, .bipush 10, []), (44, 46, .newarray .int, [20]), (46, 49, .putfield 31, [6, 1, 11]), (49, 50, .aload_n 0, [0]), (50, 51, .iconst 0, []), (51, 54, .putfield 34, [7, 0, 11]), (54, 55, .aload_n 0, [0]), (55, 56, .iconst 0, []), (56, 58, .newarray .int, [20]), (58, 61, .putfield 37, [8, 1, 11]), (61, 62, .aload_n 0, [0]), (62, 63, .iconst 0, []), (63, 66, .putfield 40, [9, 0, 11]), (66, 67, .return_, [])]
/-- CoinTelescope$View.readFrom([I)I -/
def c118 : List (Nat × Nat × ClassFile.Instr × List Int) := [(0, 1, .aload_n 0, [0]), (1, 2, .aload_n 1, [1]), (2, 5, .putfield 37, [8, 1, 11]), (5, 6, .iconst 0, []), (6, 7, .istore_n 2, [2]), (7, 8, .aload_n 0, [0]), (8, 11, .invokevirtual 43, [0, 11, 119, 0]), (11, 14, .ifCond .ne 8, [19]), (14, 15, .aload_n 0, [0]), (15, 18, .getfield 40, [9, 0, 11]), (18, 19, .ireturn, []), (19, 22, .iinc 2 1, [2, 1]), (22, 23, .iload_n 2, [2]), (23, 25, .bipush 10, []), (25, 28, .if_icmp .ge 12, [37]), (28, 29, .aload_n 0, [0]), (29, 31, .bipush 59, []), (31, 34, .invokevirtual 47, [1, 11, 127, 0]), (34, 37, .ifCond .ne (-27), [7]), (37, 38, .aload_n 0, [0]), (38, 41, .invokevirtual 51, [0, 11, 128, 0]), (41, 42, .iconst (-1), []), (42, 45, .if_icmp .ne 7, [49]), (45, 46, .iconst (-1), []), (46, 49, .goto 7, [53]), (49, 50, .aload_n 0, [0]), (50, 53, .getfield 40, [9, 0, 11]), (53, 54, .ireturn, [])]
/-- CoinTelescope$View.readClause()Z -/
def c119 : List (Nat × Nat × ClassFile.Instr × List Int) := [(0, 1, .aload_n 0, [0]), (1, 4, .invokevirtual 55, [0, 11, 120, 0]), (4, 5, .istore_n 1, [1]), (5, 6, .iload_n 1, [1]), (6, 9, .ifCond .lt 12, [18]), (9, 10, .aload_n 0, [0]), (10, 12, .bipush 32, []), (12, 15, .invokevirtual 47, [1, 11, 127, 0]), (15, 18, .ifCond .ne 5, [20]), (18, 19, .iconst 0, []), (19, 20, .ireturn, []), (20, 21, .aload_n 0, [0]), (21, 24, .invokevirtual 58, [0, 11, 122, 0]), (24, 25, .istore_n 2, [2]), (25, 26, .iload_n 2, [2]), (26, 29, .ifCond .ge 5, [31]), (29, 30, .iconst 0, []), (30, 31, .ireturn, []), (31, 32, .iload_n 1, [1]), (32, 60, .tableswitch 53 0 2 #[28, 39, 46], [85, 0, 60, 1, 71, 2, 78]), (60, 61, .aload_n 0, [0]), (61, 62, .iconst 1, []), (62, 63, .iload_n 2, [2]), (63, 66, .invokestatic 61, [2]), (66, 69, .putfield 9, [0, 0, 11]), (69, 70, .iconst 1, []), (70, 71, .ireturn, []), (71, 72, .aload_n 0, [0]), (72, 73, .iload_n 2, [2]), (73, 76, .putfield 15, [1, 0, 11]), (76, 77, .iconst 1, []), (77, 78, .ireturn, []), (78, 79, .aload_n 0, [0]), (79, 80, .iload_n 2, [2]), (80, 83, .putfield 18, [2, 0, 11]), (83, 84, .iconst 1, []), (84, 85, .ireturn, []), (85, 86, .aload_n 0, [0]), (86, 88, .bipush 32, []), (88, 91, .invokevirtual 47, [1, 11, 127, 0]), (91, 94, .ifCond .eq 13, [104]), (94, 95, .aload_n 0, [0]), (95, 97, .bipush (-3), []), (97, 98, .iconst 0, []), (98, 101, .invokevirtual 67, [2, 11, 123, 0]), (101, 104, .ifCond .ne 5, [106]), (104, 105, .iconst 0, []), (105, 106, .ireturn, []), (106, 107, .aload_n 0, [0]), (107, 108, .iload_n 1, [1]), (108, 109, .iconst 3, []), (109, 112, .if_icmp .ne 7, [116]), (112, 113, .iload_n 2, [2]), (113, 116, .goto 5, [118]), (116, 117, .iload_n 2, [2]), (117, 118, .ineg, []), (118, 121, .invokevirtual 71, [1, 11, 130, 0]), (121, 122, .iconst 1, []), (122, 123, .ireturn, [])]
/-- CoinTelescope$View.readWord()I -/
def c120 : List (Nat × Nat × ClassFile.Instr × List Int) := [(0, 1, .iconst 0, []), (1, 2, .istore_n 1, [1]), (2, 3, .iconst 0, []), (3, 4, .istore_n 2, [2]), (4, 5, .iload_n 2, [2]), (5, 6, .iconst 5, []), (6, 9, .if_icmp .ge 40, [46]), (9, 10, .aload_n 0, [0]), (10, 11, .iload_n 2, [2]), (11, 12, .iconst 4, []), (12, 13, .imul, []), (13, 16, .invokevirtual 75, [1, 11, 121, 0]), (16, 17, .istore_n 3, [3]), (17, 18, .iload_n 3, [3]), (18, 19, .iconst 4, []), (19, 22, .if_icmp .ne 15, [34]), (22, 23, .aload_n 0, [0]), (23, 24, .dup, []), (24, 27, .getfield 40, [9, 0, 11]), (27, 28, .iconst 4, []), (28, 29, .iadd, []), (29, 32, .putfield 40, [9, 0, 11]), (32, 33, .iload_n 2, [2]), (33, 34, .ireturn, []), (34, 35, .iload_n 1, [1]), (35, 36, .iload_n 3, [3]), (36, 39, .invokestatic 61, [2]), (39, 40, .istore_n 1, [1]), (40, 43, .iinc 2 1, [2, 1]), (43, 46, .goto (-39), [4]), (46, 47, .aload_n 0, [0]), (47, 48, .dup, []), (48, 51, .getfield 40, [9, 0, 11]), (51, 52, .iload_n 1, [1]), (52, 53, .iadd, []), (53, 56, .putfield 40, [9, 0, 11]), (56, 57, .iconst (-1), []), (57, 58, .ireturn, [])]
/-- CoinTelescope$View.sameSigns(I)I -/
def c121 : List (Nat × Nat × ClassFile.Instr × List Int) := [(0, 1, .iconst 0, []), (1, 2, .istore_n 2, [2]), (2, 3, .iload_n 2, [2]), (3, 4, .iconst 4, []), (4, 7, .if_icmp .ge 56, [60]), (7, 8, .iload_n 1, [1]), (8, 9, .iload_n 2, [2]), (9, 10, .iadd, []), (10, 12, .ldc 79, [1, 0]), (12, 15, .invokevirtual 81, [0, 500, 205, 0]), (15, 18, .if_icmp .ge 45, [60]), (18, 19, .aload_n 0, [0]), (19, 22, .getfield 40, [9, 0, 11]), (22, 23, .iload_n 2, [2]), (23, 24, .iadd, []), (24, 25, .aload_n 0, [0]), (25, 28, .getfield 37, [8, 1, 11]), (28, 29, .arraylength, []), (29, 32, .if_icmp .ge 31, [60]), (32, 33, .aload_n 0, [0]), (33, 36, .getfield 37, [8, 1, 11]), (36, 37, .aload_n 0, [0]), (37, 40, .getfield 40, [9, 0, 11]), (40, 41, .iload_n 2, [2]), (41, 42, .iadd, []), (42, 43, .iaload, []), (43, 45, .ldc 79, [1, 0]), (45, 46, .iload_n 1, [1]), (46, 47, .iload_n 2, [2]), (47, 48, .iadd, []), (48, 51, .invokevirtual 86, [1, 500, 206, 0]), (51, 54, .if_icmp .ne 9, [60]), (54, 57, .iinc 2 1, [2, 1]), (57, 60, .goto (-55), [2]), (60, 61, .iload_n 2, [2]), (61, 62, .ireturn, [])]
/-- CoinTelescope$View.readNumber()I -/
def c122 : List (Nat × Nat × ClassFile.Instr × List Int) := [(0, 1, .aload_n 0, [0]), (1, 4, .invokevirtual 51, [0, 11, 128, 0]), (4, 6, .bipush 48, []), (6, 7, .isub, []), (7, 8, .istore_n 1, [1]), (8, 9, .iload_n 1, [1]), (9, 12, .ifCond .lt 9, [18]), (12, 13, .iload_n 1, [1]), (13, 15, .bipush 9, []), (15, 18, .if_icmp .le 5, [20]), (18, 19, .iconst (-1), []), (19, 20, .ireturn, []), (20, 21, .aload_n 0, [0]), (21, 22, .dup, []), (22, 25, .getfield 40, [9, 0, 11]), (25, 26, .iconst 1, []), (26, 27, .iadd, []), (27, 30, .putfield 40, [9, 0, 11]), (30, 31, .aload_n 0, [0]), (31, 34, .invokevirtual 51, [0, 11, 128, 0]), (34, 36, .bipush 48, []), (36, 37, .isub, []), (37, 38, .istore_n 2, [2]), (38, 39, .iload_n 1, [1]), (39, 42, .ifCond .eq 13, [52]), (42, 43, .iload_n 2, [2]), (43, 46, .ifCond .lt 9, [52]), (46, 47, .iload_n 2, [2]), (47, 49, .bipush 9, []), (49, 52, .if_icmp .le 5, [54]), (52, 53, .iload_n 1, [1]), (53, 54, .ireturn, []), (54, 55, .aload_n 0, [0]), (55, 56, .dup, []), (56, 59, .getfield 40, [9, 0, 11]), (59, 60, .iconst 1, []), (60, 61, .iadd, []), (61, 64, .putfield 40, [9, 0, 11]), (64, 65, .iload_n 1, [1]), (65, 67, .bipush 10, []), (67, 68, .imul, []), (68, 69, .iload_n 2, [2]), (69, 70, .iadd, []), (70, 71, .ireturn, [])]
/-- CoinTelescope$View.readJoined(II)Z -/
def c123 : List (Nat × Nat × ClassFile.Instr × List Int) := [(0, 1, .iload_n 1, [1]), (1, 3, .bipush (-3), []), (3, 6, .if_icmp .ne 8, [11]), (6, 8, .bipush 124, []), (8, 11, .goto 5, [13]), (11, 13, .bipush 38, []), (13, 14, .istore_n 3, [3]), (14, 15, .iconst 0, []), (15, 17, .istore 4, [4]), (17, 18, .iload_n 1, [1]), (18, 20, .bipush (-3), []), (20, 23, .if_icmp .ne 16, [36]), (23, 24, .aload_n 0, [0]), (24, 26, .bipush (-2), []), (26, 27, .iload_n 2, [2]), (27, 30, .invokevirtual 67, [2, 11, 123, 0]), (30, 33, .ifCond .ne 16, [46]), (33, 36, .goto 11, [44]), (36, 37, .aload_n 0, [0]), (37, 38, .iload_n 2, [2]), (38, 41, .invokevirtual 90, [1, 11, 124, 0]), (41, 44, .ifCond .ne 5, [46]), (44, 45, .iconst 0, []), (45, 46, .ireturn, []), (46, 48, .iload 4, [4]), (48, 51, .ifCond .le 8, [56]), (51, 52, .aload_n 0, [0]), (52, 53, .iload_n 1, [1]), (53, 56, .invokevirtual 94, [1, 11, 129, 0]), (56, 59, .iinc 4 1, [4, 1]), (59, 61, .iload 4, [4]), (61, 63, .bipush 100, []), (63, 66, .if_icmp .gt 11, [74]), (66, 67, .aload_n 0, [0]), (67, 68, .iload_n 3, [3]), (68, 71, .invokevirtual 47, [1, 11, 127, 0]), (71, 74, .ifCond .ne (-54), [17]), (74, 75, .iconst 1, []), (75, 76, .ireturn, [])]
/-- CoinTelescope$View.readOne(I)Z -/
def c124 : List (Nat × Nat × ClassFile.Instr × List Int) := [(0, 1, .aload_n 0, [0]), (1, 4, .invokevirtual 51, [0, 11, 128, 0]), (4, 5, .istore_n 2, [2]), (5, 6, .iload_n 2, [2]), (6, 8, .bipush 33, []), (8, 11, .if_icmp .eq 14, [22]), (11, 12, .iload_n 2, [2]), (12, 14, .bipush 40, []), (14, 17, .if_icmp .eq 8, [22]), (17, 18, .aload_n 0, [0]), (18, 21, .invokevirtual 97, [0, 11, 125, 0]), (21, 22, .ireturn, []), (22, 23, .iload_n 1, [1]), (23, 24, .iconst 5, []), (24, 27, .if_icmp .lt 5, [29]), (27, 28, .iconst 0, []), (28, 29, .ireturn, []), (29, 30, .aload_n 0, [0]), (30, 31, .dup, []), (31, 34, .getfield 40, [9, 0, 11]), (34, 35, .iconst 1, []), (35, 36, .iadd, []), (36, 39, .putfield 40, [9, 0, 11]), (39, 40, .iload_n 2, [2]), (40, 42, .bipush 40, []), (42, 45, .if_icmp .ne 30, [72]), (45, 46, .aload_n 0, [0]), (46, 48, .bipush (-3), []), (48, 49, .iload_n 1, [1]), (49, 50, .iconst 1, []), (50, 51, .iadd, []), (51, 54, .invokevirtual 67, [2, 11, 123, 0]), (54, 57, .ifCond .eq 16, [70]), (57, 58, .aload_n 0, [0]), (58, 60, .bipush 41, []), (60, 63, .invokevirtual 47, [1, 11, 127, 0]), (63, 66, .ifCond .eq 7, [70]), (66, 67, .iconst 1, []), (67, 70, .goto 4, [71]), (70, 71, .iconst 0, []), (71, 72, .ireturn, []), (72, 73, .aload_n 0, [0]), (73, 74, .iload_n 1, [1]), (74, 75, .iconst 1, []), (75, 76, .iadd, []), (76, 79, .invokevirtual 90, [1, 11, 124, 0]), (79, 82, .ifCond .ne 5, [84]), (82, 83, .iconst 0, []), (83, 84, .ireturn, []), (84, 85, .aload_n 0, [0]), (85, 86, .iconst (-1), []), (86, 89, .invokevirtual 94, [1, 11, 129, 0]), (89, 90, .iconst 1, []), (90, 91, .ireturn, [])]
/-- CoinTelescope$View.readTest()Z -/
def c125 : List (Nat × Nat × ClassFile.Instr × List Int) := [(0, 1, .aload_n 0, [0]), (1, 3, .ldc 100, [1, 1]), (3, 6, .invokevirtual 102, [1, 11, 126, 0]), (6, 7, .istore_n 1, [1]), (7, 8, .iload_n 1, [1]), (8, 11, .ifCond .ge 5, [13]), (11, 12, .iconst 0, []), (12, 13, .ireturn, []), (13, 14, .aload_n 0, [0]), (14, 16, .ldc 106, [1, 2]), (16, 19, .invokevirtual 102, [1, 11, 126, 0]), (19, 20, .istore_n 2, [2]), (20, 21, .iload_n 2, [2]), (21, 24, .ifCond .ge 5, [26]), (24, 25, .iconst 0, []), (25, 26, .ireturn, []), (26, 27, .aload_n 0, [0]), (27, 30, .invokevirtual 58, [0, 11, 122, 0]), (30, 31, .istore_n 3, [3]), (31, 32, .iload_n 3, [3]), (32, 35, .ifCond .ge 5, [37]), (35, 36, .iconst 0, []), (36, 37, .ireturn, []), (37, 38, .aload_n 0, [0]), (38, 39, .iload_n 1, [1]), (39, 42, .sipush 300, []), (42, 43, .imul, []), (43, 44, .iload_n 2, [2]), (44, 46, .bipush 100, []), (46, 47, .imul, []), (47, 48, .iadd, []), (48, 49, .iload_n 3, [3]), (49, 50, .iadd, []), (50, 53, .invokevirtual 94, [1, 11, 129, 0]), (53, 54, .iconst 1, []), (54, 55, .ireturn, [])]
/-- CoinTelescope$View.readPlaceIn(Ljava/lang/String;)I -/
def c126 : List (Nat × Nat × ClassFile.Instr × List Int) := [(0, 1, .aload_n 0, [0]), (1, 4, .invokevirtual 51, [0, 11, 128, 0]), (4, 5, .istore_n 2, [2]), (5, 6, .iload_n 2, [2]), (6, 7, .iconst (-1), []), (7, 10, .if_icmp .ne 7, [14]), (10, 11, .iconst (-1), []), (11, 14, .goto 9, [20]), (14, 15, .aload_n 1, [1]), (15, 16, .iload_n 2, [2]), (16, 17, .i2c, []), (17, 20, .invokevirtual 108, [1, 500, 207, 0]), (20, 21, .istore_n 3, [3]), (21, 22, .iload_n 3, [3]), (22, 25, .ifCond .lt 13, [35]), (25, 26, .aload_n 0, [0]), (26, 27, .dup, []), (27, 30, .getfield 40, [9, 0, 11]), (30, 31, .iconst 1, []), (31, 32, .iadd, []), (32, 35, .putfield 40, [9, 0, 11]), (35, 36, .iload_n 3, [3]), (36, 37, .ireturn, [])]
/-- CoinTelescope$View.take(C)Z -/
def c127 : List (Nat × Nat × ClassFile.Instr × List Int) := [(0, 1, .aload_n 0, [0]), (1, 4, .invokevirtual 51, [0, 11, 128, 0]), (4, 5, .iload_n 1, [1]), (5, 8, .if_icmp .ne 7, [12]), (8, 9, .iconst 1, []), (9, 12, .goto 4, [13]), (12, 13, .iconst 0, []), (13, 14, .istore_n 2, [2]), (14, 15, .iload_n 2, [2]), (15, 18, .ifCond .eq 13, [28]), (18, 19, .aload_n 0, [0]), (19, 20, .dup, []), (20, 23, .getfield 40, [9, 0, 11]), (23, 24, .iconst 1, []), (24, 25, .iadd, []), (25, 28, .putfield 40, [9, 0, 11]), (28, 29, .iload_n 2, [2]), (29, 30, .ireturn, [])]
/-- CoinTelescope$View.next()I -/
def c128 : List (Nat × Nat × ClassFile.Instr × List Int) := [(0, 1, .aload_n 0, [0]), (1, 4, .getfield 40, [9, 0, 11]), (4, 7, .ifCond .lt 27, [31]), (7, 8, .aload_n 0, [0]), (8, 11, .getfield 40, [9, 0, 11]), (11, 12, .aload_n 0, [0]), (12, 15, .getfield 37, [8, 1, 11]), (15, 16, .arraylength, []), (16, 19, .if_icmp .ge 15, [31]), (19, 20, .aload_n 0, [0]), (20, 23, .getfield 37, [8, 1, 11]), (23, 24, .aload_n 0, [0]), (24, 27, .getfield 40, [9, 0, 11]), (27, 28, .iaload, []), (28, 31, .goto 4, [32]), (31, 32, .iconst (-1), []), (32, 33, .ireturn, [])]
/-- CoinTelescope$View.emit(I)V -/
def c129 : List (Nat × Nat × ClassFile.Instr × List Int) := [(0, 1, .aload_n 0, [0]), (1, 4, .getfield 21, [3, 1, 11]), (4, 5, .aload_n 0, [0]), (5, 8, .getfield 25, [4, 0, 11]), (8, 11, .invokestatic 111, [1, 2, 192]), (11, 14, .ifCond .eq 23, [34]), (14, 15, .aload_n 0, [0]), (15, 18, .getfield 21, [3, 1, 11]), (18, 19, .aload_n 0, [0]), (19, 22, .getfield 25, [4, 0, 11]), (22, 23, .iload_n 1, [1]), (23, 24, .iastore, []), (24, 25, .aload_n 0, [0]), (25, 26, .dup, []), (26, 29, .getfield 25, [4, 0, 11]), (29, 30, .iconst 1, []), (30, 31, .iadd, []), (31, 34, .putfield 25, [4, 0, 11]), (34, 35, .return_, [])]
/-- CoinTelescope$View.keepCondition(I)V -/
def c130 : List (Nat × Nat × ClassFile.Instr × List Int) := [(0, 1, .aload_n 0, [0]), (1, 4, .getfield 28, [5, 1, 11]), (4, 5, .aload_n 0, [0]), (5, 8, .getfield 34, [7, 0, 11]), (8, 11, .invokestatic 111, [1, 2, 192]), (11, 14, .ifCond .eq 50, [61]), (14, 15, .aload_n 0, [0]), (15, 18, .getfield 31, [6, 1, 11]), (18, 19, .aload_n 0, [0]), (19, 22, .getfield 34, [7, 0, 11]), (22, 25, .invokestatic 111, [1, 2, 192]), (25, 28, .ifCond .eq 36, [61]), (28, 29, .aload_n 0, [0]), (29, 32, .getfield 28, [5, 1, 11]), (32, 33, .aload_n 0, [0]), (33, 36, .getfield 34, [7, 0, 11]), (36, 37, .iload_n 1, [1]), (37, 38, .iastore, []), (38, 39, .aload_n 0, [0]), (39, 42, .getfield 31, [6, 1, 11]), (42, 43, .aload_n 0, [0]), (43, 46, .getfield 34, [7, 0, 11]), (46, 47, .aload_n 0, [0]), (47, 50, .getfield 25, [4, 0, 11]), (50, 51, .iastore, []), (51, 52, .aload_n 0, [0]), (52, 53, .dup, []), (53, 56, .getfield 34, [7, 0, 11]), (56, 57, .iconst 1, []), (57, 58, .iadd, []), (58, 61, .putfield 34, [7, 0, 11]), (61, 62, .return_, [])]
/-- CoinTelescope$View.baseBy([I)I -/
def c131 : List (Nat × Nat × ClassFile.Instr × List Int) := [(0, 1, .iconst 0, []), (1, 2, .istore_n 2, [2]), (2, 3, .iconst 0, []), (3, 4, .istore_n 3, [3]), (4, 5, .iconst 0, []), (5, 7, .istore 4, [4]), (7, 9, .iload 4, [4]), (9, 10, .aload_n 0, [0]), (10, 13, .getfield 34, [7, 0, 11]), (13, 16, .if_icmp .ge 63, [76]), (16, 18, .iload 4, [4]), (18, 19, .aload_n 0, [0]), (19, 22, .getfield 28, [5, 1, 11]), (22, 23, .arraylength, []), (23, 26, .if_icmp .ge 53, [76]), (26, 28, .iload 4, [4]), (28, 29, .aload_n 0, [0]), (29, 32, .getfield 31, [6, 1, 11]), (32, 33, .arraylength, []), (33, 36, .if_icmp .ge 43, [76]), (36, 37, .aload_n 0, [0]), (37, 38, .iload_n 3, [3]), (38, 39, .aload_n 0, [0]), (39, 42, .getfield 31, [6, 1, 11]), (42, 44, .iload 4, [4]), (44, 45, .iaload, []), (45, 46, .aload_n 1, [1]), (46, 49, .invokevirtual 115, [3, 11, 132, 0]), (49, 52, .ifCond .eq 13, [62]), (52, 53, .iload_n 2, [2]), (53, 54, .aload_n 0, [0]), (54, 57, .getfield 28, [5, 1, 11]), (57, 59, .iload 4, [4]), (59, 60, .iaload, []), (60, 61, .iadd, []), (61, 62, .istore_n 2, [2]), (62, 63, .aload_n 0, [0]), (63, 66, .getfield 31, [6, 1, 11]), (66, 68, .iload 4, [4]), (68, 69, .iaload, []), (69, 70, .istore_n 3, [3]), (70, 73, .iinc 4 1, [4, 1]), (73, 76, .goto (-66), [7]), (76, 77, .iload_n 2, [2]), (77, 78, .ireturn, [])]
/-- CoinTelescope$View.holds(II[I)Z -/
def c132 : List (Nat × Nat × ClassFile.Instr × List Int) := [(0, 1, .iconst 0, []), (1, 3, .istore 4, [4]), (3, 4, .iconst 0, []), (4, 5, .iload_n 1, [1]), (5, 8, .invokestatic 61, [2]), (8, 10, .istore 5, [5]), (10, 12, .iload 5, [5]), (12, 13, .iload_n 2, [2]), (13, 16, .if_icmp .ge 111, [124]), (16, 18, .iload 5, [5]), (18, 19, .aload_n 0, [0]), (19, 22, .getfield 21, [3, 1, 11]), (22, 23, .arraylength, []), (23, 26, .if_icmp .ge 101, [124]), (26, 27, .aload_n 0, [0]), (27, 30, .getfield 21, [3, 1, 11]), (30, 32, .iload 5, [5]), (32, 33, .iaload, []), (33, 35, .istore 6, [6]), (35, 37, .iload 6, [6]), (37, 64, .tableswitch 65 (-3) (-1) #[51, 36, 27], [102, (-3), 88, (-2), 73, (-1), 64]), (64, 66, .iload 4, [4]), (66, 67, .iconst 1, []), (67, 68, .ixor, []), (68, 70, .istore 4, [4]), (70, 73, .goto 48, [118]), (73, 75, .iload 4, [4]), (75, 76, .iconst 1, []), (76, 77, .iushr, []), (77, 79, .iload 4, [4]), (79, 81, .bipush (-2), []), (81, 82, .ior, []), (82, 83, .iand, []), (83, 85, .istore 4, [4]), (85, 88, .goto 33, [118]), (88, 90, .iload 4, [4]), (90, 91, .iconst 1, []), (91, 92, .iushr, []), (92, 94, .iload 4, [4]), (94, 95, .iconst 1, []), (95, 96, .iand, []), (96, 97, .ior, []), (97, 99, .istore 4, [4]), (99, 102, .goto 19, [118]), (102, 104, .iload 4, [4]), (104, 105, .iconst 1, []), (105, 106, .ishl, []), (106, 108, .iload 6, [6]), (108, 109, .aload_n 3, [3]), (109, 112, .invokestatic 119, [0, 2, 133]), (112, 115, .invokestatic 123, [1, 1, 195]), (115, 116, .ior, []), (116, 118, .istore 4, [4]), (118, 121, .iinc 5 1, [5, 1]), (121, 124, .goto (-111), [10]), (124, 126, .iload 4, [4]), (126, 127, .iconst 1, []), (127, 128, .iand, []), (128, 129, .iconst 1, []), (129, 132, .if_icmp .ne 7, [136]), (132, 133, .iconst 1, []), (133, 136, .goto 4, [137]), (136, 137, .iconst 0, []), (137, 138, .ireturn, [])]
/-- CoinTelescope$View.testHolds(I[I)Z -/
def c133 : List (Nat × Nat × ClassFile.Instr × List Int) := [(0, 1, .iload_n 0, [0]), (1, 4, .sipush 300, []), (4, 5, .idiv, []), (5, 6, .istore_n 2, [2]), (6, 7, .iload_n 2, [2]), (7, 10, .ifCond .lt 9, [16]), (10, 11, .iload_n 2, [2]), (11, 12, .aload_n 1, [1]), (12, 13, .arraylength, []), (13, 16, .if_icmp .lt 5, [18]), (16, 17, .iconst 0, []), (17, 18, .ireturn, []), (18, 19, .aload_n 1, [1]), (19, 20, .iload_n 2, [2]), (20, 21, .iaload, []), (21, 22, .istore_n 3, [3]), (22, 23, .iload_n 0, [0]), (23, 25, .bipush 100, []), (25, 26, .irem, []), (26, 28, .istore 4, [4]), (28, 29, .iload_n 0, [0]), (29, 32, .sipush 300, []), (32, 33, .irem, []), (33, 35, .bipush 100, []), (35, 36, .idiv, []), (36, 64, .lookupswitch 52 #[(0, 28), (1, 40)], [88, 0, 64, 1, 76]), (64, 65, .iload_n 3, [3]), (65, 67, .iload 4, [4]), (67, 70, .if_icmp .ge 7, [74]), (70, 71, .iconst 1, []), (71, 74, .goto 4, [75]), (74, 75, .iconst 0, []), (75, 76, .ireturn, []), (76, 77, .iload_n 3, [3]), (77, 79, .iload 4, [4]), (79, 82, .if_icmp .ne 7, [86]), (82, 83, .iconst 1, []), (83, 86, .goto 4, [87]), (86, 87, .iconst 0, []), (87, 88, .ireturn, []), (88, 89, .iload_n 3, [3]), (89, 91, .iload 4, [4]), (91, 94, .if_icmp .le 7, [98]), (94, 95, .iconst 1, []), (95, 98, .goto 4, [99]), (98, 99, .iconst 0, []), (99, 100, .ireturn, [])]
/-- CoinTelescope$State.<init>()V -/
def c134 : List (Nat × Nat × ClassFile.Instr × List Int) := [(0, 1, .aload_n 0, [0]), (1, 4, .invokespecial 3, [0]), (4, 5, .aload_n 0, [0]), (5, 8, .new 9, [8, 4]), (8, 9, .dup, []), (9, 10, .iconst 1, []), (10, 12, .bipush 100, []), (12, 15, .invokespecial 11, [1, 2, 79]), (15, 18, .putfield 14, [0, 1, 7]), (18, 19, .aload_n 0, [0]), (19, 22, .new 20, [11, 10]), (22, 23, .dup, []), (23, 26, .invokespecial 22, [1, 0, 117]), (26, 29, .putfield 23, [1, 1, 7]), (29, 30, .aload_n 0, [0]), (30, 32, .bipush 6, []), (32, 35, .anewarray 27, []), (35, 38, .putfield 29, [4, 1, 7]), (38, 39, .aload_n 0, [0]), (39, 41, .bipush 6, []), (41, 43, .newarray .int, [20]), (43, 46, .putfield 33, [5, 1, 7]), (46, 47, .aload_n 0, [0]), (47, 49, .bipush 24, []), (49, 51, .newarray .int, [20]), (51, 54, .putfield 37, [6, 1, 7]), (54, 55, .aload_n 0, [0]), (55, 58, .new 9, [8, 4]), (58, 59, .dup, []), (59, 60, .iconst 3, []), (60, 61, .iconst 5, []), (61, 64, .invokespecial 11, [1, 2, 79]), (64, 67, .putfield 40, [13, 1, 7]), (67, 68, .aload_n 0, [0]), (68, 71, .new 9, [8, 4]), (71, 72, .dup, []), (72, 73, .iconst 1, []), (73, 75, .bipush 8, []), (75, 78, .invokespecial 11, [1, 2, 79]), (78, 81, .putfield 43, [14, 1, 7]), (81, 82, .aload_n 0, [0]), (82, 85, .new 9, [8, 4]), (85, 86, .dup, []), (86, 87, .iconst 2, []), (87, 89, .bipush 8, []), (89, 92, .invokespecial 11, [1, 2, 79]), (92, 95, .putfield 46, [15, 1, 7]), (95, 96, .aload_n 0, [0]), (96, 98, .bipush 6, []), (98, 100, .newarray .int, [20]), (100, 103, .putfield 49, [16, 1, 7]), (103, 104, .return_, [])]
/-- CoinTelescope$State.find(I)LCoinTelescope$Thing; -/
def c135 : List (Nat × Nat × ClassFile.Instr × List Int) := [(0, 1, .iload_n 1, [1]), (1, 4, .ifCond .lt 29, [30]), (4, 5, .iload_n 1, [1]), (5, 6, .aload_n 0, [0]), (6, 9, .getfield 52, [3, 0, 7]), (9, 12, .if_icmp .ge 21, [30]), (12, 13, .iload_n 1, [1]), (13, 14, .aload_n 0, [0]), (14, 17, .getfield 29, [4, 1, 7]), (17, 18, .arraylength, []), (18, 21, .if_icmp .ge 12, [30]), (21, 22, .aload_n 0, [0]), (22, 25, .getfield 29, [4, 1, 7]), (25, 26, .iload_n 1, [1]), (26, 27, .aaload, []), (27, 30, .goto 4, [31]), (30, 31, .aconst_null, []), (31, 32, .areturn, [])]
/-- CoinTelescope$State.put(LCoinTelescope$Thing;I)I -/
def c136 : List (Nat × Nat × ClassFile.Instr × List Int) := [(0, 1, .aload_n 0, [0]), (1, 4, .getfield 52, [3, 0, 7]), (4, 5, .istore_n 3, [3]), (5, 6, .iload_n 3, [3]), (6, 9, .ifCond .lt 21, [27]), (9, 10, .iload_n 3, [3]), (10, 11, .aload_n 0, [0]), (11, 14, .getfield 29, [4, 1, 7]), (14, 15, .arraylength, []), (15, 18, .if_icmp .ge 12, [27]), (18, 19, .iload_n 3, [3]), (19, 20, .aload_n 0, [0]), (20, 23, .getfield 33, [5, 1, 7]), (23, 24, .arraylength, []), (24, 27, .if_icmp .lt 6, [30]), (27, 29, .bipush (-4), []), (29, 30, .ireturn, []), (30, 31, .aload_n 0, [0]), (31, 34, .getfield 29, [4, 1, 7]), (34, 35, .iload_n 3, [3]), (35, 36, .aload_n 1, [1]), (36, 37, .aastore, []), (37, 38, .aload_n 0, [0]), (38, 41, .getfield 33, [5, 1, 7]), (41, 42, .iload_n 3, [3]), (42, 43, .iload_n 2, [2]), (43, 44, .iastore, []), (44, 45, .aload_n 0, [0]), (45, 46, .dup, []), (46, 49, .getfield 52, [3, 0, 7]), (49, 50, .iconst 1, []), (50, 51, .iadd, []), (51, 54, .putfield 52, [3, 0, 7]), (54, 55, .iload_n 3, [3]), (55, 56, .ireturn, [])]
/-- CoinTelescope$State.homeOf(I)I -/
def c137 : List (Nat × Nat × ClassFile.Instr × List Int) := [(0, 1, .aload_n 0, [0]), (1, 4, .getfield 33, [5, 1, 7]), (4, 5, .iload_n 1, [1]), (5, 8, .invokestatic 56, [1, 2, 192]), (8, 11, .ifCond .eq 12, [20]), (11, 12, .aload_n 0, [0]), (12, 15, .getfield 33, [5, 1, 7]), (15, 16, .iload_n 1, [1]), (16, 17, .iaload, []), (17, 20, .goto 4, [21]), (20, 21, .iconst 0, []), (21, 22, .ireturn, [])]
/-- CoinTelescope$State.changeHome(II)I -/
def c138 : List (Nat × Nat × ClassFile.Instr × List Int) := [(0, 1, .aload_n 0, [0]), (1, 2, .iload_n 1, [1]), (2, 5, .invokevirtual 60, [1, 7, 137, 0]), (5, 6, .istore_n 3, [3]), (6, 7, .aload_n 0, [0]), (7, 10, .getfield 33, [5, 1, 7]), (10, 11, .iload_n 1, [1]), (11, 14, .invokestatic 56, [1, 2, 192]), (14, 17, .ifCond .eq 10, [24]), (17, 18, .aload_n 0, [0]), (18, 21, .getfield 33, [5, 1, 7]), (21, 22, .iload_n 1, [1]), (22, 23, .iload_n 2, [2]), (23, 24, .iastore, []), (24, 25, .iload_n 3, [3]), (25, 26, .ireturn, [])]
/-- CoinTelescope$State.rowNumber(II)I -/
def c139 : List (Nat × Nat × ClassFile.Instr × List Int) := [(0, 1, .iload_n 1, [1]), (1, 2, .iconst 4, []), (2, 3, .imul, []), (3, 4, .iload_n 2, [2]), (4, 5, .iadd, []), (5, 6, .istore_n 3, [3]), (6, 7, .aload_n 0, [0]), (7, 10, .getfield 37, [6, 1, 7]), (10, 11, .iload_n 3, [3]), (11, 14, .invokestatic 56, [1, 2, 192]), (14, 17, .ifCond .eq 12, [26]), (17, 18, .aload_n 0, [0]), (18, 21, .getfield 37, [6, 1, 7]), (21, 22, .iload_n 3, [3]), (22, 23, .iaload, []), (23, 26, .goto 4, [27]), (26, 27, .iconst 0, []), (27, 28, .ireturn, [])]
/-- CoinTelescope$State.changeRow(III)I -/
def c140 : List (Nat × Nat × ClassFile.Instr × List Int) := [(0, 1, .aload_n 0, [0]), (1, 2, .iload_n 1, [1]), (2, 3, .iload_n 2, [2]), (3, 6, .invokevirtual 64, [2, 7, 139, 0]), (6, 8, .istore 4, [4]), (8, 9, .iload_n 1, [1]), (9, 10, .iconst 4, []), (10, 11, .imul, []), (11, 12, .iload_n 2, [2]), (12, 13, .iadd, []), (13, 15, .istore 5, [5]), (15, 16, .aload_n 0, [0]), (16, 19, .getfield 37, [6, 1, 7]), (19, 21, .iload 5, [5]), (21, 24, .invokestatic 56, [1, 2, 192]), (24, 27, .ifCond .eq 11, [35]), (27, 28, .aload_n 0, [0]), (28, 31, .getfield 37, [6, 1, 7]), (31, 33, .iload 5, [5]), (33, 34, .iload_n 3, [3]), (34, 35, .iastore, []), (35, 37, .iload 4, [4]), (37, 38, .ireturn, [])]
/-- CoinTelescope$State.isHad(I)Z -/
def c141 : List (Nat × Nat × ClassFile.Instr × List Int) := [(0, 1, .aload_n 0, [0]), (1, 4, .getfield 68, [7, 0, 7]), (4, 5, .iload_n 1, [1]), (5, 6, .ishr, []), (6, 7, .iconst 1, []), (7, 8, .iand, []), (8, 9, .iconst 1, []), (9, 12, .if_icmp .ne 7, [16]), (12, 13, .iconst 1, []), (13, 16, .goto 4, [17]), (16, 17, .iconst 0, []), (17, 18, .ireturn, [])]
/-- CoinTelescope$State.cellOn(LCoinTelescope$Thing;I)I -/
def c142 : List (Nat × Nat × ClassFile.Instr × List Int) := [(0, 1, .aload_n 1, [1]), (1, 2, .iload_n 2, [2]), (2, 3, .aload_n 0, [0]), (3, 4, .aload_n 1, [1]), (4, 7, .getfield 71, [1, 0, 1, 2, 3, 5, 6, 9, 10]), (7, 10, .invokevirtual 60, [1, 7, 137, 0]), (10, 11, .aload_n 1, [1]), (11, 14, .getfield 74, [2, 0, 1, 2, 3, 5, 6, 9, 10]), (14, 15, .aload_n 0, [0]), (15, 16, .aload_n 1, [1]), (16, 19, .getfield 71, [1, 0, 1, 2, 3, 5, 6, 9, 10]), (19, 20, .iload_n 2, [2]), (20, 21, .iconst 4, []), (21, 22, .irem, []), (22, 25, .invokevirtual 64, [2, 7, 139, 0]), (25, 28, .invokevirtual 77, [4, 1, 95, 2, 2, 99, 2, 3, 88, 1, 5, 106, 2, 6, 88, 1, 9, 88, 0, 10, 114, 2]), (28, 29, .ireturn, [])]
/-- CoinTelescope$State.baseOn(LCoinTelescope$Thing;II)I -/
def c143 : List (Nat × Nat × ClassFile.Instr × List Int) := [(0, 1, .aload_n 0, [0]), (1, 4, .getfield 49, [16, 1, 7]), (4, 5, .arraylength, []), (5, 7, .bipush 6, []), (7, 10, .if_icmp .ge 5, [12]), (10, 11, .iconst 0, []), (11, 12, .ireturn, []), (12, 13, .aload_n 0, [0]), (13, 16, .getfield 49, [16, 1, 7]), (16, 17, .iconst 0, []), (17, 18, .aload_n 1, [1]), (18, 21, .getfield 71, [1, 0, 1, 2, 3, 5, 6, 9, 10]), (21, 22, .iastore, []), (22, 23, .aload_n 0, [0]), (23, 26, .getfield 49, [16, 1, 7]), (26, 27, .iconst 1, []), (27, 28, .aload_n 1, [1]), (28, 31, .getfield 81, [0, 0, 1, 2, 3, 5, 6, 9, 10]), (31, 32, .iastore, []), (32, 33, .aload_n 0, [0]), (33, 36, .getfield 49, [16, 1, 7]), (36, 37, .iconst 2, []), (37, 38, .aload_n 1, [1]), (38, 41, .getfield 74, [2, 0, 1, 2, 3, 5, 6, 9, 10]), (41, 42, .iastore, []), (42, 43, .aload_n 0, [0]), (43, 46, .getfield 49, [16, 1, 7]), (46, 47, .iconst 3, []), (47, 48, .iload_n 2, [2]), (48, 49, .iastore, []), (49, 50, .aload_n 0, [0]), (50, 53, .getfield 49, [16, 1, 7]), (53, 54, .iconst 4, []), (54, 55, .iload_n 3, [3]), (55, 57, .bipush 10, []), (57, 58, .irem, []), (58, 59, .iastore, []), (59, 60, .aload_n 0, [0]), (60, 63, .getfield 49, [16, 1, 7]), (63, 64, .iconst 5, []), (64, 65, .aload_n 0, [0]), (65, 68, .getfield 84, [10, 0, 7]), (68, 69, .iastore, []), (69, 70, .aload_n 0, [0]), (70, 73, .getfield 23, [1, 1, 7]), (73, 74, .aload_n 0, [0]), (74, 77, .getfield 49, [16, 1, 7]), (77, 80, .invokevirtual 87, [1, 11, 131, 0]), (80, 81, .ireturn, [])]
/-- CoinTelescope$State.worthOn(LCoinTelescope$Thing;II)I -/
def c144 : List (Nat × Nat × ClassFile.Instr × List Int) := [(0, 1, .iconst 0, []), (1, 2, .aload_n 1, [1]), (2, 3, .aload_n 0, [0]), (3, 4, .aload_n 1, [1]), (4, 5, .iload_n 2, [2]), (5, 6, .iload_n 3, [3]), (6, 9, .invokevirtual 91, [3, 7, 143, 0]), (9, 10, .iload_n 2, [2]), (10, 13, .invokevirtual 95, [2, 1, 96, 2, 2, 100, 2, 3, 103, 2, 5, 107, 2, 6, 111, 2, 9, 90, 0, 10, 115, 2]), (13, 16, .invokestatic 98, [2]), (16, 17, .ireturn, [])]
/-- CoinTelescope$State.stoodIsSo(LCoinTelescope$Thing;II)Z -/
def c145 : List (Nat × Nat × ClassFile.Instr × List Int) := [(0, 1, .iconst 0, []), (1, 3, .istore 4, [4]), (3, 5, .iload 4, [4]), (5, 6, .aload_n 0, [0]), (6, 9, .getfield 40, [13, 1, 7]), (9, 12, .invokevirtual 103, [0, 8, 80, 0]), (12, 15, .if_icmp .ge 82, [94]), (15, 16, .aload_n 0, [0]), (16, 19, .getfield 107, [8, 0, 7]), (19, 20, .aload_n 0, [0]), (20, 23, .getfield 40, [13, 1, 7]), (23, 25, .iload 4, [4]), (25, 26, .iconst 1, []), (26, 29, .invokevirtual 110, [2, 8, 84, 0]), (29, 30, .iadd, []), (30, 32, .istore 5, [5]), (32, 33, .aload_n 1, [1]), (33, 35, .iload 5, [5]), (35, 36, .iload_n 2, [2]), (36, 37, .iload_n 3, [3]), (37, 38, .aload_n 0, [0]), (38, 39, .aload_n 1, [1]), (39, 42, .getfield 71, [1, 0, 1, 2, 3, 5, 6, 9, 10]), (42, 44, .iload 5, [5]), (44, 45, .iconst 4, []), (45, 46, .irem, []), (46, 49, .invokevirtual 64, [2, 7, 139, 0]), (49, 52, .invokevirtual 77, [4, 1, 95, 2, 2, 99, 2, 3, 88, 1, 5, 106, 2, 6, 88, 1, 9, 88, 0, 10, 114, 2]), (52, 54, .istore 6, [6]), (54, 55, .aload_n 0, [0]), (55, 58, .getfield 40, [13, 1, 7]), (58, 60, .iload 4, [4]), (60, 61, .iconst 0, []), (61, 64, .invokevirtual 110, [2, 8, 84, 0]), (64, 65, .aload_n 1, [1]), (65, 68, .getfield 71, [1, 0, 1, 2, 3, 5, 6, 9, 10]), (68, 71, .if_icmp .ne 20, [88]), (71, 72, .aload_n 0, [0]), (72, 75, .getfield 40, [13, 1, 7]), (75, 77, .iload 4, [4]), (77, 78, .iconst 2, []), (78, 81, .invokevirtual 110, [2, 8, 84, 0]), (81, 83, .iload 6, [6]), (83, 86, .if_icmp .eq 5, [88]), (86, 87, .iconst 0, []), (87, 88, .ireturn, []), (88, 91, .iinc 4 1, [4, 1]), (91, 94, .goto (-88), [3]), (94, 95, .iconst 1, []), (95, 96, .ireturn, [])]
/-- CoinTelescope$State.becomeAs(LCoinTelescope$State;)V -/
def c146 : List (Nat × Nat × ClassFile.Instr × List Int) := [(0, 1, .aload_n 0, [0]), (1, 4, .getfield 14, [0, 1, 7]), (4, 5, .aload_n 1, [1]), (5, 8, .getfield 14, [0, 1, 7]), (8, 11, .invokevirtual 113, [1, 8, 86, 0]), (11, 12, .aload_n 0, [0]), (12, 13, .aload_n 1, [1]), (13, 16, .getfield 23, [1, 1, 7]), (16, 19, .putfield 23, [1, 1, 7]), (19, 20, .aload_n 0, [0]), (20, 21, .aload_n 1, [1]), (21, 24, .getfield 117, [2, 0, 7]), (24, 27, .putfield 117, [2, 0, 7]), (27, 28, .aload_n 0, [0]), (28, 29, .aload_n 1, [1]), (29, 32, .getfield 52, [3, 0, 7]), (32, 35, .putfield 52, [3, 0, 7]), (35, 36, .iconst 0, []), (36, 37, .istore_n 2, [2]), (37, 38, .iload_n 2, [2]), (38, 39, .aload_n 0, [0]), (39, 42, .getfield 29, [4, 1, 7]), (42, 43, .arraylength, []), (43, 46, .if_icmp .ge 30, [73]), (46, 47, .iload_n 2, [2]), (47, 48, .aload_n 1, [1]), (48, 51, .getfield 29, [4, 1, 7]), (51, 52, .arraylength, []), (52, 55, .if_icmp .ge 21, [73]), (55, 56, .aload_n 0, [0]), (56, 59, .getfield 29, [4, 1, 7]), (59, 60, .iload_n 2, [2]), (60, 61, .aload_n 1, [1]), (61, 64, .getfield 29, [4, 1, 7]), (64, 65, .iload_n 2, [2]), (65, 66, .aaload, []), (66, 67, .aastore, []), (67, 70, .iinc 2 1, [2, 1]), (70, 73, .goto (-33), [37]), (73, 74, .aload_n 1, [1]), (74, 77, .getfield 33, [5, 1, 7]), (77, 78, .aload_n 0, [0]), (78, 81, .getfield 33, [5, 1, 7]), (81, 84, .invokestatic 120, [1, 2, 193]), (84, 85, .aload_n 1, [1]), (85, 88, .getfield 37, [6, 1, 7]), (88, 89, .aload_n 0, [0]), (89, 92, .getfield 37, [6, 1, 7]), (92, 95, .invokestatic 120, [1, 2, 193]), (95, 96, .aload_n 0, [0]), (96, 97, .aload_n 1, [1]), (97, 100, .getfield 68, [7, 0, 7]), (100, 103, .putfield 68, [7, 0, 7]), (103, 104, .aload_n 0, [0]), (104, 105, .aload_n 1, [1]), (105, 108, .getfield 107, [8, 0, 7]), (108, 111, .putfield 107, [8, 0, 7]), (111, 112, .aload_n 0, [0]), (112, 113, .aload_n 1, [1]), (113, 116, .getfield 124, [9, 0, 7]), (116, 119, .putfield 124, [9, 0, 7]), (119, 120, .aload_n 0, [0]), (120, 121, .aload_n 1, [1]), (121, 124, .getfield 84, [10, 0, 7]), (124, 127, .putfield 84, [10, 0, 7]), (127, 128, .aload_n 0, [0]), (128, 129, .aload_n 1, [1]), (129, 132, .getfield 127, [11, 0, 7]), (132, 135, .putfield 127, [11, 0, 7]), (135, 136, .aload_n 0, [0]), (136, 137, .aload_n 1, [1]), (137, 140, .getfield 130, [12, 0, 7]), (140, 143, .putfield 130, [12, 0, 7]), (143, 144, .aload_n 0, [0]), (144, 147, .getfield 40, [13, 1, 7]), (147, 148, .aload_n 1, [1]), (148, 151, .getfield 40, [13, 1, 7]), (151, 154, .invokevirtual 113, [1, 8, 86, 0]), (154, 155, .aload_n 0, [0]), (155, 158, .getfield 43, [14, 1, 7]), (158, 159, .aload_n 1, [1]), (159, 162, .getfield 43, [14, 1, 7]), (162, 165, .invokevirtual 113, [1, 8, 86, 0]), (165, 166, .aload_n 0, [0]), (166, 169, .getfield 46, [15, 1, 7]), (169, 170, .aload_n 1, [1]), (170, 173, .getfield 46, [15, 1, 7]), (173, 176, .invokevirtual 113, [1, 8, 86, 0]), (176, 177, .return_, [])]
/-- CoinTelescope$Search.<init>(LCoinTelescope$State;)V -/
def c147 : List (Nat × Nat × ClassFile.Instr × List Int) := [(0, 1, .aload_n 0, [0]), (1, 4, .invokespecial 3, [0]), (4, 5, .aload_n 0, [0]), (5, 6, .aload_n 1, [1]), (6, 9, .putfield 9, [0, 1, 4]), (9, 10, .aload_n 0, [0]), (10, 13, .sipush 216, []), (13, 15, .newarray .int, [20]), (15, 18, .putfield 15, [1, 1, 4]), (18, 19, .aload_n 0, [0]), (19, 21, .bipush 54, []), (21, 23, .newarray .int, [20]), (23, 26, .putfield 19, [2, 1, 4]), (26, 27, .aload_n 0, [0]), (27, 28, .iconst 5, []), (28, 30, .newarray .int, [20]), (30, 33, .putfield 22, [3, 1, 4]), (33, 34, .aload_n 0, [0]), (34, 35, .iconst 5, []), (35, 37, .newarray .int, [20]), (37, 40, .putfield 25, [4, 1, 4]), (40, 41, .aload_n 0, [0]), (41, 43, .bipush 6, []), (43, 45, .newarray .int, [20]), (45, 48, .putfield 28, [6, 1, 4]), (48, 49, .aload_n 0, [0]), (49, 51, .bipush 6, []), (51, 53, .newarray .int, [20]), (53, 56, .putfield 31, [7, 1, 4]), (56, 57, .return_, [])]
/-- CoinTelescope$Search.foresee(II)V -/
def c148 : List (Nat × Nat × ClassFile.Instr × List Int) := [(0, 1, .aload_n 0, [0]), (1, 4, .getfield 15, [1, 1, 4]), (4, 5, .iconst 0, []), (5, 8, .invokestatic 34, [0, 2, 204]), (8, 9, .iconst 0, []), (9, 10, .istore_n 3, [3]), (10, 11, .iload_n 3, [3]), (11, 12, .aload_n 0, [0]), (12, 15, .getfield 9, [0, 1, 4]), (15, 18, .getfield 40, [3, 0, 7]), (18, 21, .if_icmp .ge 162, [180]), (21, 22, .aload_n 0, [0]), (22, 25, .getfield 9, [0, 1, 4]), (25, 26, .iload_n 3, [3]), (26, 29, .invokevirtual 46, [1, 7, 135, 0]), (29, 31, .astore 4, [4]), (31, 32, .iconst 1, []), (32, 34, .istore 5, [5]), (34, 36, .aload 4, [4]), (36, 39, .ifnull 138, [174]), (39, 40, .aload_n 0, [0]), (40, 43, .getfield 9, [0, 1, 4]), (43, 44, .iload_n 3, [3]), (44, 47, .invokevirtual 50, [1, 7, 141, 0]), (47, 50, .ifCond .ne 127, [174]), (50, 52, .iload 5, [5]), (52, 53, .iload_n 1, [1]), (53, 56, .if_icmp .gt 121, [174]), (56, 57, .aload_n 0, [0]), (57, 60, .getfield 9, [0, 1, 4]), (60, 63, .getfield 54, [8, 0, 7]), (63, 65, .iload 5, [5]), (65, 66, .iadd, []), (66, 68, .istore 6, [6]), (68, 69, .aload_n 0, [0]), (69, 72, .getfield 9, [0, 1, 4]), (72, 74, .aload 4, [4]), (74, 76, .iload 6, [6]), (76, 79, .invokevirtual 57, [2, 7, 142, 0]), (79, 81, .istore 7, [7]), (81, 83, .iload 5, [5]), (83, 85, .bipush 24, []), (85, 86, .imul, []), (86, 88, .iload 7, [7]), (88, 89, .iadd, []), (89, 91, .istore 8, [8]), (91, 93, .iload 5, [5]), (93, 95, .bipush 6, []), (95, 96, .imul, []), (96, 97, .iload_n 3, [3]), (97, 98, .iadd, []), (98, 100, .istore 9, [9]), (100, 102, .aload 4, [4]), (102, 104, .iload 7, [7]), (104, 105, .iload_n 2, [2]), (105, 108, .invokevirtual 61, [2, 1, 89, 1, 2, 89, 1, 3, 89, 1, 5, 89, 1, 6, 110, 2, 9, 89, 0, 10, 89, 1]), (108, 111, .ifCond .ne 60, [168]), (111, 112, .aload_n 0, [0]), (112, 115, .getfield 15, [1, 1, 4]), (115, 117, .iload 8, [8]), (117, 120, .invokestatic 67, [1, 2, 192]), (120, 123, .ifCond .eq 48, [168]), (123, 124, .aload_n 0, [0]), (124, 127, .getfield 19, [2, 1, 4]), (127, 129, .iload 9, [9]), (129, 132, .invokestatic 67, [1, 2, 192]), (132, 135, .ifCond .eq 36, [168]), (135, 136, .aload_n 0, [0]), (136, 139, .getfield 15, [1, 1, 4]), (139, 141, .iload 8, [8]), (141, 142, .dup2, []), (142, 143, .iaload, []), (143, 144, .iconst 1, []), (144, 145, .iload_n 3, [3]), (145, 146, .ishl, []), (146, 147, .ior, []), (147, 148, .iastore, []), (148, 149, .aload_n 0, [0]), (149, 152, .getfield 19, [2, 1, 4]), (152, 154, .iload 9, [9]), (154, 155, .aload_n 0, [0]), (155, 158, .getfield 9, [0, 1, 4]), (158, 160, .aload 4, [4]), (160, 162, .iload 7, [7]), (162, 164, .iload 6, [6]), (164, 167, .invokevirtual 71, [3, 7, 144, 0]), (167, 168, .iastore, []), (168, 171, .iinc 5 1, [5, 1]), (171, 174, .goto (-137), [34]), (174, 177, .iinc 3 1, [3, 1]), (177, 180, .goto (-167), [10]), (180, 181, .return_, [])]
/-- CoinTelescope$Search.seenAt(II)I -/
def c149 : List (Nat × Nat × ClassFile.Instr × List Int) := [(0, 1, .iload_n 1, [1]), (1, 3, .bipush 24, []), (3, 4, .imul, []), (4, 5, .iload_n 2, [2]), (5, 6, .iadd, []), (6, 7, .istore_n 3, [3]), (7, 8, .aload_n 0, [0]), (8, 11, .getfield 15, [1, 1, 4]), (11, 12, .iload_n 3, [3]), (12, 15, .invokestatic 67, [1, 2, 192]), (15, 18, .ifCond .eq 12, [27]), (18, 19, .aload_n 0, [0]), (19, 22, .getfield 15, [1, 1, 4]), (22, 23, .iload_n 3, [3]), (23, 24, .iaload, []), (24, 27, .goto 4, [28]), (27, 28, .iconst 0, []), (28, 29, .ireturn, [])]
/-- CoinTelescope$Search.gainAt(III)I -/
def c150 : List (Nat × Nat × ClassFile.Instr × List Int) := [(0, 1, .aload_n 0, [0]), (1, 2, .iload_n 1, [1]), (2, 3, .iload_n 2, [2]), (3, 6, .invokevirtual 75, [2, 4, 149, 0]), (6, 7, .iload_n 3, [3]), (7, 8, .iconst (-1), []), (8, 9, .ixor, []), (9, 10, .iand, []), (10, 12, .istore 4, [4]), (12, 13, .iconst 0, []), (13, 15, .istore 5, [5]), (15, 16, .iconst 0, []), (16, 18, .istore 6, [6]), (18, 20, .iload 4, [4]), (20, 23, .ifCond .eq 60, [80]), (23, 25, .iload 6, [6]), (25, 27, .bipush 6, []), (27, 30, .if_icmp .ge 53, [80]), (30, 31, .iload_n 1, [1]), (31, 33, .bipush 6, []), (33, 34, .imul, []), (34, 36, .iload 6, [6]), (36, 37, .iadd, []), (37, 39, .istore 7, [7]), (39, 41, .iload 4, [4]), (41, 43, .iload 6, [6]), (43, 44, .ishr, []), (44, 45, .iconst 1, []), (45, 46, .iand, []), (46, 47, .iconst 1, []), (47, 50, .if_icmp .ne 27, [74]), (50, 51, .aload_n 0, [0]), (51, 54, .getfield 19, [2, 1, 4]), (54, 56, .iload 7, [7]), (56, 59, .invokestatic 67, [1, 2, 192]), (59, 62, .ifCond .eq 15, [74]), (62, 64, .iload 5, [5]), (64, 65, .aload_n 0, [0]), (65, 68, .getfield 19, [2, 1, 4]), (68, 70, .iload 7, [7]), (70, 71, .iaload, []), (71, 72, .iadd, []), (72, 74, .istore 5, [5]), (74, 77, .iinc 6 1, [6, 1]), (77, 80, .goto (-59), [18]), (80, 82, .iload 5, [5]), (82, 83, .ireturn, [])]
/-- CoinTelescope$Search.mostFrom(II)I -/
def c151 : List (Nat × Nat × ClassFile.Instr × List Int) := [(0, 1, .aload_n 0, [0]), (1, 2, .iconst (-1), []), (2, 5, .putfield 79, [5, 0, 4]), (5, 6, .aload_n 0, [0]), (6, 7, .iconst 0, []), (7, 8, .iload_n 2, [2]), (8, 9, .iload_n 1, [1]), (9, 10, .aload_n 0, [0]), (10, 13, .getfield 9, [0, 1, 4]), (13, 16, .getfield 82, [7, 0, 7]), (16, 17, .iconst 0, []), (17, 20, .invokevirtual 85, [5, 4, 152, 0]), (20, 21, .aload_n 0, [0]), (21, 24, .getfield 79, [5, 0, 4]), (24, 25, .ireturn, [])]
/-- CoinTelescope$Search.tryDoings(IIIII)V -/
def c152 : List (Nat × Nat × ClassFile.Instr × List Int) := [(0, 1, .iload_n 1, [1]), (1, 2, .iload_n 2, [2]), (2, 5, .if_icmp .ge 14, [16]), (5, 6, .aload_n 0, [0]), (6, 9, .getfield 22, [3, 1, 4]), (9, 10, .iload_n 1, [1]), (10, 13, .invokestatic 67, [1, 2, 192]), (13, 16, .ifCond .ne 30, [43]), (16, 18, .iload 5, [5]), (18, 19, .aload_n 0, [0]), (19, 22, .getfield 79, [5, 0, 4]), (22, 25, .if_icmp .le 20, [42]), (25, 26, .aload_n 0, [0]), (26, 28, .iload 5, [5]), (28, 31, .putfield 79, [5, 0, 4]), (31, 32, .aload_n 0, [0]), (32, 35, .getfield 22, [3, 1, 4]), (35, 36, .aload_n 0, [0]), (36, 39, .getfield 25, [4, 1, 4]), (39, 42, .invokestatic 89, [1, 2, 193]), (42, 43, .return_, []), (43, 44, .iload_n 1, [1]), (44, 45, .iconst 1, []), (45, 46, .iadd, []), (46, 48, .istore 6, [6]), (48, 49, .iconst 0, []), (49, 51, .istore 7, [7]), (51, 53, .iload 7, [7]), (53, 54, .iconst 5, []), (54, 57, .if_icmp .ge 62, [116]), (57, 58, .aload_n 0, [0]), (58, 61, .getfield 22, [3, 1, 4]), (61, 62, .iload_n 1, [1]), (62, 64, .iload 7, [7]), (64, 65, .iastore, []), (65, 66, .iload_n 3, [3]), (66, 68, .iload 7, [7]), (68, 71, .invokestatic 93, [1, 2, 199]), (71, 73, .istore 8, [8]), (73, 74, .aload_n 0, [0]), (74, 76, .iload 6, [6]), (76, 78, .iload 8, [8]), (78, 80, .iload 4, [4]), (80, 83, .invokevirtual 96, [3, 4, 150, 0]), (83, 85, .istore 9, [9]), (85, 86, .aload_n 0, [0]), (86, 88, .iload 6, [6]), (88, 89, .iload_n 2, [2]), (89, 91, .iload 8, [8]), (91, 93, .iload 4, [4]), (93, 94, .aload_n 0, [0]), (94, 96, .iload 6, [6]), (96, 98, .iload 8, [8]), (98, 101, .invokevirtual 75, [2, 4, 149, 0]), (101, 102, .ior, []), (102, 104, .iload 5, [5]), (104, 106, .iload 9, [9]), (106, 107, .iadd, []), (107, 110, .invokevirtual 85, [5, 4, 152, 0]), (110, 113, .iinc 7 1, [7, 1]), (113, 116, .goto (-62), [51]), (116, 117, .return_, [])]
/-- CoinTelescope$Search.bestDoing(I)I -/
def c153 : List (Nat × Nat × ClassFile.Instr × List Int) := [(0, 1, .aload_n 0, [0]), (1, 4, .getfield 25, [4, 1, 4]), (4, 5, .iload_n 1, [1]), (5, 8, .invokestatic 67, [1, 2, 192]), (8, 11, .ifCond .eq 12, [20]), (11, 12, .aload_n 0, [0]), (12, 15, .getfield 25, [4, 1, 4]), (15, 16, .iload_n 1, [1]), (16, 17, .iaload, []), (17, 20, .goto 5, [22]), (20, 22, .bipush (-5), []), (22, 23, .ireturn, [])]
/-- CoinTelescope$Search.soonFrom(LCoinTelescope$Thing;II)I -/
def c154 : List (Nat × Nat × ClassFile.Instr × List Int) := [(0, 1, .iconst 1, []), (1, 3, .istore 4, [4]), (3, 5, .iload 4, [4]), (5, 7, .bipush 40, []), (7, 10, .if_icmp .gt 64, [71]), (10, 11, .aload_n 0, [0]), (11, 14, .getfield 9, [0, 1, 4]), (14, 15, .aload_n 1, [1]), (15, 16, .aload_n 0, [0]), (16, 19, .getfield 9, [0, 1, 4]), (19, 22, .getfield 54, [8, 0, 7]), (22, 23, .iload_n 3, [3]), (23, 24, .iadd, []), (24, 26, .iload 4, [4]), (26, 27, .iadd, []), (27, 30, .invokevirtual 57, [2, 7, 142, 0]), (30, 32, .istore 5, [5]), (32, 33, .iload_n 2, [2]), (33, 35, .iload 5, [5]), (35, 38, .invokestatic 100, [1, 2, 198]), (38, 40, .iload 4, [4]), (40, 43, .if_icmp .gt 25, [65]), (43, 44, .aload_n 1, [1]), (44, 46, .iload 5, [5]), (46, 47, .aload_n 0, [0]), (47, 50, .getfield 9, [0, 1, 4]), (50, 53, .getfield 103, [1, 1, 7]), (53, 56, .getfield 107, [2, 0, 11]), (56, 59, .invokevirtual 61, [2, 1, 89, 1, 2, 89, 1, 3, 89, 1, 5, 89, 1, 6, 110, 2, 9, 89, 0, 10, 89, 1]), (59, 62, .ifCond .ne 6, [65]), (62, 64, .iload 4, [4]), (64, 65, .ireturn, []), (65, 68, .iinc 4 1, [4, 1]), (68, 71, .goto (-65), [3]), (71, 73, .bipush (-5), []), (73, 74, .ireturn, [])]
/-- CoinTelescope$Search.fewestTicks()I -/
def c155 : List (Nat × Nat × ClassFile.Instr × List Int) := [(0, 1, .aload_n 0, [0]), (1, 4, .sipush 241, []), (4, 7, .putfield 112, [9, 0, 4]), (7, 8, .aload_n 0, [0]), (8, 9, .iconst 0, []), (9, 12, .putfield 115, [8, 0, 4]), (12, 13, .iconst 1, []), (13, 14, .aload_n 0, [0]), (14, 17, .getfield 9, [0, 1, 4]), (17, 20, .getfield 40, [3, 0, 7]), (20, 21, .ishl, []), (21, 22, .iconst 1, []), (22, 23, .isub, []), (23, 24, .aload_n 0, [0]), (24, 27, .getfield 9, [0, 1, 4]), (27, 30, .getfield 82, [7, 0, 7]), (30, 31, .iconst (-1), []), (31, 32, .ixor, []), (32, 33, .iand, []), (33, 34, .istore_n 1, [1]), (34, 35, .aload_n 0, [0]), (35, 36, .iconst 0, []), (36, 37, .iload_n 1, [1]), (37, 38, .aload_n 0, [0]), (38, 41, .getfield 9, [0, 1, 4]), (41, 44, .getfield 118, [9, 0, 7]), (44, 45, .iconst 0, []), (45, 48, .invokevirtual 121, [4, 4, 156, 0]), (48, 49, .aload_n 0, [0]), (49, 52, .getfield 112, [9, 0, 4]), (52, 55, .sipush 241, []), (55, 58, .if_icmp .ge 10, [65]), (58, 59, .aload_n 0, [0]), (59, 62, .getfield 112, [9, 0, 4]), (62, 65, .goto 5, [67]), (65, 67, .bipush (-5), []), (67, 68, .ireturn, [])]
/-- CoinTelescope$Search.tryThings(IIII)V -/
def c156 : List (Nat × Nat × ClassFile.Instr × List Int) := [(0, 1, .iload_n 2, [2]), (1, 4, .ifCond .eq 14, [15]), (4, 5, .aload_n 0, [0]), (5, 8, .getfield 28, [6, 1, 4]), (8, 9, .iload_n 1, [1]), (9, 12, .invokestatic 67, [1, 2, 192]), (12, 15, .ifCond .ne 26, [38]), (15, 16, .aload_n 0, [0]), (16, 18, .iload 4, [4]), (18, 21, .putfield 112, [9, 0, 4]), (21, 22, .aload_n 0, [0]), (22, 23, .iload_n 1, [1]), (23, 26, .putfield 115, [8, 0, 4]), (26, 27, .aload_n 0, [0]), (27, 30, .getfield 28, [6, 1, 4]), (30, 31, .aload_n 0, [0]), (31, 34, .getfield 31, [7, 1, 4]), (34, 37, .invokestatic 89, [1, 2, 193]), (37, 38, .return_, []), (38, 39, .iconst 0, []), (39, 41, .istore 5, [5]), (41, 43, .iload 5, [5]), (43, 44, .aload_n 0, [0]), (44, 47, .getfield 9, [0, 1, 4]), (47, 50, .getfield 40, [3, 0, 7]), (50, 53, .if_icmp .ge 111, [161]), (53, 54, .aload_n 0, [0]), (54, 57, .getfield 9, [0, 1, 4]), (57, 59, .iload 5, [5]), (59, 62, .invokevirtual 46, [1, 7, 135, 0]), (62, 64, .astore 6, [6]), (64, 66, .aload 6, [6]), (66, 69, .ifnull 89, [155]), (69, 70, .iload_n 2, [2]), (70, 72, .iload 5, [5]), (72, 73, .ishr, []), (73, 74, .iconst 1, []), (74, 75, .iand, []), (75, 76, .iconst 1, []), (76, 79, .if_icmp .ne 79, [155]), (79, 80, .aload_n 0, [0]), (80, 82, .aload 6, [6]), (82, 83, .iload_n 3, [3]), (83, 85, .iload 4, [4]), (85, 88, .invokevirtual 125, [3, 4, 154, 0]), (88, 90, .istore 7, [7]), (90, 92, .iload 4, [4]), (92, 94, .iload 7, [7]), (94, 95, .iadd, []), (95, 97, .istore 8, [8]), (97, 99, .iload 7, [7]), (99, 102, .ifCond .le 56, [155]), (102, 104, .iload 8, [8]), (104, 105, .aload_n 0, [0]), (105, 108, .getfield 112, [9, 0, 4]), (108, 111, .if_icmp .ge 47, [155]), (111, 112, .aload_n 0, [0]), (112, 115, .getfield 28, [6, 1, 4]), (115, 116, .iload_n 1, [1]), (116, 118, .iload 5, [5]), (118, 119, .iastore, []), (119, 120, .aload_n 0, [0]), (120, 121, .iload_n 1, [1]), (121, 122, .iconst 1, []), (122, 123, .iadd, []), (123, 124, .iload_n 2, [2]), (124, 125, .iconst 1, []), (125, 127, .iload 5, [5]), (127, 128, .ishl, []), (128, 129, .iconst (-1), []), (129, 130, .ixor, []), (130, 131, .iand, []), (131, 132, .aload_n 0, [0]), (132, 135, .getfield 9, [0, 1, 4]), (135, 137, .aload 6, [6]), (137, 138, .aload_n 0, [0]), (138, 141, .getfield 9, [0, 1, 4]), (141, 144, .getfield 54, [8, 0, 7]), (144, 146, .iload 8, [8]), (146, 147, .iadd, []), (147, 150, .invokevirtual 57, [2, 7, 142, 0]), (150, 152, .iload 8, [8]), (152, 155, .invokevirtual 121, [4, 4, 156, 0]), (155, 158, .iinc 5 1, [5, 1]), (158, 161, .goto (-117), [41]), (161, 162, .return_, [])]
/-- CoinTelescope$Search.bestThing(I)I -/
def c157 : List (Nat × Nat × ClassFile.Instr × List Int) := [(0, 1, .iload_n 1, [1]), (1, 2, .aload_n 0, [0]), (2, 5, .getfield 115, [8, 0, 4]), (5, 8, .if_icmp .ge 23, [28]), (8, 9, .aload_n 0, [0]), (9, 12, .getfield 31, [7, 1, 4]), (12, 13, .iload_n 1, [1]), (13, 16, .invokestatic 67, [1, 2, 192]), (16, 19, .ifCond .eq 12, [28]), (19, 20, .aload_n 0, [0]), (20, 23, .getfield 31, [7, 1, 4]), (23, 24, .iload_n 1, [1]), (24, 25, .iaload, []), (25, 28, .goto 5, [30]), (28, 30, .bipush (-5), []), (30, 31, .ireturn, [])]
/-- CoinTelescope.<init>()V -/
def c158 : List (Nat × Nat × ClassFile.Instr × List Int) := [(0, 1, .aload_n 0, [0]), (1, 4, .invokespecial 3, [0]), (4, 5, .aload_n 0, [0]), (5, 8, .new 9, [7, 17]), (8, 9, .dup, []), (9, 12, .invokespecial 11, [1, 0, 134]), (12, 15, .putfield 12, [0, 1, 12]), (15, 16, .aload_n 0, [0]), (16, 19, .new 9, [7, 17]), (19, 20, .dup, []), (20, 23, .invokespecial 11, [1, 0, 134]), (23, 26, .putfield 18, [1, 1, 12]), (26, 27, .aload_n 0, [0]), (27, 30, .new 21, [8, 4]), (30, 31, .dup, []), (31, 32, .iconst 1, []), (32, 34, .bipush 20, []), (34, 37, .invokespecial 23, [1, 2, 79]), (37, 40, .putfield 26, [2, 1, 12]), (40, 41, .aload_n 0, [0]), (41, 44, .new 30, [4, 10]), (44, 45, .dup, []), (45, 46, .aload_n 0, [0]), (46, 49, .getfield 12, [0, 1, 12]), (49, 52, .invokespecial 32, [1, 1, 147]), (52, 55, .putfield 35, [3, 1, 12]), (55, 56, .aload_n 0, [0]), (56, 57, .iconst 0, []), (57, 60, .putfield 39, [4, 2, 12]), (60, 61, .return_, [])]
/-- CoinTelescope.feed(I)I -/
def c159 : List (Nat × Nat × ClassFile.Instr × List Int) := [(0, 1, .iload_n 1, [1]), (1, 2, .iconst 0, []), (2, 4, .bipush 127, []), (4, 7, .invokestatic 43, [0, 3, 191]), (7, 10, .ifCond .ne 6, [13]), (10, 12, .bipush (-2), []), (12, 13, .ireturn, []), (13, 14, .aload_n 0, [0]), (14, 17, .getfield 12, [0, 1, 12]), (17, 20, .getfield 47, [0, 1, 7]), (20, 23, .invokevirtual 50, [0, 8, 81, 0]), (23, 26, .ifCond .eq 8, [31]), (26, 28, .bipush (-4), []), (28, 31, .goto 16, [44]), (31, 32, .aload_n 0, [0]), (32, 35, .getfield 12, [0, 1, 12]), (35, 38, .getfield 47, [0, 1, 7]), (38, 39, .iload_n 1, [1]), (39, 40, .iconst 0, []), (40, 41, .iconst 0, []), (41, 44, .invokevirtual 54, [3, 8, 83, 0]), (44, 45, .ireturn, [])]
/-- CoinTelescope.view()I -/
def c160 : List (Nat × Nat × ClassFile.Instr × List Int) := [(0, 1, .aload_n 0, [0]), (1, 4, .getfield 12, [0, 1, 12]), (4, 7, .getfield 58, [2, 0, 7]), (7, 8, .iconst 5, []), (8, 11, .if_icmp .lt 6, [14]), (11, 13, .bipush (-4), []), (13, 14, .ireturn, []), (14, 17, .new 62, [11, 10]), (17, 18, .dup, []), (18, 21, .invokespecial 64, [1, 0, 117]), (21, 22, .astore_n 1, [1]), (22, 23, .aload_n 1, [1]), (23, 24, .aload_n 0, [0]), (24, 27, .getfield 12, [0, 1, 12]), (27, 30, .getfield 47, [0, 1, 7]), (30, 33, .invokevirtual 65, [0, 8, 85, 0]), (33, 36, .invokevirtual 69, [1, 11, 118, 0]), (36, 37, .istore_n 2, [2]), (37, 38, .aload_n 0, [0]), (38, 41, .getfield 12, [0, 1, 12]), (41, 44, .getfield 47, [0, 1, 7]), (44, 47, .invokevirtual 73, [0, 8, 82, 0]), (47, 48, .pop, []), (48, 49, .iload_n 2, [2]), (49, 50, .iconst (-1), []), (50, 53, .if_icmp .eq 8, [58]), (53, 55, .bipush (-10), []), (55, 56, .iload_n 2, [2]), (56, 57, .isub, []), (57, 58, .ireturn, []), (58, 59, .aload_n 0, [0]), (59, 62, .getfield 12, [0, 1, 12]), (62, 63, .aload_n 1, [1]), (63, 66, .putfield 77, [1, 1, 7]), (66, 67, .aload_n 0, [0]), (67, 70, .getfield 12, [0, 1, 12]), (70, 71, .dup, []), (71, 74, .getfield 58, [2, 0, 7]), (74, 75, .iconst 1, []), (75, 76, .iadd, []), (76, 79, .putfield 58, [2, 0, 7]), (79, 80, .aload_n 0, [0]), (80, 83, .getfield 12, [0, 1, 12]), (83, 86, .getfield 58, [2, 0, 7]), (86, 87, .iconst 1, []), (87, 88, .isub, []), (88, 89, .ireturn, [])]
/-- CoinTelescope.thing(III)I -/
def c161 : List (Nat × Nat × ClassFile.Instr × List Int) := [(0, 1, .iload_n 1, [1]), (1, 2, .iconst 0, []), (2, 4, .bipush 6, []), (4, 7, .invokestatic 43, [0, 3, 191]), (7, 10, .ifCond .eq 10, [17]), (10, 11, .iload_n 3, [3]), (11, 14, .invokestatic 81, [0, 1, 194]), (14, 17, .ifCond .ne 5, [19]), (17, 18, .iconst (-1), []), (18, 19, .ireturn, []), (19, 20, .iload_n 2, [2]), (20, 21, .iconst 0, []), (21, 23, .bipush 9, []), (23, 26, .invokestatic 43, [0, 3, 191]), (26, 29, .ifCond .ne 6, [32]), (29, 31, .bipush (-2), []), (31, 32, .ireturn, []), (32, 33, .aload_n 0, [0]), (33, 36, .getfield 12, [0, 1, 12]), (36, 39, .getfield 85, [3, 0, 7]), (39, 41, .bipush 6, []), (41, 44, .if_icmp .lt 6, [47]), (44, 46, .bipush (-4), []), (46, 47, .ireturn, []), (47, 48, .aload_n 0, [0]), (48, 51, .getfield 12, [0, 1, 12]), (51, 52, .aload_n 0, [0]), (52, 53, .iload_n 1, [1]), (53, 54, .aload_n 0, [0]), (54, 57, .getfield 12, [0, 1, 12]), (57, 60, .getfield 85, [3, 0, 7]), (60, 61, .iload_n 2, [2]), (61, 64, .invokevirtual 88, [3, 12, 202, 0]), (64, 65, .iload_n 3, [3]), (65, 68, .invokevirtual 92, [2, 7, 136, 0]), (68, 69, .ireturn, [])]
/-- CoinTelescope.of(II)I -/
def c162 : List (Nat × Nat × ClassFile.Instr × List Int) := [(0, 1, .aload_n 0, [0]), (1, 4, .getfield 12, [0, 1, 12]), (4, 5, .iload_n 1, [1]), (5, 8, .invokevirtual 96, [1, 7, 135, 0]), (8, 9, .astore_n 3, [3]), (9, 10, .aload_n 3, [3]), (10, 13, .ifnull 12, [22]), (13, 14, .iload_n 2, [2]), (14, 15, .iconst 0, []), (15, 16, .iconst 3, []), (16, 19, .invokestatic 43, [0, 3, 191]), (19, 22, .ifCond .ne 5, [24]), (22, 23, .iconst (-1), []), (23, 24, .ireturn, []), (24, 25, .iload_n 2, [2]), (25, 52, .tableswitch 46 0 2 #[27, 32, 37], [71, 0, 52, 1, 57, 2, 62]), (52, 53, .aload_n 3, [3]), (53, 56, .getfield 100, [0, 0, 1, 2, 3, 5, 6, 9, 10]), (56, 57, .ireturn, []), (57, 58, .aload_n 3, [3]), (58, 61, .getfield 105, [2, 0, 1, 2, 3, 5, 6, 9, 10]), (61, 62, .ireturn, []), (62, 63, .aload_n 0, [0]), (63, 66, .getfield 12, [0, 1, 12]), (66, 67, .iload_n 1, [1]), (67, 70, .invokevirtual 108, [1, 7, 137, 0]), (70, 71, .ireturn, []), (71, 72, .aload_n 0, [0]), (72, 75, .getfield 12, [0, 1, 12]), (75, 76, .iload_n 1, [1]), (76, 79, .invokevirtual 112, [1, 7, 141, 0]), (79, 82, .invokestatic 115, [0, 1, 195]), (82, 83, .ireturn, [])]
/-- CoinTelescope.then(III)I -/
def c163 : List (Nat × Nat × ClassFile.Instr × List Int) := [(0, 1, .aload_n 0, [0]), (1, 4, .getfield 12, [0, 1, 12]), (4, 5, .iload_n 1, [1]), (5, 8, .invokevirtual 96, [1, 7, 135, 0]), (8, 10, .astore 4, [4]), (10, 12, .aload 4, [4]), (12, 15, .ifnull 22, [34]), (15, 16, .iload_n 2, [2]), (16, 17, .iconst 0, []), (17, 19, .bipush 60, []), (19, 22, .invokestatic 43, [0, 3, 191]), (22, 25, .ifCond .eq 12, [34]), (25, 26, .iload_n 3, [3]), (26, 27, .iconst 0, []), (27, 28, .iconst 3, []), (28, 31, .invokestatic 43, [0, 3, 191]), (31, 34, .ifCond .ne 6, [37]), (34, 36, .ldc 119, [0, (-999999)]), (36, 37, .ireturn, []), (37, 38, .aload_n 0, [0]), (38, 41, .getfield 12, [0, 1, 12]), (41, 44, .getfield 120, [8, 0, 7]), (44, 45, .iload_n 2, [2]), (45, 46, .iadd, []), (46, 48, .istore 5, [5]), (48, 49, .aload_n 0, [0]), (49, 52, .getfield 12, [0, 1, 12]), (52, 54, .aload 4, [4]), (54, 56, .iload 5, [5]), (56, 59, .invokevirtual 123, [2, 7, 142, 0]), (59, 61, .istore 6, [6]), (61, 62, .iload_n 3, [3]), (62, 88, .tableswitch 64 0 2 #[26, 29, 50], [126, 0, 88, 1, 91, 2, 112]), (88, 90, .iload 6, [6]), (90, 91, .ireturn, []), (91, 93, .aload 4, [4]), (93, 95, .iload 6, [6]), (95, 96, .aload_n 0, [0]), (96, 99, .getfield 12, [0, 1, 12]), (99, 102, .getfield 77, [1, 1, 7]), (102, 105, .getfield 126, [2, 0, 11]), (105, 108, .invokevirtual 129, [2, 1, 89, 1, 2, 89, 1, 3, 89, 1, 5, 89, 1, 6, 110, 2, 9, 89, 0, 10, 89, 1]), (108, 111, .invokestatic 115, [0, 1, 195]), (111, 112, .ireturn, []), (112, 113, .aload_n 0, [0]), (113, 116, .getfield 12, [0, 1, 12]), (116, 118, .aload 4, [4]), (118, 120, .iload 6, [6]), (120, 122, .iload 5, [5]), (122, 125, .invokevirtual 133, [3, 7, 143, 0]), (125, 126, .ireturn, []), (126, 127, .aload_n 0, [0]), (127, 130, .getfield 12, [0, 1, 12]), (130, 132, .aload 4, [4]), (132, 134, .iload 6, [6]), (134, 136, .iload 5, [5]), (136, 139, .invokevirtual 137, [3, 7, 144, 0]), (139, 140, .ireturn, [])]
/-- CoinTelescope.row(III)I -/
def c164 : List (Nat × Nat × ClassFile.Instr × List Int) := [(0, 1, .aload_n 0, [0]), (1, 4, .getfield 12, [0, 1, 12]), (4, 5, .iload_n 1, [1]), (5, 8, .invokevirtual 96, [1, 7, 135, 0]), (8, 10, .astore 4, [4]), (10, 12, .aload 4, [4]), (12, 15, .ifnull 12, [24]), (15, 16, .iload_n 2, [2]), (16, 17, .iconst 0, []), (17, 18, .iconst 3, []), (18, 21, .invokestatic 43, [0, 3, 191]), (21, 24, .ifCond .ne 5, [26]), (24, 25, .iconst (-1), []), (25, 26, .ireturn, []), (26, 27, .iload_n 3, [3]), (27, 28, .iconst 0, []), (28, 30, .bipush 9, []), (30, 33, .invokestatic 43, [0, 3, 191]), (33, 36, .ifCond .ne 6, [39]), (36, 38, .bipush (-2), []), (38, 39, .ireturn, []), (39, 41, .aload 4, [4]), (41, 44, .getfield 100, [0, 0, 1, 2, 3, 5, 6, 9, 10]), (44, 46, .bipush 6, []), (46, 49, .if_icmp .ne 16, [62]), (49, 50, .aload_n 0, [0]), (50, 53, .getfield 12, [0, 1, 12]), (53, 54, .iload_n 1, [1]), (54, 55, .iload_n 2, [2]), (55, 56, .iload_n 3, [3]), (56, 59, .invokevirtual 140, [3, 7, 140, 0]), (59, 62, .goto 5, [64]), (62, 64, .bipush (-3), []), (64, 65, .ireturn, [])]
/-- CoinTelescope.move(II)I -/
def c165 : List (Nat × Nat × ClassFile.Instr × List Int) := [(0, 1, .aload_n 0, [0]), (1, 4, .getfield 12, [0, 1, 12]), (4, 5, .iload_n 1, [1]), (5, 8, .invokevirtual 96, [1, 7, 135, 0]), (8, 11, .ifnull 10, [18]), (11, 12, .iload_n 2, [2]), (12, 15, .invokestatic 81, [0, 1, 194]), (15, 18, .ifCond .ne 5, [20]), (18, 19, .iconst (-1), []), (19, 20, .ireturn, []), (20, 21, .aload_n 0, [0]), (21, 24, .getfield 12, [0, 1, 12]), (24, 25, .iload_n 1, [1]), (25, 26, .iload_n 2, [2]), (26, 29, .invokevirtual 143, [2, 7, 138, 0]), (29, 30, .ireturn, [])]
/-- CoinTelescope.had(IZ)I -/
def c166 : List (Nat × Nat × ClassFile.Instr × List Int) := [(0, 1, .aload_n 0, [0]), (1, 4, .getfield 12, [0, 1, 12]), (4, 5, .iload_n 1, [1]), (5, 8, .invokevirtual 96, [1, 7, 135, 0]), (8, 11, .ifnonnull 5, [13]), (11, 12, .iconst (-1), []), (12, 13, .ireturn, []), (13, 14, .aload_n 0, [0]), (14, 17, .getfield 12, [0, 1, 12]), (17, 18, .iload_n 1, [1]), (18, 21, .invokevirtual 112, [1, 7, 141, 0]), (21, 24, .invokestatic 115, [0, 1, 195]), (24, 25, .istore_n 3, [3]), (25, 26, .iconst 1, []), (26, 27, .iload_n 1, [1]), (27, 28, .ishl, []), (28, 30, .istore 4, [4]), (30, 31, .aload_n 0, [0]), (31, 34, .getfield 12, [0, 1, 12]), (34, 35, .iload_n 2, [2]), (35, 38, .ifCond .eq 16, [51]), (38, 39, .aload_n 0, [0]), (39, 42, .getfield 12, [0, 1, 12]), (42, 45, .getfield 147, [7, 0, 7]), (45, 47, .iload 4, [4]), (47, 48, .ior, []), (48, 51, .goto 15, [63]), (51, 52, .aload_n 0, [0]), (52, 55, .getfield 12, [0, 1, 12]), (55, 58, .getfield 147, [7, 0, 7]), (58, 60, .iload 4, [4]), (60, 61, .iconst (-1), []), (61, 62, .ixor, []), (62, 63, .iand, []), (63, 66, .putfield 147, [7, 0, 7]), (66, 67, .iload_n 3, [3]), (67, 68, .ireturn, [])]
/-- CoinTelescope.point(I)I -/
def c167 : List (Nat × Nat × ClassFile.Instr × List Int) := [(0, 1, .iload_n 1, [1]), (1, 4, .invokestatic 81, [0, 1, 194]), (4, 7, .ifCond .ne 5, [9]), (7, 8, .iconst (-1), []), (8, 9, .ireturn, []), (9, 10, .aload_n 0, [0]), (10, 13, .getfield 12, [0, 1, 12]), (13, 16, .getfield 150, [9, 0, 7]), (16, 17, .istore_n 2, [2]), (17, 18, .aload_n 0, [0]), (18, 21, .getfield 12, [0, 1, 12]), (21, 22, .iload_n 1, [1]), (22, 25, .putfield 150, [9, 0, 7]), (25, 26, .iload_n 2, [2]), (26, 27, .ireturn, [])]
/-- CoinTelescope.told(I)I -/
def c168 : List (Nat × Nat × ClassFile.Instr × List Int) := [(0, 1, .iload_n 1, [1]), (1, 56, .tableswitch 141 0 9 #[55, 63, 74, 85, 96, 104, 112, 120, 128, 136], [142, 0, 56, 1, 64, 2, 75, 3, 86, 4, 97, 5, 105, 6, 113, 7, 121, 8, 129, 9, 137]), (56, 57, .aload_n 0, [0]), (57, 60, .getfield 12, [0, 1, 12]), (60, 63, .getfield 120, [8, 0, 7]), (63, 64, .ireturn, []), (64, 65, .aload_n 0, [0]), (65, 68, .getfield 12, [0, 1, 12]), (68, 71, .getfield 77, [1, 1, 7]), (71, 74, .getfield 153, [0, 0, 11]), (74, 75, .ireturn, []), (75, 76, .aload_n 0, [0]), (76, 79, .getfield 12, [0, 1, 12]), (79, 82, .getfield 77, [1, 1, 7]), (82, 85, .getfield 156, [1, 0, 11]), (85, 86, .ireturn, []), (86, 87, .aload_n 0, [0]), (87, 90, .getfield 12, [0, 1, 12]), (90, 93, .getfield 77, [1, 1, 7]), (93, 96, .getfield 126, [2, 0, 11]), (96, 97, .ireturn, []), (97, 98, .aload_n 0, [0]), (98, 101, .getfield 12, [0, 1, 12]), (101, 104, .getfield 150, [9, 0, 7]), (104, 105, .ireturn, []), (105, 106, .aload_n 0, [0]), (106, 109, .getfield 12, [0, 1, 12]), (109, 112, .getfield 159, [10, 0, 7]), (112, 113, .ireturn, []), (113, 114, .aload_n 0, [0]), (114, 117, .getfield 12, [0, 1, 12]), (117, 120, .getfield 162, [11, 0, 7]), (120, 121, .ireturn, []), (121, 122, .aload_n 0, [0]), (122, 125, .getfield 12, [0, 1, 12]), (125, 128, .getfield 165, [12, 0, 7]), (128, 129, .ireturn, []), (129, 130, .aload_n 0, [0]), (130, 133, .getfield 12, [0, 1, 12]), (133, 136, .getfield 147, [7, 0, 7]), (136, 137, .ireturn, []), (137, 138, .aload_n 0, [0]), (138, 141, .invokevirtual 168, [0, 12, 203, 0]), (141, 142, .ireturn, []), (142, 143, .iconst (-1), []), (143, 144, .ireturn, [])]
/-- CoinTelescope.pay()I -/
def c169 : List (Nat × Nat × ClassFile.Instr × List Int) := [(0, 1, .aload_n 0, [0]), (1, 4, .getfield 12, [0, 1, 12]), (4, 7, .getfield 162, [11, 0, 7]), (7, 10, .sipush 9999, []), (10, 13, .if_icmp .lt 6, [16]), (13, 15, .bipush (-3), []), (15, 16, .ireturn, []), (16, 17, .aload_n 0, [0]), (17, 20, .getfield 12, [0, 1, 12]), (20, 21, .dup, []), (21, 24, .getfield 162, [11, 0, 7]), (24, 25, .iconst 1, []), (25, 26, .iadd, []), (26, 29, .putfield 162, [11, 0, 7]), (29, 30, .aload_n 0, [0]), (30, 33, .getfield 12, [0, 1, 12]), (33, 36, .getfield 77, [1, 1, 7]), (36, 39, .getfield 156, [1, 0, 11]), (39, 42, .ifCond .le 13, [52]), (42, 43, .aload_n 0, [0]), (43, 46, .getfield 12, [0, 1, 12]), (46, 49, .getfield 159, [10, 0, 7]), (49, 52, .goto 4, [53]), (52, 53, .iconst 0, []), (53, 54, .istore_n 1, [1]), (54, 55, .aload_n 0, [0]), (55, 58, .getfield 12, [0, 1, 12]), (58, 60, .bipush 99, []), (60, 61, .iload_n 1, [1]), (61, 62, .aload_n 0, [0]), (62, 65, .getfield 12, [0, 1, 12]), (65, 68, .getfield 77, [1, 1, 7]), (68, 71, .getfield 153, [0, 0, 11]), (71, 72, .iadd, []), (72, 75, .invokestatic 171, [3]), (75, 78, .putfield 159, [10, 0, 7]), (78, 79, .aload_n 0, [0]), (79, 82, .getfield 12, [0, 1, 12]), (82, 85, .getfield 159, [10, 0, 7]), (85, 86, .ireturn, [])]
/-- CoinTelescope.tick(I)I -/
def c170 : List (Nat × Nat × ClassFile.Instr × List Int) := [(0, 1, .iload_n 1, [1]), (1, 2, .iconst 0, []), (2, 3, .iconst 4, []), (3, 6, .invokestatic 43, [0, 3, 191]), (6, 9, .ifCond .ne 5, [11]), (9, 10, .iconst (-1), []), (10, 11, .ireturn, []), (11, 12, .aload_n 0, [0]), (12, 15, .getfield 12, [0, 1, 12]), (15, 18, .getfield 159, [10, 0, 7]), (18, 21, .ifCond .le 16, [34]), (21, 22, .aload_n 0, [0]), (22, 25, .getfield 12, [0, 1, 12]), (25, 28, .getfield 120, [8, 0, 7]), (28, 31, .sipush 9999, []), (31, 34, .if_icmp .lt 6, [37]), (34, 36, .bipush (-3), []), (36, 37, .ireturn, []), (37, 38, .aload_n 0, [0]), (38, 41, .getfield 35, [3, 1, 12]), (41, 42, .iconst 1, []), (42, 43, .aload_n 0, [0]), (43, 46, .getfield 12, [0, 1, 12]), (46, 49, .getfield 77, [1, 1, 7]), (49, 52, .getfield 126, [2, 0, 11]), (52, 55, .invokevirtual 176, [2, 4, 148, 0]), (55, 56, .aload_n 0, [0]), (56, 59, .getfield 12, [0, 1, 12]), (59, 60, .aload_n 0, [0]), (60, 63, .getfield 12, [0, 1, 12]), (63, 66, .getfield 150, [9, 0, 7]), (66, 67, .iload_n 1, [1]), (67, 70, .invokestatic 179, [0, 2, 199]), (70, 73, .putfield 150, [9, 0, 7]), (73, 74, .aload_n 0, [0]), (74, 77, .getfield 35, [3, 1, 12]), (77, 78, .iconst 1, []), (78, 79, .aload_n 0, [0]), (79, 82, .getfield 12, [0, 1, 12]), (82, 85, .getfield 150, [9, 0, 7]), (85, 86, .aload_n 0, [0]), (86, 89, .getfield 12, [0, 1, 12]), (89, 92, .getfield 147, [7, 0, 7]), (92, 95, .invokevirtual 182, [3, 4, 150, 0]), (95, 96, .istore_n 2, [2]), (96, 97, .aload_n 0, [0]), (97, 100, .getfield 12, [0, 1, 12]), (100, 101, .dup, []), (101, 104, .getfield 147, [7, 0, 7]), (104, 105, .aload_n 0, [0]), (105, 108, .getfield 35, [3, 1, 12]), (108, 109, .iconst 1, []), (109, 110, .aload_n 0, [0]), (110, 113, .getfield 12, [0, 1, 12]), (113, 116, .getfield 150, [9, 0, 7]), (116, 119, .invokevirtual 185, [2, 4, 149, 0]), (119, 120, .ior, []), (120, 123, .putfield 147, [7, 0, 7]), (123, 124, .aload_n 0, [0]), (124, 127, .getfield 12, [0, 1, 12]), (127, 129, .ldc 188, [0, 9999999]), (129, 130, .aload_n 0, [0]), (130, 133, .getfield 12, [0, 1, 12]), (133, 136, .getfield 165, [12, 0, 7]), (136, 137, .iload_n 2, [2]), (137, 138, .iadd, []), (138, 141, .invokestatic 171, [3]), (141, 144, .putfield 165, [12, 0, 7]), (144, 145, .aload_n 0, [0]), (145, 148, .getfield 12, [0, 1, 12]), (148, 149, .dup, []), (149, 152, .getfield 159, [10, 0, 7]), (152, 153, .iconst 1, []), (153, 154, .isub, []), (154, 157, .putfield 159, [10, 0, 7]), (157, 158, .aload_n 0, [0]), (158, 161, .getfield 12, [0, 1, 12]), (161, 162, .dup, []), (162, 165, .getfield 120, [8, 0, 7]), (165, 166, .iconst 1, []), (166, 167, .iadd, []), (167, 170, .putfield 120, [8, 0, 7]), (170, 171, .iload_n 2, [2]), (171, 172, .ireturn, [])]
/-- CoinTelescope.pass(I)I -/
def c171 : List (Nat × Nat × ClassFile.Instr × List Int) := [(0, 1, .iload_n 1, [1]), (1, 2, .iconst 0, []), (2, 4, .bipush 60, []), (4, 7, .invokestatic 43, [0, 3, 191]), (7, 10, .ifCond .ne 6, [13]), (10, 12, .bipush (-2), []), (12, 13, .ireturn, []), (13, 14, .aload_n 0, [0]), (14, 17, .getfield 12, [0, 1, 12]), (17, 20, .getfield 120, [8, 0, 7]), (20, 21, .iload_n 1, [1]), (21, 22, .iadd, []), (22, 25, .sipush 9999, []), (25, 28, .if_icmp .le 6, [31]), (28, 30, .bipush (-3), []), (30, 31, .ireturn, []), (31, 32, .aload_n 0, [0]), (32, 35, .getfield 12, [0, 1, 12]), (35, 36, .dup, []), (36, 39, .getfield 120, [8, 0, 7]), (39, 40, .iload_n 1, [1]), (40, 41, .iadd, []), (41, 44, .putfield 120, [8, 0, 7]), (44, 45, .aload_n 0, [0]), (45, 48, .getfield 12, [0, 1, 12]), (48, 49, .iconst 0, []), (49, 50, .aload_n 0, [0]), (50, 53, .getfield 12, [0, 1, 12]), (53, 56, .getfield 159, [10, 0, 7]), (56, 57, .iload_n 1, [1]), (57, 58, .isub, []), (58, 61, .invokestatic 189, [2]), (61, 64, .putfield 159, [10, 0, 7]), (64, 65, .aload_n 0, [0]), (65, 68, .getfield 12, [0, 1, 12]), (68, 71, .getfield 159, [10, 0, 7]), (71, 72, .ireturn, [])]
/-- CoinTelescope.look(II)I -/
def c172 : List (Nat × Nat × ClassFile.Instr × List Int) := [(0, 1, .iload_n 2, [2]), (1, 2, .iconst (-1), []), (2, 3, .iconst 4, []), (3, 6, .invokestatic 43, [0, 3, 191]), (6, 9, .ifCond .ne 5, [11]), (9, 10, .iconst (-1), []), (10, 11, .ireturn, []), (11, 12, .iload_n 1, [1]), (12, 13, .iconst 0, []), (13, 14, .iconst 5, []), (14, 17, .invokestatic 43, [0, 3, 191]), (17, 20, .ifCond .ne 6, [23]), (20, 22, .bipush (-2), []), (22, 23, .ireturn, []), (23, 24, .iload_n 2, [2]), (24, 25, .iload_n 1, [1]), (25, 28, .if_icmp .lt 6, [31]), (28, 30, .bipush (-5), []), (30, 31, .ireturn, []), (31, 32, .aload_n 0, [0]), (32, 35, .getfield 35, [3, 1, 12]), (35, 36, .iload_n 1, [1]), (36, 37, .aload_n 0, [0]), (37, 40, .getfield 12, [0, 1, 12]), (40, 43, .getfield 77, [1, 1, 7]), (43, 46, .getfield 126, [2, 0, 11]), (46, 49, .invokevirtual 176, [2, 4, 148, 0]), (49, 50, .aload_n 0, [0]), (50, 53, .getfield 35, [3, 1, 12]), (53, 54, .aload_n 0, [0]), (54, 57, .getfield 12, [0, 1, 12]), (57, 60, .getfield 150, [9, 0, 7]), (60, 61, .iload_n 1, [1]), (61, 64, .invokevirtual 192, [2, 4, 151, 0]), (64, 65, .istore_n 3, [3]), (65, 66, .iload_n 2, [2]), (66, 69, .ifCond .ge 7, [73]), (69, 70, .iload_n 3, [3]), (70, 73, .goto 11, [81]), (73, 74, .aload_n 0, [0]), (74, 77, .getfield 35, [3, 1, 12]), (77, 78, .iload_n 2, [2]), (78, 81, .invokevirtual 195, [1, 4, 153, 0]), (81, 82, .ireturn, [])]
/-- CoinTelescope.aim(II)I -/
def c173 : List (Nat × Nat × ClassFile.Instr × List Int) := [(0, 1, .iload_n 2, [2]), (1, 2, .iconst 0, []), (2, 3, .iconst 1, []), (3, 6, .invokestatic 43, [0, 3, 191]), (6, 9, .ifCond .ne 5, [11]), (9, 10, .iconst (-1), []), (10, 11, .ireturn, []), (11, 12, .iload_n 1, [1]), (12, 13, .iconst 1, []), (13, 14, .iconst 3, []), (14, 17, .invokestatic 43, [0, 3, 191]), (17, 20, .ifCond .ne 6, [23]), (20, 22, .bipush (-2), []), (22, 23, .ireturn, []), (23, 24, .aload_n 0, [0]), (24, 27, .getfield 35, [3, 1, 12]), (27, 28, .iload_n 1, [1]), (28, 29, .aload_n 0, [0]), (29, 32, .getfield 12, [0, 1, 12]), (32, 35, .getfield 77, [1, 1, 7]), (35, 38, .getfield 126, [2, 0, 11]), (38, 41, .invokevirtual 176, [2, 4, 148, 0]), (41, 42, .iconst 0, []), (42, 43, .istore_n 3, [3]), (43, 44, .iconst (-1), []), (44, 46, .istore 4, [4]), (46, 47, .iconst 0, []), (47, 49, .istore 5, [5]), (49, 51, .iload 5, [5]), (51, 53, .bipush 24, []), (53, 56, .if_icmp .ge 35, [88]), (56, 57, .aload_n 0, [0]), (57, 60, .getfield 35, [3, 1, 12]), (60, 62, .iload 5, [5]), (62, 63, .iload_n 1, [1]), (63, 66, .invokevirtual 192, [2, 4, 151, 0]), (66, 68, .istore 6, [6]), (68, 70, .iload 6, [6]), (70, 72, .iload 4, [4]), (72, 75, .if_icmp .le 10, [82]), (75, 77, .iload 5, [5]), (77, 78, .istore_n 3, [3]), (78, 80, .iload 6, [6]), (80, 82, .istore 4, [4]), (82, 85, .iinc 5 1, [5, 1]), (85, 88, .goto (-36), [49]), (88, 89, .iload_n 2, [2]), (89, 92, .ifCond .ne 7, [96]), (92, 93, .iload_n 3, [3]), (93, 96, .goto 5, [98]), (96, 98, .iload 4, [4]), (98, 99, .ireturn, [])]
/-- CoinTelescope.soon(I)I -/
def c174 : List (Nat × Nat × ClassFile.Instr × List Int) := [(0, 1, .aload_n 0, [0]), (1, 4, .getfield 12, [0, 1, 12]), (4, 5, .iload_n 1, [1]), (5, 8, .invokevirtual 96, [1, 7, 135, 0]), (8, 9, .astore_n 2, [2]), (9, 10, .aload_n 2, [2]), (10, 13, .ifnonnull 7, [17]), (13, 14, .iconst (-1), []), (14, 17, .goto 19, [33]), (17, 18, .aload_n 0, [0]), (18, 21, .getfield 35, [3, 1, 12]), (21, 22, .aload_n 2, [2]), (22, 23, .aload_n 0, [0]), (23, 26, .getfield 12, [0, 1, 12]), (26, 29, .getfield 150, [9, 0, 7]), (29, 30, .iconst 0, []), (30, 33, .invokevirtual 198, [3, 4, 154, 0]), (33, 34, .ireturn, [])]
/-- CoinTelescope.order(I)I -/
def c175 : List (Nat × Nat × ClassFile.Instr × List Int) := [(0, 1, .iload_n 1, [1]), (1, 2, .iconst (-1), []), (2, 3, .iconst 5, []), (3, 6, .invokestatic 43, [0, 3, 191]), (6, 9, .ifCond .ne 5, [11]), (9, 10, .iconst (-1), []), (10, 11, .ireturn, []), (11, 12, .aload_n 0, [0]), (12, 15, .getfield 35, [3, 1, 12]), (15, 18, .invokevirtual 201, [0, 4, 155, 0]), (18, 19, .istore_n 2, [2]), (19, 20, .iload_n 1, [1]), (20, 23, .ifCond .ge 7, [27]), (23, 24, .iload_n 2, [2]), (24, 27, .goto 11, [35]), (27, 28, .aload_n 0, [0]), (28, 31, .getfield 35, [3, 1, 12]), (31, 32, .iload_n 1, [1]), (32, 35, .invokevirtual 204, [1, 4, 157, 0]), (35, 36, .ireturn, [])]
/-- CoinTelescope.stood(III)I -/
def c176 : List (Nat × Nat × ClassFile.Instr × List Int) := [(0, 1, .iload_n 1, [1]), (1, 2, .iconst (-1), []), (2, 5, .if_icmp .ne 14, [16]), (5, 6, .aload_n 0, [0]), (6, 9, .getfield 12, [0, 1, 12]), (9, 12, .getfield 207, [13, 1, 7]), (12, 15, .invokevirtual 73, [0, 8, 82, 0]), (15, 16, .ireturn, []), (16, 17, .aload_n 0, [0]), (17, 20, .getfield 12, [0, 1, 12]), (20, 21, .iload_n 1, [1]), (21, 24, .invokevirtual 96, [1, 7, 135, 0]), (24, 27, .ifnull 10, [34]), (27, 28, .iload_n 3, [3]), (28, 31, .invokestatic 81, [0, 1, 194]), (31, 34, .ifCond .ne 5, [36]), (34, 35, .iconst (-1), []), (35, 36, .ireturn, []), (36, 37, .iload_n 2, [2]), (37, 38, .iconst 0, []), (38, 40, .bipush 40, []), (40, 43, .invokestatic 43, [0, 3, 191]), (43, 46, .ifCond .ne 6, [49]), (46, 48, .bipush (-2), []), (48, 49, .ireturn, []), (49, 50, .aload_n 0, [0]), (50, 53, .getfield 12, [0, 1, 12]), (53, 56, .getfield 207, [13, 1, 7]), (56, 59, .invokevirtual 50, [0, 8, 81, 0]), (59, 62, .ifCond .eq 8, [67]), (62, 64, .bipush (-4), []), (64, 67, .goto 16, [80]), (67, 68, .aload_n 0, [0]), (68, 71, .getfield 12, [0, 1, 12]), (71, 74, .getfield 207, [13, 1, 7]), (74, 75, .iload_n 1, [1]), (75, 76, .iload_n 2, [2]), (76, 77, .iload_n 3, [3]), (77, 80, .invokevirtual 54, [3, 8, 83, 0]), (80, 81, .ireturn, [])]
/-- CoinTelescope.from(I)I -/
def c177 : List (Nat × Nat × ClassFile.Instr × List Int) := [(0, 1, .aload_n 0, [0]), (1, 4, .getfield 12, [0, 1, 12]), (4, 5, .iload_n 1, [1]), (5, 8, .invokevirtual 96, [1, 7, 135, 0]), (8, 9, .astore_n 2, [2]), (9, 10, .aload_n 2, [2]), (10, 13, .ifnonnull 5, [15]), (13, 14, .iconst (-1), []), (14, 15, .ireturn, []), (15, 16, .iconst 0, []), (16, 17, .istore_n 3, [3]), (17, 18, .iconst 0, []), (18, 20, .istore 4, [4]), (20, 22, .iload 4, [4]), (22, 24, .bipush 24, []), (24, 27, .if_icmp .ge 33, [57]), (27, 28, .aload_n 0, [0]), (28, 31, .getfield 12, [0, 1, 12]), (31, 32, .aload_n 2, [2]), (32, 34, .iload 4, [4]), (34, 35, .aload_n 2, [2]), (35, 38, .getfield 105, [2, 0, 1, 2, 3, 5, 6, 9, 10]), (38, 41, .invokevirtual 210, [3, 7, 145, 0]), (41, 44, .ifCond .eq 10, [51]), (44, 45, .iload_n 3, [3]), (45, 46, .iconst 1, []), (46, 48, .iload 4, [4]), (48, 49, .ishl, []), (49, 50, .ior, []), (50, 51, .istore_n 3, [3]), (51, 54, .iinc 4 1, [4, 1]), (54, 57, .goto (-34), [20]), (57, 58, .iload_n 3, [3]), (58, 59, .ireturn, [])]
/-- CoinTelescope.firm(II)I -/
def c178 : List (Nat × Nat × ClassFile.Instr × List Int) := [(0, 1, .aload_n 0, [0]), (1, 4, .getfield 12, [0, 1, 12]), (4, 5, .iload_n 1, [1]), (5, 8, .invokevirtual 96, [1, 7, 135, 0]), (8, 9, .astore_n 3, [3]), (9, 10, .aload_n 3, [3]), (10, 13, .ifnull 12, [22]), (13, 14, .iload_n 2, [2]), (14, 15, .iconst 0, []), (15, 16, .iconst 1, []), (16, 19, .invokestatic 43, [0, 3, 191]), (19, 22, .ifCond .ne 5, [24]), (22, 23, .iconst (-1), []), (23, 24, .ireturn, []), (24, 25, .iconst 0, []), (25, 27, .istore 4, [4]), (27, 29, .bipush (-5), []), (29, 31, .istore 5, [5]), (31, 33, .bipush 9, []), (33, 35, .istore 6, [6]), (35, 37, .iload 6, [6]), (37, 40, .ifCond .lt 37, [74]), (40, 41, .aload_n 0, [0]), (41, 44, .getfield 12, [0, 1, 12]), (44, 45, .aload_n 3, [3]), (45, 46, .aload_n 0, [0]), (46, 49, .getfield 12, [0, 1, 12]), (49, 50, .iload_n 1, [1]), (50, 53, .invokevirtual 108, [1, 7, 137, 0]), (53, 55, .iload 6, [6]), (55, 58, .invokevirtual 210, [3, 7, 145, 0]), (58, 61, .ifCond .eq 10, [68]), (61, 64, .iinc 4 1, [4, 1]), (64, 66, .iload 6, [6]), (66, 68, .istore 5, [5]), (68, 71, .iinc 6 (-1), [6, (-1)]), (71, 74, .goto (-36), [35]), (74, 75, .iload_n 2, [2]), (75, 78, .ifCond .ne 8, [83]), (78, 80, .iload 4, [4]), (80, 83, .goto 5, [85]), (83, 85, .iload 5, [5]), (85, 86, .ireturn, [])]
/-- CoinTelescope.odds(III)J -/
def c179 : List (Nat × Nat × ClassFile.Instr × List Int) := [(0, 1, .iload_n 1, [1]), (1, 2, .iconst 0, []), (2, 3, .iconst 3, []), (3, 6, .invokestatic 43, [0, 3, 191]), (6, 9, .ifCond .eq 23, [29]), (9, 10, .iload_n 2, [2]), (10, 11, .iconst 0, []), (11, 14, .sipush 9999, []), (14, 17, .invokestatic 43, [0, 3, 191]), (17, 20, .ifCond .eq 12, [29]), (20, 21, .iload_n 3, [3]), (21, 22, .iconst 0, []), (22, 23, .iconst 1, []), (23, 26, .invokestatic 43, [0, 3, 191]), (26, 29, .ifCond .ne 7, [33]), (29, 32, .ldc2_w 214, [(-9223372036854775808)]), (32, 33, .lreturn, []), (33, 34, .iconst 0, []), (34, 36, .istore 4, [4]), (36, 37, .iconst 0, []), (37, 39, .istore 5, [5]), (39, 41, .iload 5, [5]), (41, 42, .iconst 4, []), (42, 45, .if_icmp .ge 41, [83]), (45, 46, .aload_n 0, [0]), (46, 49, .getfield 35, [3, 1, 12]), (49, 50, .iload_n 1, [1]), (50, 52, .iload 5, [5]), (52, 55, .invokevirtual 176, [2, 4, 148, 0]), (55, 56, .aload_n 0, [0]), (56, 59, .getfield 35, [3, 1, 12]), (59, 60, .aload_n 0, [0]), (60, 63, .getfield 12, [0, 1, 12]), (63, 66, .getfield 150, [9, 0, 7]), (66, 67, .iload_n 1, [1]), (67, 70, .invokevirtual 192, [2, 4, 151, 0]), (70, 71, .iload_n 2, [2]), (71, 74, .if_icmp .lt 6, [77]), (74, 77, .iinc 4 1, [4, 1]), (77, 80, .iinc 5 1, [5, 1]), (80, 83, .goto (-41), [39]), (83, 85, .iload 4, [4]), (85, 86, .iconst 4, []), (86, 87, .iload_n 3, [3]), (87, 90, .invokestatic 216, [0, 3, 200]), (90, 91, .lreturn, [])]
/-- CoinTelescope.mean(I)J -/
def c180 : List (Nat × Nat × ClassFile.Instr × List Int) := [(0, 1, .iconst 0, []), (1, 2, .istore_n 2, [2]), (2, 3, .iconst 0, []), (3, 4, .istore_n 3, [3]), (4, 5, .iconst 0, []), (5, 7, .istore 4, [4]), (7, 9, .iload 4, [4]), (9, 10, .aload_n 0, [0]), (10, 13, .getfield 12, [0, 1, 12]), (13, 16, .getfield 85, [3, 0, 7]), (16, 19, .if_icmp .ge 75, [91]), (19, 20, .aload_n 0, [0]), (20, 23, .getfield 12, [0, 1, 12]), (23, 25, .iload 4, [4]), (25, 28, .invokevirtual 96, [1, 7, 135, 0]), (28, 30, .astore 5, [5]), (30, 32, .aload 5, [5]), (32, 35, .ifnull 53, [85]), (35, 36, .aload_n 0, [0]), (36, 39, .getfield 12, [0, 1, 12]), (39, 41, .iload 4, [4]), (41, 44, .invokevirtual 112, [1, 7, 141, 0]), (44, 47, .ifCond .ne 41, [85]), (47, 48, .iload_n 2, [2]), (48, 49, .aload_n 0, [0]), (49, 52, .getfield 12, [0, 1, 12]), (52, 54, .aload 5, [5]), (54, 55, .aload_n 0, [0]), (55, 58, .getfield 12, [0, 1, 12]), (58, 60, .aload 5, [5]), (60, 61, .aload_n 0, [0]), (61, 64, .getfield 12, [0, 1, 12]), (64, 67, .getfield 120, [8, 0, 7]), (67, 70, .invokevirtual 123, [2, 7, 142, 0]), (70, 71, .aload_n 0, [0]), (71, 74, .getfield 12, [0, 1, 12]), (74, 77, .getfield 120, [8, 0, 7]), (77, 80, .invokevirtual 137, [3, 7, 144, 0]), (80, 81, .iadd, []), (81, 82, .istore_n 2, [2]), (82, 85, .iinc 3 1, [3, 1]), (85, 88, .iinc 4 1, [4, 1]), (88, 91, .goto (-81), [7]), (91, 92, .iload_n 1, [1]), (92, 93, .iconst 0, []), (93, 94, .iconst 1, []), (94, 97, .invokestatic 43, [0, 3, 191]), (97, 100, .ifCond .eq 16, [113]), (100, 101, .iload_n 3, [3]), (101, 104, .ifCond .le 12, [113]), (104, 105, .iload_n 2, [2]), (105, 106, .iload_n 3, [3]), (106, 107, .iload_n 1, [1]), (107, 110, .invokestatic 216, [0, 3, 200]), (110, 113, .goto 6, [116]), (113, 116, .ldc2_w 214, [(-9223372036854775808)]), (116, 117, .lreturn, [])]
/-- CoinTelescope.plan(I)I -/
def c181 : List (Nat × Nat × ClassFile.Instr × List Int) := [(0, 1, .iload_n 1, [1]), (1, 2, .iconst (-1), []), (2, 5, .if_icmp .ne 14, [16]), (5, 6, .aload_n 0, [0]), (6, 9, .getfield 12, [0, 1, 12]), (9, 12, .getfield 220, [14, 1, 7]), (12, 15, .invokevirtual 73, [0, 8, 82, 0]), (15, 16, .ireturn, []), (16, 17, .iload_n 1, [1]), (17, 18, .iconst 0, []), (18, 19, .iconst 5, []), (19, 22, .invokestatic 43, [0, 3, 191]), (22, 25, .ifCond .ne 5, [27]), (25, 26, .iconst (-1), []), (26, 27, .ireturn, []), (27, 28, .aload_n 0, [0]), (28, 31, .getfield 12, [0, 1, 12]), (31, 34, .getfield 220, [14, 1, 7]), (34, 37, .invokevirtual 50, [0, 8, 81, 0]), (37, 40, .ifCond .eq 8, [45]), (40, 42, .bipush (-4), []), (42, 45, .goto 16, [58]), (45, 46, .aload_n 0, [0]), (46, 49, .getfield 12, [0, 1, 12]), (49, 52, .getfield 220, [14, 1, 7]), (52, 53, .iload_n 1, [1]), (53, 54, .iconst 0, []), (54, 55, .iconst 0, []), (55, 58, .invokevirtual 54, [3, 8, 83, 0]), (58, 59, .ireturn, [])]
/-- CoinTelescope.done(I)I -/
def c182 : List (Nat × Nat × ClassFile.Instr × List Int) := [(0, 1, .iload_n 1, [1]), (1, 2, .iconst 0, []), (2, 3, .iconst 2, []), (3, 6, .invokestatic 43, [0, 3, 191]), (6, 9, .ifCond .ne 5, [11]), (9, 10, .iconst (-1), []), (10, 11, .ireturn, []), (11, 12, .aload_n 0, [0]), (12, 15, .getfield 12, [0, 1, 12]), (15, 18, .getfield 220, [14, 1, 7]), (18, 21, .invokevirtual 223, [0, 8, 80, 0]), (21, 22, .istore_n 2, [2]), (22, 23, .aload_n 0, [0]), (23, 26, .getfield 35, [3, 1, 12]), (26, 27, .iload_n 2, [2]), (27, 28, .aload_n 0, [0]), (28, 31, .getfield 12, [0, 1, 12]), (31, 34, .getfield 77, [1, 1, 7]), (34, 37, .getfield 126, [2, 0, 11]), (37, 40, .invokevirtual 176, [2, 4, 148, 0]), (40, 41, .aload_n 0, [0]), (41, 44, .getfield 12, [0, 1, 12]), (44, 47, .getfield 150, [9, 0, 7]), (47, 48, .istore_n 3, [3]), (48, 49, .aload_n 0, [0]), (49, 52, .getfield 12, [0, 1, 12]), (52, 55, .getfield 147, [7, 0, 7]), (55, 57, .istore 4, [4]), (57, 58, .iconst 0, []), (58, 60, .istore 5, [5]), (60, 61, .iconst 0, []), (61, 63, .istore 6, [6]), (63, 65, .iload 6, [6]), (65, 66, .iload_n 2, [2]), (66, 69, .if_icmp .ge 73, [139]), (69, 70, .aload_n 0, [0]), (70, 73, .getfield 12, [0, 1, 12]), (73, 76, .getfield 220, [14, 1, 7]), (76, 78, .iload 6, [6]), (78, 79, .iconst 0, []), (79, 82, .invokevirtual 226, [2, 8, 84, 0]), (82, 84, .istore 7, [7]), (84, 86, .iload 7, [7]), (86, 87, .iconst 5, []), (87, 90, .if_icmp .eq 46, [133]), (90, 91, .iload_n 3, [3]), (91, 93, .iload 7, [7]), (93, 96, .invokestatic 179, [0, 2, 199]), (96, 97, .istore_n 3, [3]), (97, 99, .iload 5, [5]), (99, 100, .aload_n 0, [0]), (100, 103, .getfield 35, [3, 1, 12]), (103, 105, .iload 6, [6]), (105, 106, .iconst 1, []), (106, 107, .iadd, []), (107, 108, .iload_n 3, [3]), (108, 110, .iload 4, [4]), (110, 113, .invokevirtual 182, [3, 4, 150, 0]), (113, 114, .iadd, []), (114, 116, .istore 5, [5]), (116, 118, .iload 4, [4]), (118, 119, .aload_n 0, [0]), (119, 122, .getfield 35, [3, 1, 12]), (122, 124, .iload 6, [6]), (124, 125, .iconst 1, []), (125, 126, .iadd, []), (126, 127, .iload_n 3, [3]), (127, 130, .invokevirtual 185, [2, 4, 149, 0]), (130, 131, .ior, []), (131, 133, .istore 4, [4]), (133, 136, .iinc 6 1, [6, 1]), (136, 139, .goto (-73), [63]), (139, 140, .iload_n 1, [1]), (140, 168, .lookupswitch 33 #[(0, 28), (1, 31)], [173, 0, 168, 1, 171]), (168, 170, .iload 5, [5]), (170, 171, .ireturn, []), (171, 172, .iload_n 3, [3]), (172, 173, .ireturn, []), (173, 174, .iconst 0, []), (174, 175, .aload_n 0, [0]), (175, 178, .getfield 12, [0, 1, 12]), (178, 181, .getfield 159, [10, 0, 7]), (181, 182, .iload_n 2, [2]), (182, 183, .isub, []), (183, 186, .invokestatic 189, [2]), (186, 187, .ireturn, [])]
/-- CoinTelescope.book(II)I -/
def c183 : List (Nat × Nat × ClassFile.Instr × List Int) := [(0, 1, .iload_n 1, [1]), (1, 2, .iconst (-1), []), (2, 5, .if_icmp .ne 14, [16]), (5, 6, .aload_n 0, [0]), (6, 9, .getfield 12, [0, 1, 12]), (9, 12, .getfield 229, [15, 1, 7]), (12, 15, .invokevirtual 73, [0, 8, 82, 0]), (15, 16, .ireturn, []), (16, 17, .aload_n 0, [0]), (17, 20, .getfield 12, [0, 1, 12]), (20, 21, .iload_n 1, [1]), (21, 24, .invokevirtual 96, [1, 7, 135, 0]), (24, 27, .ifnull 10, [34]), (27, 28, .iload_n 2, [2]), (28, 31, .invokestatic 81, [0, 1, 194]), (31, 34, .ifCond .ne 5, [36]), (34, 35, .iconst (-1), []), (35, 36, .ireturn, []), (36, 37, .aload_n 0, [0]), (37, 40, .getfield 12, [0, 1, 12]), (40, 43, .getfield 229, [15, 1, 7]), (43, 46, .invokevirtual 50, [0, 8, 81, 0]), (46, 49, .ifCond .eq 8, [54]), (49, 51, .bipush (-4), []), (51, 54, .goto 16, [67]), (54, 55, .aload_n 0, [0]), (55, 58, .getfield 12, [0, 1, 12]), (58, 61, .getfield 229, [15, 1, 7]), (61, 62, .iload_n 1, [1]), (62, 63, .iload_n 2, [2]), (63, 64, .iconst 0, []), (64, 67, .invokevirtual 54, [3, 8, 83, 0]), (67, 68, .ireturn, [])]
/-- CoinTelescope.looked()I -/
def c184 : List (Nat × Nat × ClassFile.Instr × List Int) := [(0, 1, .iconst 0, []), (1, 2, .istore_n 1, [1]), (2, 3, .iload_n 1, [1]), (3, 4, .aload_n 0, [0]), (4, 7, .getfield 12, [0, 1, 12]), (7, 10, .getfield 229, [15, 1, 7]), (10, 13, .invokevirtual 223, [0, 8, 80, 0]), (13, 16, .if_icmp .ge 65, [78]), (16, 17, .aload_n 0, [0]), (17, 20, .getfield 12, [0, 1, 12]), (20, 21, .aload_n 0, [0]), (21, 24, .getfield 12, [0, 1, 12]), (24, 27, .getfield 229, [15, 1, 7]), (27, 28, .iload_n 1, [1]), (28, 29, .iconst 0, []), (29, 32, .invokevirtual 226, [2, 8, 84, 0]), (32, 35, .invokevirtual 96, [1, 7, 135, 0]), (35, 36, .astore_n 2, [2]), (36, 37, .aload_n 2, [2]), (37, 40, .ifnull 35, [72]), (40, 41, .aload_n 0, [0]), (41, 44, .getfield 12, [0, 1, 12]), (44, 45, .aload_n 2, [2]), (45, 46, .aload_n 0, [0]), (46, 49, .getfield 12, [0, 1, 12]), (49, 52, .getfield 120, [8, 0, 7]), (52, 55, .invokevirtual 123, [2, 7, 142, 0]), (55, 56, .aload_n 0, [0]), (56, 59, .getfield 12, [0, 1, 12]), (59, 62, .getfield 229, [15, 1, 7]), (62, 63, .iload_n 1, [1]), (63, 64, .iconst 1, []), (64, 67, .invokevirtual 226, [2, 8, 84, 0]), (67, 70, .if_icmp .eq 5, [72]), (70, 71, .iload_n 1, [1]), (71, 72, .ireturn, []), (72, 75, .iinc 1 1, [1, 1]), (75, 78, .goto (-73), [2]), (78, 80, .bipush (-5), []), (80, 81, .ireturn, [])]
/-- CoinTelescope.act(III)I -/
def c185 : List (Nat × Nat × ClassFile.Instr × List Int) := [(0, 1, .aload_n 0, [0]), (1, 4, .getfield 26, [2, 1, 12]), (4, 7, .invokevirtual 73, [0, 8, 82, 0]), (7, 8, .pop, []), (8, 9, .aload_n 0, [0]), (9, 12, .getfield 12, [0, 1, 12]), (12, 13, .iload_n 1, [1]), (13, 16, .invokevirtual 96, [1, 7, 135, 0]), (16, 18, .astore 4, [4]), (18, 20, .aload 4, [4]), (20, 23, .ifnonnull 5, [25]), (23, 24, .iconst 0, []), (24, 25, .ireturn, []), (25, 26, .iload_n 2, [2]), (26, 52, .tableswitch 47 0 2 #[26, 33, 40], [73, 0, 52, 1, 59, 2, 66]), (52, 54, .aload 4, [4]), (54, 55, .iload_n 3, [3]), (55, 58, .invokevirtual 232, [1, 1, 91, 1, 2, 101, 2, 3, 91, 1, 5, 101, 2, 6, 112, 2, 9, 91, 0, 10, 91, 1]), (58, 59, .ireturn, []), (59, 61, .aload 4, [4]), (61, 62, .iload_n 3, [3]), (62, 65, .invokevirtual 235, [1, 1, 92, 1, 2, 92, 1, 3, 104, 2, 5, 92, 1, 6, 104, 2, 9, 92, 0, 10, 116, 2]), (65, 66, .ireturn, []), (66, 68, .aload 4, [4]), (68, 69, .iload_n 3, [3]), (69, 72, .invokevirtual 238, [1, 1, 97, 2, 2, 93, 1, 3, 93, 1, 5, 108, 2, 6, 93, 1, 9, 93, 0, 10, 97, 2]), (72, 73, .ireturn, []), (73, 74, .iconst 0, []), (74, 75, .ireturn, [])]
/-- CoinTelescope.trace(I)I -/
def c186 : List (Nat × Nat × ClassFile.Instr × List Int) := [(0, 1, .aload_n 0, [0]), (1, 4, .getfield 26, [2, 1, 12]), (4, 5, .iload_n 1, [1]), (5, 6, .iconst 0, []), (6, 9, .invokevirtual 226, [2, 8, 84, 0]), (9, 10, .ireturn, [])]
/-- CoinTelescope.as(II)I -/
def c187 : List (Nat × Nat × ClassFile.Instr × List Int) := [(0, 1, .aload_n 0, [0]), (1, 4, .getfield 12, [0, 1, 12]), (4, 5, .iload_n 1, [1]), (5, 8, .invokevirtual 96, [1, 7, 135, 0]), (8, 9, .astore_n 3, [3]), (9, 10, .aload_n 3, [3]), (10, 13, .ifnull 13, [23]), (13, 14, .iload_n 2, [2]), (14, 15, .iconst 0, []), (15, 17, .bipush 6, []), (17, 20, .invokestatic 43, [0, 3, 191]), (20, 23, .ifCond .ne 5, [25]), (23, 24, .iconst (-1), []), (24, 25, .ireturn, []), (25, 26, .aload_n 3, [3]), (26, 27, .iload_n 2, [2]), (27, 30, .invokestatic 241, [0, 2, 201]), (30, 33, .ifCond .eq 10, [40]), (33, 34, .aload_n 3, [3]), (34, 37, .getfield 105, [2, 0, 1, 2, 3, 5, 6, 9, 10]), (37, 40, .goto 5, [42]), (40, 42, .bipush (-6), []), (42, 43, .ireturn, [])]
/-- CoinTelescope.image()I -/
def c188 : List (Nat × Nat × ClassFile.Instr × List Int) := [(0, 1, .aload_n 0, [0]), (1, 4, .getfield 18, [1, 1, 12]), (4, 5, .aload_n 0, [0]), (5, 8, .getfield 12, [0, 1, 12]), (8, 11, .invokevirtual 245, [1, 7, 146, 0]), (11, 12, .aload_n 0, [0]), (12, 13, .iconst 1, []), (13, 16, .putfield 39, [4, 2, 12]), (16, 17, .aload_n 0, [0]), (17, 20, .getfield 12, [0, 1, 12]), (20, 23, .getfield 85, [3, 0, 7]), (23, 24, .ireturn, [])]
/-- CoinTelescope.undo()I -/
def c189 : List (Nat × Nat × ClassFile.Instr × List Int) := [(0, 1, .aload_n 0, [0]), (1, 4, .getfield 39, [4, 2, 12]), (4, 7, .ifCond .ne 6, [10]), (7, 9, .bipush (-3), []), (9, 10, .ireturn, []), (10, 11, .aload_n 0, [0]), (11, 14, .getfield 12, [0, 1, 12]), (14, 15, .aload_n 0, [0]), (15, 18, .getfield 18, [1, 1, 12]), (18, 21, .invokevirtual 245, [1, 7, 146, 0]), (21, 22, .aload_n 0, [0]), (22, 25, .getfield 12, [0, 1, 12]), (25, 28, .getfield 85, [3, 0, 7]), (28, 29, .ireturn, [])]
/-- CoinTelescope.count(I)I -/
def c190 : List (Nat × Nat × ClassFile.Instr × List Int) := [(0, 1, .iload_n 1, [1]), (1, 44, .tableswitch 111 0 6 #[43, 51, 59, 70, 81, 92, 103], [112, 0, 44, 1, 52, 2, 60, 3, 71, 4, 82, 5, 93, 6, 104]), (44, 45, .aload_n 0, [0]), (45, 48, .getfield 12, [0, 1, 12]), (48, 51, .getfield 85, [3, 0, 7]), (51, 52, .ireturn, []), (52, 53, .aload_n 0, [0]), (53, 56, .getfield 12, [0, 1, 12]), (56, 59, .getfield 58, [2, 0, 7]), (59, 60, .ireturn, []), (60, 61, .aload_n 0, [0]), (61, 64, .getfield 12, [0, 1, 12]), (64, 67, .getfield 207, [13, 1, 7]), (67, 70, .invokevirtual 223, [0, 8, 80, 0]), (70, 71, .ireturn, []), (71, 72, .aload_n 0, [0]), (72, 75, .getfield 12, [0, 1, 12]), (75, 78, .getfield 220, [14, 1, 7]), (78, 81, .invokevirtual 223, [0, 8, 80, 0]), (81, 82, .ireturn, []), (82, 83, .aload_n 0, [0]), (83, 86, .getfield 12, [0, 1, 12]), (86, 89, .getfield 229, [15, 1, 7]), (89, 92, .invokevirtual 223, [0, 8, 80, 0]), (92, 93, .ireturn, []), (93, 94, .aload_n 0, [0]), (94, 97, .getfield 12, [0, 1, 12]), (97, 100, .getfield 47, [0, 1, 7]), (100, 103, .invokevirtual 223, [0, 8, 80, 0]), (103, 104, .ireturn, []), (104, 105, .aload_n 0, [0]), (105, 108, .getfield 26, [2, 1, 12]), (108, 111, .invokevirtual 223, [0, 8, 80, 0]), (111, 112, .ireturn, []), (112, 113, .iconst (-1), []), (113, 114, .ireturn, [])]
/-- CoinTelescope.within(III)Z -/
def c191 : List (Nat × Nat × ClassFile.Instr × List Int) := [(0, 1, .iload_n 0, [0]), (1, 2, .iload_n 1, [1]), (2, 5, .if_icmp .lt 12, [14]), (5, 6, .iload_n 0, [0]), (6, 7, .iload_n 2, [2]), (7, 10, .if_icmp .gt 7, [14]), (10, 11, .iconst 1, []), (11, 14, .goto 4, [15]), (14, 15, .iconst 0, []), (15, 16, .ireturn, [])]
/-- CoinTelescope.isIn([II)Z -/
def c192 : List (Nat × Nat × ClassFile.Instr × List Int) := [(0, 1, .iload_n 1, [1]), (1, 4, .ifCond .lt 13, [14]), (4, 5, .iload_n 1, [1]), (5, 6, .aload_n 0, [0]), (6, 7, .arraylength, []), (7, 10, .if_icmp .ge 7, [14]), (10, 11, .iconst 1, []), (11, 14, .goto 4, [15]), (14, 15, .iconst 0, []), (15, 16, .ireturn, [])]
/-- CoinTelescope.copy([I[I)V -/
def c193 : List (Nat × Nat × ClassFile.Instr × List Int) := [(0, 1, .aload_n 0, [0]), (1, 2, .iconst 0, []), (2, 3, .aload_n 1, [1]), (3, 4, .iconst 0, []), (4, 5, .aload_n 0, [0]), (5, 6, .arraylength, []), (6, 7, .aload_n 1, [1]), (7, 8, .arraylength, []), (8, 11, .invokestatic 171, [3]), (11, 14, .invokestatic 248, [5]), (14, 15, .return_, [])]
/-- CoinTelescope.isCell(I)Z -/
def c194 : List (Nat × Nat × ClassFile.Instr × List Int) := [(0, 1, .iload_n 0, [0]), (1, 2, .iconst 0, []), (2, 4, .bipush 23, []), (4, 7, .invokestatic 43, [0, 3, 191]), (7, 8, .ireturn, [])]
/-- CoinTelescope.bit(Z)I -/
def c195 : List (Nat × Nat × ClassFile.Instr × List Int) := [(0, 1, .iload_n 0, [0]), (1, 4, .ifCond .eq 7, [8]), (4, 5, .iconst 1, []), (5, 8, .goto 4, [9]), (8, 9, .iconst 0, []), (9, 10, .ireturn, [])]
/-- CoinTelescope.rowOf(I)I -/
def c196 : List (Nat × Nat × ClassFile.Instr × List Int) := [(0, 1, .iload_n 0, [0]), (1, 3, .bipush 6, []), (3, 4, .idiv, []), (4, 5, .ireturn, [])]
/-- CoinTelescope.columnOf(I)I -/
def c197 : List (Nat × Nat × ClassFile.Instr × List Int) := [(0, 1, .iload_n 0, [0]), (1, 3, .bipush 6, []), (3, 4, .irem, []), (4, 5, .ireturn, [])]
/-- CoinTelescope.far(II)I -/
def c198 : List (Nat × Nat × ClassFile.Instr × List Int) := [(0, 1, .iload_n 0, [0]), (1, 4, .invokestatic 254, [0, 1, 196]), (4, 5, .iload_n 1, [1]), (5, 8, .invokestatic 254, [0, 1, 196]), (8, 9, .isub, []), (9, 12, .invokestatic 257, [4]), (12, 13, .iload_n 0, [0]), (13, 16, .invokestatic 260, [0, 1, 197]), (16, 17, .iload_n 1, [1]), (17, 20, .invokestatic 260, [0, 1, 197]), (20, 21, .isub, []), (21, 24, .invokestatic 257, [4]), (24, 25, .iadd, []), (25, 26, .ireturn, [])]
/-- CoinTelescope.moved(II)I -/
def c199 : List (Nat × Nat × ClassFile.Instr × List Int) := [(0, 1, .iload_n 1, [1]), (1, 32, .tableswitch 95 1 4 #[31, 47, 63, 80], [96, 1, 32, 2, 48, 3, 64, 4, 81]), (32, 33, .iload_n 0, [0]), (33, 36, .invokestatic 254, [0, 1, 196]), (36, 39, .ifCond .le 10, [46]), (39, 40, .iload_n 0, [0]), (40, 42, .bipush 6, []), (42, 43, .isub, []), (43, 46, .goto 4, [47]), (46, 47, .iload_n 0, [0]), (47, 48, .ireturn, []), (48, 49, .iload_n 0, [0]), (49, 52, .invokestatic 260, [0, 1, 197]), (52, 53, .iconst 5, []), (53, 56, .if_icmp .ge 9, [62]), (56, 57, .iload_n 0, [0]), (57, 58, .iconst 1, []), (58, 59, .iadd, []), (59, 62, .goto 4, [63]), (62, 63, .iload_n 0, [0]), (63, 64, .ireturn, []), (64, 65, .iload_n 0, [0]), (65, 68, .invokestatic 254, [0, 1, 196]), (68, 69, .iconst 3, []), (69, 72, .if_icmp .ge 10, [79]), (72, 73, .iload_n 0, [0]), (73, 75, .bipush 6, []), (75, 76, .iadd, []), (76, 79, .goto 4, [80]), (79, 80, .iload_n 0, [0]), (80, 81, .ireturn, []), (81, 82, .iload_n 0, [0]), (82, 85, .invokestatic 260, [0, 1, 197]), (85, 88, .ifCond .le 9, [94]), (88, 89, .iload_n 0, [0]), (89, 90, .iconst 1, []), (90, 91, .isub, []), (91, 94, .goto 4, [95]), (94, 95, .iload_n 0, [0]), (95, 96, .ireturn, []), (96, 97, .iload_n 0, [0]), (97, 98, .ireturn, [])]
/-- CoinTelescope.partOf(III)J -/
def c200 : List (Nat × Nat × ClassFile.Instr × List Int) := [(0, 1, .iconst 1, []), (1, 2, .istore_n 3, [3]), (2, 3, .iconst 2, []), (3, 5, .istore 4, [4]), (5, 7, .iload 4, [4]), (7, 8, .iload_n 1, [1]), (8, 11, .if_icmp .gt 26, [34]), (11, 12, .iload_n 0, [0]), (12, 14, .iload 4, [4]), (14, 15, .irem, []), (15, 18, .ifCond .ne 13, [28]), (18, 19, .iload_n 1, [1]), (19, 21, .iload 4, [4]), (21, 22, .irem, []), (22, 25, .ifCond .ne 6, [28]), (25, 27, .iload 4, [4]), (27, 28, .istore_n 3, [3]), (28, 31, .iinc 4 1, [4, 1]), (31, 34, .goto (-26), [5]), (34, 35, .iload_n 2, [2]), (35, 38, .ifCond .ne 7, [42]), (38, 39, .iload_n 0, [0]), (39, 42, .goto 4, [43]), (42, 43, .iload_n 1, [1]), (43, 44, .iload_n 3, [3]), (44, 45, .idiv, []), (45, 46, .i2l, []), (46, 47, .lreturn, [])]
/-- CoinTelescope.isOfKind(LCoinTelescope$Thing;I)Z -/
def c201 : List (Nat × Nat × ClassFile.Instr × List Int) := [(0, 1, .iload_n 1, [1]), (1, 40, .tableswitch 66 0 5 #[39, 41, 46, 51, 56, 61], [67, 0, 40, 1, 42, 2, 47, 3, 52, 4, 57, 5, 62]), (40, 41, .iconst 1, []), (41, 42, .ireturn, []), (42, 43, .aload_n 0, [0]), (43, 46, .instanceof 263, [2, 5]), (46, 47, .ireturn, []), (47, 48, .aload_n 0, [0]), (48, 51, .instanceof 265, [3, 6]), (51, 52, .ireturn, []), (52, 53, .aload_n 0, [0]), (53, 56, .instanceof 267, [1, 10]), (56, 57, .ireturn, []), (57, 58, .aload_n 0, [0]), (58, 61, .instanceof 269, [5]), (61, 62, .ireturn, []), (62, 63, .aload_n 0, [0]), (63, 66, .instanceof 271, [6]), (66, 67, .ireturn, []), (67, 68, .aload_n 0, [0]), (68, 71, .instanceof 273, [10]), (71, 72, .ireturn, [])]
/-- CoinTelescope.newThing(III)LCoinTelescope$Thing; -/
def c202 : List (Nat × Nat × ClassFile.Instr × List Int) := [(0, 1, .iload_n 1, [1]), (1, 40, .tableswitch 129 1 6 #[39, 54, 69, 84, 99, 114], [130, 1, 40, 2, 55, 3, 70, 4, 85, 5, 100, 6, 115]), (40, 43, .new 263, [2, 4]), (43, 44, .dup, []), (44, 45, .iload_n 1, [1]), (45, 46, .iload_n 2, [2]), (46, 47, .iload_n 3, [3]), (47, 48, .aload_n 0, [0]), (48, 51, .getfield 26, [2, 1, 12]), (51, 54, .invokespecial 275, [1, 4, 98]), (54, 55, .areturn, []), (55, 58, .new 265, [3, 4]), (58, 59, .dup, []), (59, 60, .iload_n 1, [1]), (60, 61, .iload_n 2, [2]), (61, 62, .iload_n 3, [3]), (62, 63, .aload_n 0, [0]), (63, 66, .getfield 26, [2, 1, 12]), (66, 69, .invokespecial 278, [1, 4, 102]), (69, 70, .areturn, []), (70, 73, .new 267, [1, 4]), (73, 74, .dup, []), (74, 75, .iload_n 1, [1]), (75, 76, .iload_n 2, [2]), (76, 77, .iload_n 3, [3]), (77, 78, .aload_n 0, [0]), (78, 81, .getfield 26, [2, 1, 12]), (81, 84, .invokespecial 279, [1, 4, 94]), (84, 85, .areturn, []), (85, 88, .new 269, [5, 4]), (88, 89, .dup, []), (89, 90, .iload_n 1, [1]), (90, 91, .iload_n 2, [2]), (91, 92, .iload_n 3, [3]), (92, 93, .aload_n 0, [0]), (93, 96, .getfield 26, [2, 1, 12]), (96, 99, .invokespecial 280, [1, 4, 105]), (99, 100, .areturn, []), (100, 103, .new 271, [6, 4]), (103, 104, .dup, []), (104, 105, .iload_n 1, [1]), (105, 106, .iload_n 2, [2]), (106, 107, .iload_n 3, [3]), (107, 108, .aload_n 0, [0]), (108, 111, .getfield 26, [2, 1, 12]), (111, 114, .invokespecial 281, [1, 4, 109]), (114, 115, .areturn, []), (115, 118, .new 273, [10, 4]), (118, 119, .dup, []), (119, 120, .iload_n 1, [1]), (120, 121, .iload_n 2, [2]), (121, 122, .iload_n 3, [3]), (122, 123, .aload_n 0, [0]), (123, 126, .getfield 26, [2, 1, 12]), (126, 129, .invokespecial 282, [1, 4, 113]), (129, 130, .areturn, []), (130, 133, .new 101, [9, 4]), (133, 134, .dup, []), (134, 135, .iload_n 1, [1]), (135, 136, .iload_n 2, [2]), (136, 137, .iload_n 3, [3]), (137, 138, .aload_n 0, [0]), (138, 141, .getfield 26, [2, 1, 12]), (141, 144, .invokespecial 283, [1, 4, 87]), (144, 145, .areturn, [])]
/-- CoinTelescope.lostByACoin()I -/
def c203 : List (Nat × Nat × ClassFile.Instr × List Int) := [(0, 1, .aload_n 0, [0]), (1, 4, .getfield 12, [0, 1, 12]), (4, 7, .getfield 77, [1, 1, 7]), (7, 10, .getfield 156, [1, 0, 11]), (10, 13, .ifCond .le 31, [41]), (13, 14, .iconst 0, []), (14, 15, .aload_n 0, [0]), (15, 18, .getfield 12, [0, 1, 12]), (18, 21, .getfield 77, [1, 1, 7]), (21, 24, .getfield 153, [0, 0, 11]), (24, 25, .aload_n 0, [0]), (25, 28, .getfield 12, [0, 1, 12]), (28, 31, .getfield 159, [10, 0, 7]), (31, 32, .iadd, []), (32, 34, .bipush 99, []), (34, 35, .isub, []), (35, 38, .invokestatic 189, [2]), (38, 41, .goto 10, [48]), (41, 42, .aload_n 0, [0]), (42, 45, .getfield 12, [0, 1, 12]), (45, 48, .getfield 159, [10, 0, 7]), (48, 49, .ireturn, [])]
/-- java/util/Arrays.fill([II)V -/
def c204 : List (Nat × Nat × ClassFile.Instr × List Int) := [(0, 1, .iconst 0, []), (1, 2, .istore_n 2, [2]), (2, 3, .aload_n 0, [0]), (3, 4, .arraylength, []), (4, 5, .istore_n 3, [3]), (5, 6, .iload_n 2, [2]), (6, 7, .iload_n 3, [3]), (7, 10, .if_icmp .ge 13, [20]), (10, 11, .aload_n 0, [0]), (11, 12, .iload_n 2, [2]), (12, 13, .iload_n 1, [1]), (13, 14, .iastore, []), (14, 17, .iinc 2 1, [2, 1]), (17, 20, .goto (-12), [5]), (20, 21, .return_, [])]
/-- java/lang/String.length()I -/
def c205 : List (Nat × Nat × ClassFile.Instr × List Int) := [(0, 1, .aload_n 0, [0]), (1, 4, .getfield 9, [0, 3, 500]), (4, 5, .arraylength, []), (5, 6, .aload_n 0, [0]), (6, 9, .invokevirtual 335, [0, 500, 209, 0]), (9, 10, .ishr, []), (10, 11, .ireturn, [])]
/-- java/lang/String.charAt(I)C -/
def c206 : List (Nat × Nat × ClassFile.Instr × List Int) := [(0, 1, .aload_n 0, [0]), (1, 4, .invokevirtual 492, [0, 500, 210, 0]), (4, 7, .ifCond .eq 12, [16]), (7, 8, .aload_n 0, [0]), (8, 11, .getfield 9, [0, 3, 500]), (11, 12, .iload_n 1, [1]), (12, 15, .invokestatic 495, [0, 2, 212]), (15, 16, .ireturn, []), (16, 17, .aload_n 0, [0]), (17, 20, .getfield 9, [0, 3, 500]), (20, 21, .iload_n 1, [1]), (21, 24, .invokestatic 498, [9]), (24, 25, .ireturn, [])]
/-- java/lang/String.indexOf(I)I -/
def c207 : List (Nat × Nat × ClassFile.Instr × List Int) := [(0, 1, .aload_n 0, [0]), (1, 2, .iload_n 1, [1]), (2, 3, .iconst 0, []), (3, 6, .invokevirtual 633, [2, 500, 208, 0]), (6, 7, .ireturn, [])]
/-- java/lang/String.indexOf(II)I -/
def c208 : List (Nat × Nat × ClassFile.Instr × List Int) := [(0, 1, .aload_n 0, [0]), (1, 4, .invokevirtual 492, [0, 500, 210, 0]), (4, 7, .ifCond .eq 19, [23]), (7, 8, .aload_n 0, [0]), (8, 11, .getfield 9, [0, 3, 500]), (11, 12, .iload_n 1, [1]), (12, 13, .iload_n 2, [2]), (13, 14, .aload_n 0, [0]), (14, 17, .invokevirtual 505, [0, 500, 205, 0]), (17, 20, .invokestatic 637, [0, 4, 214]), (20, 23, .goto 16, [36]), (23, 24, .aload_n 0, [0]), (24, 27, .getfield 9, [0, 3, 500]), (27, 28, .iload_n 1, [1]), (28, 29, .iload_n 2, [2]), (29, 30, .aload_n 0, [0]), (30, 33, .invokevirtual 505, [0, 500, 205, 0]), (33, 36, .invokestatic 640, [9]), (36, 37, .ireturn, [])]
/-- java/lang/String.coder()B -/
def c209 : List (Nat × Nat × ClassFile.Instr × List Int) := [(0, 3, .getstatic 38, [0]), (3, 6, .ifCond .eq 10, [13]), (6, 7, .aload_n 0, [0]), (7, 10, .getfield 15, [0, 4, 500]), (10, 13, .goto 4, [14]), (13, 14, .iconst 1, []), (14, 15, .ireturn, [])]
/-- java/lang/String.isLatin1()Z -/
def c210 : List (Nat × Nat × ClassFile.Instr × List Int) := [(0, 3, .getstatic 38, [0]), (3, 6, .ifCond .eq 14, [17]), (6, 7, .aload_n 0, [0]), (7, 10, .getfield 15, [0, 4, 500]), (10, 13, .ifCond .ne 7, [17]), (13, 14, .iconst 1, []), (14, 17, .goto 4, [18]), (17, 18, .iconst 0, []), (18, 19, .ireturn, [])]
/-- java/lang/String.checkIndex(II)V -/
def c211 : List (Nat × Nat × ClassFile.Instr × List Int) := [(0, 1, .iload_n 0, [0]), (1, 2, .iload_n 1, [1]), (2, 5, .getstatic 1053, [1]), (5, 8, .invokestatic 1059, [0, 3, 216]), (8, 9, .pop, []), (9, 10, .return_, [])]
/-- java/lang/StringLatin1.charAt([BI)C -/
def c212 : List (Nat × Nat × ClassFile.Instr × List Int) := [(0, 1, .iload_n 1, [1]), (1, 2, .aload_n 0, [0]), (2, 3, .arraylength, []), (3, 6, .invokestatic 9, [0, 2, 211]), (6, 7, .aload_n 0, [0]), (7, 8, .iload_n 1, [1]), (8, 9, .baload, []), (9, 12, .sipush 255, []), (12, 13, .iand, []), (13, 14, .i2c, []), (14, 15, .ireturn, [])]
/-- java/lang/StringLatin1.canEncode(I)Z -/
def c213 : List (Nat × Nat × ClassFile.Instr × List Int) := [(0, 1, .iload_n 0, [0]), (1, 4, .ifCond .lt 14, [15]), (4, 5, .iload_n 0, [0]), (5, 8, .sipush 255, []), (8, 11, .if_icmp .gt 7, [15]), (11, 12, .iconst 1, []), (12, 15, .goto 4, [16]), (15, 16, .iconst 0, []), (16, 17, .ireturn, [])]
/-- java/lang/StringLatin1.indexOf([BIII)I -/
def c214 : List (Nat × Nat × ClassFile.Instr × List Int) := [(0, 1, .iload_n 1, [1]), (1, 4, .invokestatic 88, [0, 1, 213]), (4, 7, .ifCond .ne 5, [9]), (7, 8, .iconst (-1), []), (8, 9, .ireturn, []), (9, 10, .iload_n 2, [2]), (10, 11, .iconst 0, []), (11, 14, .invokestatic 92, [2]), (14, 15, .istore_n 2, [2]), (15, 16, .iload_n 3, [3]), (16, 17, .aload_n 0, [0]), (17, 18, .arraylength, []), (18, 21, .invokestatic 38, [3]), (21, 22, .istore_n 3, [3]), (22, 23, .iload_n 2, [2]), (23, 24, .iload_n 3, [3]), (24, 27, .if_icmp .lt 5, [29]), (27, 28, .iconst (-1), []), (28, 29, .ireturn, []), (29, 30, .aload_n 0, [0]), (30, 31, .iload_n 1, [1]), (31, 32, .iload_n 2, [2]), (32, 33, .iload_n 3, [3]), (33, 36, .invokestatic 95, [0, 4, 215]), (36, 37, .ireturn, [])]
/-- java/lang/StringLatin1.indexOfChar([BIII)I -/
def c215 : List (Nat × Nat × ClassFile.Instr × List Int) := [(0, 1, .iload_n 1, [1]), (1, 2, .i2b, []), (2, 4, .istore 4, [4]), (4, 5, .iload_n 2, [2]), (5, 7, .istore 5, [5]), (7, 9, .iload 5, [5]), (9, 10, .iload_n 3, [3]), (10, 13, .if_icmp .ge 21, [31]), (13, 14, .aload_n 0, [0]), (14, 16, .iload 5, [5]), (16, 17, .baload, []), (17, 19, .iload 4, [4]), (19, 22, .if_icmp .ne 6, [25]), (22, 24, .iload 5, [5]), (24, 25, .ireturn, []), (25, 28, .iinc 5 1, [5, 1]), (28, 31, .goto (-21), [7]), (31, 32, .iconst (-1), []), (32, 33, .ireturn, [])]
/-- jdk/internal/util/Preconditions.checkIndex(IILjava/util/function/BiFunction;)I -/
def c216 : List (Nat × Nat × ClassFile.Instr × List Int) := [(0, 1, .iload_n 0, [0]), (1, 4, .ifCond .lt 8, [9]), (4, 5, .iload_n 0, [0]), (5, 6, .iload_n 1, [1]), (6, 9, .if_icmp .lt 10, [16]), (9, 10, .aload_n 2, [2]), (10, 11, .iload_n 0, [0]), (11, 12, .iload_n 1, [1]), (12, 15, .invokestatic 95, [9]), (15, 16, .athrow, []), (16, 17, .iload_n 0, [0]), (17, 18, .ireturn, [])]
/-- CoinTelescopeLaw.law([I)Z -/
def c217 : List (Nat × Nat × ClassFile.Instr × List Int) := [(0, 3, .new 7, [12, 5]), (3, 4, .dup, []), (4, 7, .invokespecial 9, [1, 0, 158]), (7, 8, .astore_n 1, [1]), (8, 11, .new 10, [13, 23]), (11, 12, .dup, []), (12, 15, .invokespecial 12, [1, 0, 0]), (15, 16, .astore_n 2, [2]), (16, 17, .iconst 0, []), (17, 18, .istore_n 3, [3]), (18, 19, .iload_n 3, [3]), (19, 20, .aload_n 0, [0]), (20, 21, .arraylength, []), (21, 22, .iconst 4, []), (22, 23, .isub, []), (23, 26, .if_icmp .gt 1063, [1086]), (26, 27, .aload_n 0, [0]), (27, 28, .iload_n 3, [3]), (28, 29, .iaload, []), (29, 31, .bipush 31, []), (31, 32, .iand, []), (32, 176, .tableswitch 1048 0 31 #[144, 167, 180, 223, 256, 299, 342, 375, 424, 447, 470, 483, 506, 529, 562, 595, 618, 641, 684, 707, 740, 784, 808, 831, 854, 887, 900, 943, 966, 999, 1012, 1025], [1080, 0, 176, 1, 199, 2, 212, 3, 255, 4, 288, 5, 331, 6, 374, 7, 407, 8, 456, 9, 479, 10, 502, 11, 515, 12, 538, 13, 561, 14, 594, 15, 627, 16, 650, 17, 673, 18, 716, 19, 739, 20, 772, 21, 816, 22, 840, 23, 863, 24, 886, 25, 919, 26, 932, 27, 975, 28, 998, 29, 1031, 30, 1044, 31, 1057]), (176, 177, .aload_n 1, [1]), (177, 178, .aload_n 0, [0]), (178, 179, .iload_n 3, [3]), (179, 180, .iconst 1, []), (180, 181, .iadd, []), (181, 182, .iaload, []), (182, 185, .invokevirtual 13, [1, 12, 159, 0]), (185, 186, .aload_n 2, [2]), (186, 187, .aload_n 0, [0]), (187, 188, .iload_n 3, [3]), (188, 189, .iconst 1, []), (189, 190, .iadd, []), (190, 191, .iaload, []), (191, 194, .invokevirtual 17, [1, 13, 9, 0]), (194, 197, .if_icmp .eq 886, [1080]), (197, 198, .iconst 0, []), (198, 199, .ireturn, []), (199, 200, .aload_n 1, [1]), (200, 203, .invokevirtual 18, [0, 12, 160, 0]), (203, 204, .aload_n 2, [2]), (204, 207, .invokevirtual 22, [0, 13, 23, 0]), (207, 210, .if_icmp .eq 873, [1080]), (210, 211, .iconst 0, []), (211, 212, .ireturn, []), (212, 213, .aload_n 1, [1]), (213, 214, .aload_n 0, [0]), (214, 215, .iload_n 3, [3]), (215, 216, .iconst 1, []), (216, 217, .iadd, []), (217, 218, .iaload, []), (218, 219, .aload_n 0, [0]), (219, 220, .iload_n 3, [3]), (220, 221, .iconst 2, []), (221, 222, .iadd, []), (222, 223, .iaload, []), (223, 224, .aload_n 0, [0]), (224, 225, .iload_n 3, [3]), (225, 226, .iconst 3, []), (226, 227, .iadd, []), (227, 228, .iaload, []), (228, 231, .invokevirtual 23, [3, 12, 161, 0]), (231, 232, .aload_n 2, [2]), (232, 233, .aload_n 0, [0]), (233, 234, .iload_n 3, [3]), (234, 235, .iconst 1, []), (235, 236, .iadd, []), (236, 237, .iaload, []), (237, 238, .aload_n 0, [0]), (238, 239, .iload_n 3, [3]), (239, 240, .iconst 2, []), (240, 241, .iadd, []), (241, 242, .iaload, []), (242, 243, .aload_n 0, [0]), (243, 244, .iload_n 3, [3]), (244, 245, .iconst 3, []), (245, 246, .iadd, []), (246, 247, .iaload, []), (247, 250, .invokevirtual 27, [3, 13, 30, 0]), (250, 253, .if_icmp .eq 830, [1080]), (253, 254, .iconst 0, []), (254, 255, .ireturn, []), (255, 256, .aload_n 1, [1]), (256, 257, .aload_n 0, [0]), (257, 258, .iload_n 3, [3]), (258, 259, .iconst 1, []), (259, 260, .iadd, []), (260, 261, .iaload, []), (261, 262, .aload_n 0, [0]), (262, 263, .iload_n 3, [3]), (263, 264, .iconst 2, []), (264, 265, .iadd, []), (265, 266, .iaload, []), (266, 269, .invokevirtual 28, [2, 12, 162, 0]), (269, 270, .aload_n 2, [2]), (270, 271, .aload_n 0, [0]), (271, 272, .iload_n 3, [3]), (272, 273, .iconst 1, []), (273, 274, .iadd, []), (274, 275, .iaload, []), (275, 276, .aload_n 0, [0]), (276, 277, .iload_n 3, [3]), (277, 278, .iconst 2, []), (278, 279, .iadd, []), (279, 280, .iaload, []), (280, 283, .invokevirtual 32, [2, 13, 31, 0]), (283, 286, .if_icmp .eq 797, [1080]), (286, 287, .iconst 0, []), (287, 288, .ireturn, []), (288, 289, .aload_n 1, [1]), (289, 290, .aload_n 0, [0]), (290, 291, .iload_n 3, [3]), (291, 292, .iconst 1, []), (292, 293, .iadd, []), (293, 294, .iaload, []), (294, 295, .aload_n 0, [0]), (295, 296, .iload_n 3, [3]), (296, 297, .iconst 2, []), (297, 298, .iadd, []), (298, 299, .iaload, []), (299, 300, .aload_n 0, [0]), (300, 301, .iload_n 3, [3]), (301, 302, .iconst 3, []), (302, 303, .iadd, []), (303, 304, .iaload, []), (304, 307, .invokevirtual 33, [3, 12, 163, 0]), (307, 308, .aload_n 2, [2]), (308, 309, .aload_n 0, [0]), (309, 310, .iload_n 3, [3]), (310, 311, .iconst 1, []), (311, 312, .iadd, []), (312, 313, .iaload, []), (313, 314, .aload_n 0, [0]), (314, 315, .iload_n 3, [3]), (315, 316, .iconst 2, []), (316, 317, .iadd, []), (317, 318, .iaload, []), (318, 319, .aload_n 0, [0]), (319, 320, .iload_n 3, [3]), (320, 321, .iconst 3, []), (321, 322, .iadd, []), (322, 323, .iaload, []), (323, 326, .invokevirtual 36, [3, 13, 32, 0]), (326, 329, .if_icmp .eq 754, [1080]), (329, 330, .iconst 0, []), (330, 331, .ireturn, []), (331, 332, .aload_n 1, [1]), (332, 333, .aload_n 0, [0]), (333, 334, .iload_n 3, [3]), (334, 335, .iconst 1, []), (335, 336, .iadd, []), (336, 337, .iaload, []), (337, 338, .aload_n 0, [0]), (338, 339, .iload_n 3, [3]), (339, 340, .iconst 2, []), (340, 341, .iadd, []), (341, 342, .iaload, []), (342, 343, .aload_n 0, [0]), (343, 344, .iload_n 3, [3]), (344, 345, .iconst 3, []), (345, 346, .iadd, []), (346, 347, .iaload, []), (347, 350, .invokevirtual 37, [3, 12, 164, 0]), (350, 351, .aload_n 2, [2]), (351, 352, .aload_n 0, [0]), (352, 353, .iload_n 3, [3]), (353, 354, .iconst 1, []), (354, 355, .iadd, []), (355, 356, .iaload, []), (356, 357, .aload_n 0, [0]), (357, 358, .iload_n 3, [3]), (358, 359, .iconst 2, []), (359, 360, .iadd, []), (360, 361, .iaload, []), (361, 362, .aload_n 0, [0]), (362, 363, .iload_n 3, [3]), (363, 364, .iconst 3, []), (364, 365, .iadd, []), (365, 366, .iaload, []), (366, 369, .invokevirtual 40, [3, 13, 34, 0]), (369, 372, .if_icmp .eq 711, [1080]), (372, 373, .iconst 0, []), (373, 374, .ireturn, []), (374, 375, .aload_n 1, [1]), (375, 376, .aload_n 0, [0]), (376, 377, .iload_n 3, [3]), (377, 378, .iconst 1, []), (378, 379, .iadd, []), (379, 380, .iaload, []), (380, 381, .aload_n 0, [0]), (381, 382, .iload_n 3, [3]), (382, 383, .iconst 2, []), (383, 384, .iadd, []), (384, 385, .iaload, []), (385, 388, .invokevirtual 41, [2, 12, 165, 0]), (388, 389, .aload_n 2, [2]), (389, 390, .aload_n 0, [0]), (390, 391, .iload_n 3, [3]), (391, 392, .iconst 1, []), (392, 393, .iadd, []), (393, 394, .iaload, []), (394, 395, .aload_n 0, [0]), (395, 396, .iload_n 3, [3]), (396, 397, .iconst 2, []), (397, 398, .iadd, []), (398, 399, .iaload, []), (399, 402, .invokevirtual 44, [2, 13, 35, 0]), (402, 405, .if_icmp .eq 678, [1080]), (405, 406, .iconst 0, []), (406, 407, .ireturn, []), (407, 408, .aload_n 1, [1]), (408, 409, .aload_n 0, [0]), (409, 410, .iload_n 3, [3]), (410, 411, .iconst 1, []), (411, 412, .iadd, []), (412, 413, .iaload, []), (413, 414, .aload_n 0, [0]), (414, 415, .iload_n 3, [3]), (415, 416, .iconst 2, []), (416, 417, .iadd, []), (417, 418, .iaload, []), (418, 421, .ifCond .eq 7, [425]), (421, 422, .iconst 1, []), (422, 425, .goto 4, [426]), (425, 426, .iconst 0, []), (426, 429, .invokevirtual 45, [2, 12, 166, 0]), (429, 430, .aload_n 2, [2]), (430, 431, .aload_n 0, [0]), (431, 432, .iload_n 3, [3]), (432, 433, .iconst 1, []), (433, 434, .iadd, []), (434, 435, .iaload, []), (435, 436, .aload_n 0, [0]), (436, 437, .iload_n 3, [3]), (437, 438, .iconst 2, []), (438, 439, .iadd, []), (439, 440, .iaload, []), (440, 443, .ifCond .eq 7, [447]), (443, 444, .iconst 1, []), (444, 447, .goto 4, [448]), (447, 448, .iconst 0, []), (448, 451, .invokevirtual 49, [2, 13, 36, 0]), (451, 454, .if_icmp .eq 629, [1080]), (454, 455, .iconst 0, []), (455, 456, .ireturn, []), (456, 457, .aload_n 1, [1]), (457, 458, .aload_n 0, [0]), (458, 459, .iload_n 3, [3]), (459, 460, .iconst 1, []), (460, 461, .iadd, []), (461, 462, .iaload, []), (462, 465, .invokevirtual 50, [1, 12, 167, 0]), (465, 466, .aload_n 2, [2]), (466, 467, .aload_n 0, [0]), (467, 468, .iload_n 3, [3]), (468, 469, .iconst 1, []), (469, 470, .iadd, []), (470, 471, .iaload, []), (471, 474, .invokevirtual 53, [1, 13, 37, 0]), (474, 477, .if_icmp .eq 606, [1080]), (477, 478, .iconst 0, []), (478, 479, .ireturn, []), (479, 480, .aload_n 1, [1]), (480, 481, .aload_n 0, [0]), (481, 482, .iload_n 3, [3]), (482, 483, .iconst 1, []), (483, 484, .iadd, []), (484, 485, .iaload, []), (485, 488, .invokevirtual 54, [1, 12, 168, 0]), (488, 489, .aload_n 2, [2]), (489, 490, .aload_n 0, [0]), (490, 491, .iload_n 3, [3]), (491, 492, .iconst 1, []), (492, 493, .iadd, []), (493, 494, .iaload, []), (494, 497, .invokevirtual 57, [1, 13, 40, 0]), (497, 500, .if_icmp .eq 583, [1080]), (500, 501, .iconst 0, []), (501, 502, .ireturn, []), (502, 503, .aload_n 1, [1]), (503, 506, .invokevirtual 58, [0, 12, 169, 0]), (506, 507, .aload_n 2, [2]), (507, 510, .invokevirtual 61, [0, 13, 41, 0]), (510, 513, .if_icmp .eq 570, [1080]), (513, 514, .iconst 0, []), (514, 515, .ireturn, []), (515, 516, .aload_n 1, [1]), (516, 517, .aload_n 0, [0]), (517, 518, .iload_n 3, [3]), (518, 519, .iconst 1, []), (519, 520, .iadd, []), (520, 521, .iaload, []), (521, 524, .invokevirtual 62, [1, 12, 170, 0]), (524, 525, .aload_n 2, [2]), (525, 526, .aload_n 0, [0]), (526, 527, .iload_n 3, [3]), (527, 528, .iconst 1, []), (528, 529, .iadd, []), (529, 530, .iaload, []), (530, 533, .invokevirtual 65, [1, 13, 44, 0]), (533, 536, .if_icmp .eq 547, [1080]), (536, 537, .iconst 0, []), (537, 538, .ireturn, []), (538, 539, .aload_n 1, [1]), (539, 540, .aload_n 0, [0]), (540, 541, .iload_n 3, [3]), (541, 542, .iconst 1, []), (542, 543, .iadd, []), (543, 544, .iaload, []), (544, 547, .invokevirtual 66, [1, 12, 171, 0]), (547, 548, .aload_n 2, [2]), (548, 549, .aload_n 0, [0]), (549, 550, .iload_n 3, [3]), (550, 551, .iconst 1, []), (551, 552, .iadd, []), (552, 553, .iaload, []), (553, 556, .invokevirtual 69, [1, 13, 45, 0]), (556, 559, .if_icmp .eq 524, [1080]), (559, 560, .iconst 0, []), (560, 561, .ireturn, []), (561, 562, .aload_n 1, [1]), (562, 563, .aload_n 0, [0]), (563, 564, .iload_n 3, [3]), (564, 565, .iconst 1, []), (565, 566, .iadd, []), (566, 567, .iaload, []), (567, 568, .aload_n 0, [0]), (568, 569, .iload_n 3, [3]), (569, 570, .iconst 2, []), (570, 571, .iadd, []), (571, 572, .iaload, []), (572, 575, .invokevirtual 70, [2, 12, 172, 0]), (575, 576, .aload_n 2, [2]), (576, 577, .aload_n 0, [0]), (577, 578, .iload_n 3, [3]), (578, 579, .iconst 1, []), (579, 580, .iadd, []), (580, 581, .iaload, []), (581, 582, .aload_n 0, [0]), (582, 583, .iload_n 3, [3]), (583, 584, .iconst 2, []), (584, 585, .iadd, []), (585, 586, .iaload, []), (586, 589, .invokevirtual 73, [2, 13, 48, 0]), (589, 592, .if_icmp .eq 491, [1080]), (592, 593, .iconst 0, []), (593, 594, .ireturn, []), (594, 595, .aload_n 1, [1]), (595, 596, .aload_n 0, [0]), (596, 597, .iload_n 3, [3]), (597, 598, .iconst 1, []), (598, 599, .iadd, []), (599, 600, .iaload, []), (600, 601, .aload_n 0, [0]), (601, 602, .iload_n 3, [3]), (602, 603, .iconst 2, []), (603, 604, .iadd, []), (604, 605, .iaload, []), (605, 608, .invokevirtual 74, [2, 12, 173, 0]), (608, 609, .aload_n 2, [2]), (609, 610, .aload_n 0, [0]), (610, 611, .iload_n 3, [3]), (611, 612, .iconst 1, []), (612, 613, .iadd, []), (613, 614, .iaload, []), (614, 615, .aload_n 0, [0]), (615, 616, .iload_n 3, [3]), (616, 617, .iconst 2, []), (617, 618, .iadd, []), (618, 619, .iaload, []), (619, 622, .invokevirtual 77, [2, 13, 49, 0]), (622, 625, .if_icmp .eq 458, [1080]), (625, 626, .iconst 0, []), (626, 627, .ireturn, []), (627, 628, .aload_n 1, [1]), (628, 629, .aload_n 0, [0]), (629, 630, .iload_n 3, [3]), (630, 631, .iconst 1, []), (631, 632, .iadd, []), (632, 633, .iaload, []), (633, 636, .invokevirtual 78, [1, 12, 174, 0]), (636, 637, .aload_n 2, [2]), (637, 638, .aload_n 0, [0]), (638, 639, .iload_n 3, [3]), (639, 640, .iconst 1, []), (640, 641, .iadd, []), (641, 642, .iaload, []), (642, 645, .invokevirtual 81, [1, 13, 51, 0]), (645, 648, .if_icmp .eq 435, [1080]), (648, 649, .iconst 0, []), (649, 650, .ireturn, []), (650, 651, .aload_n 1, [1]), (651, 652, .aload_n 0, [0]), (652, 653, .iload_n 3, [3]), (653, 654, .iconst 1, []), (654, 655, .iadd, []), (655, 656, .iaload, []), (656, 659, .invokevirtual 82, [1, 12, 175, 0]), (659, 660, .aload_n 2, [2]), (660, 661, .aload_n 0, [0]), (661, 662, .iload_n 3, [3]), (662, 663, .iconst 1, []), (663, 664, .iadd, []), (664, 665, .iaload, []), (665, 668, .invokevirtual 85, [1, 13, 53, 0]), (668, 671, .if_icmp .eq 412, [1080]), (671, 672, .iconst 0, []), (672, 673, .ireturn, []), (673, 674, .aload_n 1, [1]), (674, 675, .aload_n 0, [0]), (675, 676, .iload_n 3, [3]), (676, 677, .iconst 1, []), (677, 678, .iadd, []), (678, 679, .iaload, []), (679, 680, .aload_n 0, [0]), (680, 681, .iload_n 3, [3]), (681, 682, .iconst 2, []), (682, 683, .iadd, []), (683, 684, .iaload, []), (684, 685, .aload_n 0, [0]), (685, 686, .iload_n 3, [3]), (686, 687, .iconst 3, []), (687, 688, .iadd, []), (688, 689, .iaload, []), (689, 692, .invokevirtual 86, [3, 12, 176, 0]), (692, 693, .aload_n 2, [2]), (693, 694, .aload_n 0, [0]), (694, 695, .iload_n 3, [3]), (695, 696, .iconst 1, []), (696, 697, .iadd, []), (697, 698, .iaload, []), (698, 699, .aload_n 0, [0]), (699, 700, .iload_n 3, [3]), (700, 701, .iconst 2, []), (701, 702, .iadd, []), (702, 703, .iaload, []), (703, 704, .aload_n 0, [0]), (704, 705, .iload_n 3, [3]), (705, 706, .iconst 3, []), (706, 707, .iadd, []), (707, 708, .iaload, []), (708, 711, .invokevirtual 89, [3, 13, 54, 0]), (711, 714, .if_icmp .eq 369, [1080]), (714, 715, .iconst 0, []), (715, 716, .ireturn, []), (716, 717, .aload_n 1, [1]), (717, 718, .aload_n 0, [0]), (718, 719, .iload_n 3, [3]), (719, 720, .iconst 1, []), (720, 721, .iadd, []), (721, 722, .iaload, []), (722, 725, .invokevirtual 90, [1, 12, 177, 0]), (725, 726, .aload_n 2, [2]), (726, 727, .aload_n 0, [0]), (727, 728, .iload_n 3, [3]), (728, 729, .iconst 1, []), (729, 730, .iadd, []), (730, 731, .iaload, []), (731, 734, .invokevirtual 93, [1, 13, 56, 0]), (734, 737, .if_icmp .eq 346, [1080]), (737, 738, .iconst 0, []), (738, 739, .ireturn, []), (739, 740, .aload_n 1, [1]), (740, 741, .aload_n 0, [0]), (741, 742, .iload_n 3, [3]), (742, 743, .iconst 1, []), (743, 744, .iadd, []), (744, 745, .iaload, []), (745, 746, .aload_n 0, [0]), (746, 747, .iload_n 3, [3]), (747, 748, .iconst 2, []), (748, 749, .iadd, []), (749, 750, .iaload, []), (750, 753, .invokevirtual 94, [2, 12, 178, 0]), (753, 754, .aload_n 2, [2]), (754, 755, .aload_n 0, [0]), (755, 756, .iload_n 3, [3]), (756, 757, .iconst 1, []), (757, 758, .iadd, []), (758, 759, .iaload, []), (759, 760, .aload_n 0, [0]), (760, 761, .iload_n 3, [3]), (761, 762, .iconst 2, []), (762, 763, .iadd, []), (763, 764, .iaload, []), (764, 767, .invokevirtual 97, [2, 13, 57, 0]), (767, 770, .if_icmp .eq 313, [1080]), (770, 771, .iconst 0, []), (771, 772, .ireturn, []), (772, 773, .aload_n 1, [1]), (773, 774, .aload_n 0, [0]), (774, 775, .iload_n 3, [3]), (775, 776, .iconst 1, []), (776, 777, .iadd, []), (777, 778, .iaload, []), (778, 779, .aload_n 0, [0]), (779, 780, .iload_n 3, [3]), (780, 781, .iconst 2, []), (781, 782, .iadd, []), (782, 783, .iaload, []), (783, 784, .aload_n 0, [0]), (784, 785, .iload_n 3, [3]), (785, 786, .iconst 3, []), (786, 787, .iadd, []), (787, 788, .iaload, []), (788, 791, .invokevirtual 98, [3, 12, 179, 0]), (791, 792, .aload_n 2, [2]), (792, 793, .aload_n 0, [0]), (793, 794, .iload_n 3, [3]), (794, 795, .iconst 1, []), (795, 796, .iadd, []), (796, 797, .iaload, []), (797, 798, .aload_n 0, [0]), (798, 799, .iload_n 3, [3]), (799, 800, .iconst 2, []), (800, 801, .iadd, []), (801, 802, .iaload, []), (802, 803, .aload_n 0, [0]), (803, 804, .iload_n 3, [3]), (804, 805, .iconst 3, []), (805, 806, .iadd, []), (806, 807, .iaload, []), (807, 810, .invokevirtual 102, [3, 13, 59, 0]), (810, 811, .lcmp, []), (811, 814, .ifCond .eq 269, [1080]), (814, 815, .iconst 0, []), (815, 816, .ireturn, []), (816, 817, .aload_n 1, [1]), (817, 818, .aload_n 0, [0]), (818, 819, .iload_n 3, [3]), (819, 820, .iconst 1, []), (820, 821, .iadd, []), (821, 822, .iaload, []), (822, 825, .invokevirtual 103, [1, 12, 180, 0]), (825, 826, .aload_n 2, [2]), (826, 827, .aload_n 0, [0]), (827, 828, .iload_n 3, [3]), (828, 829, .iconst 1, []), (829, 830, .iadd, []), (830, 831, .iaload, []), (831, 834, .invokevirtual 107, [1, 13, 60, 0]), (834, 835, .lcmp, []), (835, 838, .ifCond .eq 245, [1080]), (838, 839, .iconst 0, []), (839, 840, .ireturn, []), (840, 841, .aload_n 1, [1]), (841, 842, .aload_n 0, [0]), (842, 843, .iload_n 3, [3]), (843, 844, .iconst 1, []), (844, 845, .iadd, []), (845, 846, .iaload, []), (846, 849, .invokevirtual 108, [1, 12, 181, 0]), (849, 850, .aload_n 2, [2]), (850, 851, .aload_n 0, [0]), (851, 852, .iload_n 3, [3]), (852, 853, .iconst 1, []), (853, 854, .iadd, []), (854, 855, .iaload, []), (855, 858, .invokevirtual 111, [1, 13, 61, 0]), (858, 861, .if_icmp .eq 222, [1080]), (861, 862, .iconst 0, []), (862, 863, .ireturn, []), (863, 864, .aload_n 1, [1]), (864, 865, .aload_n 0, [0]), (865, 866, .iload_n 3, [3]), (866, 867, .iconst 1, []), (867, 868, .iadd, []), (868, 869, .iaload, []), (869, 872, .invokevirtual 112, [1, 12, 182, 0]), (872, 873, .aload_n 2, [2]), (873, 874, .aload_n 0, [0]), (874, 875, .iload_n 3, [3]), (875, 876, .iconst 1, []), (876, 877, .iadd, []), (877, 878, .iaload, []), (878, 881, .invokevirtual 115, [1, 13, 62, 0]), (881, 884, .if_icmp .eq 199, [1080]), (884, 885, .iconst 0, []), (885, 886, .ireturn, []), (886, 887, .aload_n 1, [1]), (887, 888, .aload_n 0, [0]), (888, 889, .iload_n 3, [3]), (889, 890, .iconst 1, []), (890, 891, .iadd, []), (891, 892, .iaload, []), (892, 893, .aload_n 0, [0]), (893, 894, .iload_n 3, [3]), (894, 895, .iconst 2, []), (895, 896, .iadd, []), (896, 897, .iaload, []), (897, 900, .invokevirtual 116, [2, 12, 183, 0]), (900, 901, .aload_n 2, [2]), (901, 902, .aload_n 0, [0]), (902, 903, .iload_n 3, [3]), (903, 904, .iconst 1, []), (904, 905, .iadd, []), (905, 906, .iaload, []), (906, 907, .aload_n 0, [0]), (907, 908, .iload_n 3, [3]), (908, 909, .iconst 2, []), (909, 910, .iadd, []), (910, 911, .iaload, []), (911, 914, .invokevirtual 119, [2, 13, 63, 0]), (914, 917, .if_icmp .eq 166, [1080]), (917, 918, .iconst 0, []), (918, 919, .ireturn, []), (919, 920, .aload_n 1, [1]), (920, 923, .invokevirtual 120, [0, 12, 184, 0]), (923, 924, .aload_n 2, [2]), (924, 927, .invokevirtual 123, [0, 13, 64, 0]), (927, 930, .if_icmp .eq 153, [1080]), (930, 931, .iconst 0, []), (931, 932, .ireturn, []), (932, 933, .aload_n 1, [1]), (933, 934, .aload_n 0, [0]), (934, 935, .iload_n 3, [3]), (935, 936, .iconst 1, []), (936, 937, .iadd, []), (937, 938, .iaload, []), (938, 939, .aload_n 0, [0]), (939, 940, .iload_n 3, [3]), (940, 941, .iconst 2, []), (941, 942, .iadd, []), (942, 943, .iaload, []), (943, 944, .aload_n 0, [0]), (944, 945, .iload_n 3, [3]), (945, 946, .iconst 3, []), (946, 947, .iadd, []), (947, 948, .iaload, []), (948, 951, .invokevirtual 124, [3, 12, 185, 0]), (951, 952, .aload_n 2, [2]), (952, 953, .aload_n 0, [0]), (953, 954, .iload_n 3, [3]), (954, 955, .iconst 1, []), (955, 956, .iadd, []), (956, 957, .iaload, []), (957, 958, .aload_n 0, [0]), (958, 959, .iload_n 3, [3]), (959, 960, .iconst 2, []), (960, 961, .iadd, []), (961, 962, .iaload, []), (962, 963, .aload_n 0, [0]), (963, 964, .iload_n 3, [3]), (964, 965, .iconst 3, []), (965, 966, .iadd, []), (966, 967, .iaload, []), (967, 970, .invokevirtual 127, [3, 13, 73, 0]), (970, 973, .if_icmp .eq 110, [1080]), (973, 974, .iconst 0, []), (974, 975, .ireturn, []), (975, 976, .aload_n 1, [1]), (976, 977, .aload_n 0, [0]), (977, 978, .iload_n 3, [3]), (978, 979, .iconst 1, []), (979, 980, .iadd, []), (980, 981, .iaload, []), (981, 984, .invokevirtual 128, [1, 12, 186, 0]), (984, 985, .aload_n 2, [2]), (985, 986, .aload_n 0, [0]), (986, 987, .iload_n 3, [3]), (987, 988, .iconst 1, []), (988, 989, .iadd, []), (989, 990, .iaload, []), (990, 993, .invokevirtual 131, [1, 13, 74, 0]), (993, 996, .if_icmp .eq 87, [1080]), (996, 997, .iconst 0, []), (997, 998, .ireturn, []), (998, 999, .aload_n 1, [1]), (999, 1000, .aload_n 0, [0]), (1000, 1001, .iload_n 3, [3]), (1001, 1002, .iconst 1, []), (1002, 1003, .iadd, []), (1003, 1004, .iaload, []), (1004, 1005, .aload_n 0, [0]), (1005, 1006, .iload_n 3, [3]), (1006, 1007, .iconst 2, []), (1007, 1008, .iadd, []), (1008, 1009, .iaload, []), (1009, 1012, .invokevirtual 132, [2, 12, 187, 0]), (1012, 1013, .aload_n 2, [2]), (1013, 1014, .aload_n 0, [0]), (1014, 1015, .iload_n 3, [3]), (1015, 1016, .iconst 1, []), (1016, 1017, .iadd, []), (1017, 1018, .iaload, []), (1018, 1019, .aload_n 0, [0]), (1019, 1020, .iload_n 3, [3]), (1020, 1021, .iconst 2, []), (1021, 1022, .iadd, []), (1022, 1023, .iaload, []), (1023, 1026, .invokevirtual 135, [2, 13, 75, 0]), (1026, 1029, .if_icmp .eq 54, [1080]), (1029, 1030, .iconst 0, []), (1030, 1031, .ireturn, []), (1031, 1032, .aload_n 1, [1]), (1032, 1035, .invokevirtual 136, [0, 12, 188, 0]), (1035, 1036, .aload_n 2, [2]), (1036, 1039, .invokevirtual 139, [0, 13, 76, 0]), (1039, 1042, .if_icmp .eq 41, [1080]), (1042, 1043, .iconst 0, []), (1043, 1044, .ireturn, []), (1044, 1045, .aload_n 1, [1]), (1045, 1048, .invokevirtual 140, [0, 12, 189, 0]), (1048, 1049, .aload_n 2, [2]), (1049, 1052, .invokevirtual 143, [0, 13, 77, 0]), (1052, 1055, .if_icmp .eq 28, [1080]), (1055, 1056, .iconst 0, []), (1056, 1057, .ireturn, []), (1057, 1058, .aload_n 1, [1]), (1058, 1059, .aload_n 0, [0]), (1059, 1060, .iload_n 3, [3]), (1060, 1061, .iconst 1, []), (1061, 1062, .iadd, []), (1062, 1063, .iaload, []), (1063, 1066, .invokevirtual 144, [1, 12, 190, 0]), (1066, 1067, .aload_n 2, [2]), (1067, 1068, .aload_n 0, [0]), (1068, 1069, .iload_n 3, [3]), (1069, 1070, .iconst 1, []), (1070, 1071, .iadd, []), (1071, 1072, .iaload, []), (1072, 1075, .invokevirtual 147, [1, 13, 78, 0]), (1075, 1078, .if_icmp .eq 5, [1080]), (1078, 1079, .iconst 0, []), (1079, 1080, .ireturn, []), (1080, 1083, .iinc 3 4, [3, 4]), (1083, 1086, .goto (-1065), [18]), (1086, 1087, .iconst 1, []), (1087, 1088, .ireturn, [])]
def cT : List (List (Nat × Nat × ClassFile.Instr × List Int)) := [c0, c1, c2, c3, c4, c5, c6, c7, c8, c9, c10, c11, c12, c13, c14, c15, c16, c17, c18, c19, c20, c21, c22, c23, c24, c25, c26, c27, c28, c29, c30, c31, c32, c33, c34, c35, c36, c37, c38, c39, c40, c41, c42, c43, c44, c45, c46, c47, c48, c49, c50, c51, c52, c53, c54, c55, c56, c57, c58, c59, c60, c61, c62, c63, c64, c65, c66, c67, c68, c69, c70, c71, c72, c73, c74, c75, c76, c77, c78, c79, c80, c81, c82, c83, c84, c85, c86, c87, c88, c89, c90, c91, c92, c93, c94, c95, c96, c97, c98, c99, c100, c101, c102, c103, c104, c105, c106, c107, c108, c109, c110, c111, c112, c113, c114, c115, c116, c117, c118, c119, c120, c121, c122, c123, c124, c125, c126, c127, c128, c129, c130, c131, c132, c133, c134, c135, c136, c137, c138, c139, c140, c141, c142, c143, c144, c145, c146, c147, c148, c149, c150, c151, c152, c153, c154, c155, c156, c157, c158, c159, c160, c161, c162, c163, c164, c165, c166, c167, c168, c169, c170, c171, c172, c173, c174, c175, c176, c177, c178, c179, c180, c181, c182, c183, c184, c185, c186, c187, c188, c189, c190, c191, c192, c193, c194, c195, c196, c197, c198, c199, c200, c201, c202, c203, c204, c205, c206, c207, c208, c209, c210, c211, c212, c213, c214, c215, c216, c217]
def fnd (pc : Nat) : List (Nat × Nat × ClassFile.Instr × List Int) → Option (Nat × ClassFile.Instr × List Int)
  | [] => none
  | e :: r => if e.1 = pc then some e.2 else fnd pc r
def cd (y pc : Nat) : Option (Nat × ClassFile.Instr × List Int) := fnd pc (cT.getD y [])
end
section
/-! ===== A small pure machine: ints are Int, cells are numbers from 0 on; 'runTo' is what the proofs of the methods speak of; 04 ties it to the machine ===== -/
/-- a value: an int, a long, a reference to a cell of ours (or null), a thing outside (the script, a constant text, its bytes) -/
abbrev PV : Type := Int ⊕ Int ⊕ Option Nat ⊕ Nat
abbrev pI (i : Int) : PV := .inl i
abbrev pL (l : Int) : PV := .inr (.inl l)
abbrev pR (r : Option Nat) : PV := .inr (.inr (.inl r))
abbrev pE (e : Nat) : PV := .inr (.inr (.inr e))
/-- cells made, slots made, kind and length of a cell, its references, the script's length and ints -/
abbrev Gh : Type := Nat × Nat × (Nat → Nat × Nat) × (Nat → Int → Option Nat) × Nat × (Int → Int)
abbrev Mi : Type := Nat → Int → Int
abbrev gN (G : Gh) : Nat := G.1
abbrev gS (G : Gh) : Nat := G.2.1
abbrev gK (G : Gh) : Nat → Nat × Nat := G.2.2.1
abbrev gR (G : Gh) : Nat → Int → Option Nat := G.2.2.2.1
abbrev gL (G : Gh) : Nat := G.2.2.2.2.1
abbrev gX (G : Gh) : Int → Int := G.2.2.2.2.2
abbrev Lcs : Type := List (Option PV)
abbrev Cf : Type := Nat × Lcs × List PV × Gh × Mi
def wr (x : Int) : Int := Int.bmod x 4294967296
def wl (x : Int) : Int := Int.bmod x 18446744073709551616
def up (mi : Mi) (o : Nat) (k : Int) (v : Int) : Mi := fun a j => if a = o ∧ j = k then v else mi a j
def upR (r : Nat → Int → Option Nat) (o : Nat) (k : Int) (v : Option Nat) : Nat → Int → Option Nat := fun a j => if a = o ∧ j = k then v else r a j
def cpy (mi : Mi) (a : Nat) (sp : Int) (b : Nat) (dp n : Int) : Mi := fun c j => if c = b ∧ dp ≤ j ∧ j < dp + n then mi a (sp + (j - dp)) else mi c j
def newG (G : Gh) (kd : Nat × Nat) (sl : Nat) : Gh := (gN G + 1, gS G + sl, (fun a => if a = gN G then kd else gK G a), (fun a j => if a = gN G then none else gR G a j), gL G, gX G)
def newM (G : Gh) (mi : Mi) : Mi := fun a j => if a = gN G then 0 else mi a j
def setR (G : Gh) (o : Nat) (k : Int) (v : Option Nat) : Gh := (gN G, gS G, gK G, upR (gR G) o k v, gL G, gX G)
def ib (f : Int32 → Int32 → Int32) (a b : Int) : Int := (f (Int32.ofInt a) (Int32.ofInt b)).toInt
def iAnd (a b : Int) : Int := ib (· &&& ·) a b
def iOr (a b : Int) : Int := ib (· ||| ·) a b
def iXor (a b : Int) : Int := ib (· ^^^ ·) a b
def iShl (a b : Int) : Int := ib (fun x y => x <<< (y &&& 31)) a b
def iShr (a b : Int) : Int := ib (fun x y => x >>> (y &&& 31)) a b
def iUshr (a b : Int) : Int := ib (fun x y => (x.toUInt32 >>> (y.toUInt32 &&& Int32.toUInt32 31)).toInt32) a b
def iB (a : Int) : Int := (Int32.ofInt a).toInt8.toInt32.toInt
def cmpL (a b : Int) : Int := if a < b then -1 else if a = b then 0 else 1
/-- the constant texts -/
def sBytes (k : Nat) : List Int := sTexts.getD k []
def lg (ls : Lcs) (i : Nat) : Option PV := ls.getD i none
def isL (v : Option PV) : Bool := match v with
  | some (.inr (.inl _)) => true
  | _ => false
def okSt (ls : Lcs) : Nat → Bool
  | 0 => true
  | i + 1 => !isL (lg ls i)
def swL (x d : Int) : List Int → Int
  | v :: t :: r => if x = v then t else swL x d r
  | _ => d
def dsp (c : Int) : List Int → Option Int
  | c' :: y :: _ :: r => if c = c' then some y else dsp c r
  | _ => none
/-- a reference's class, as a number: one more than its place in the list of classes; 500: a constant text -/
def isR (v : PV) : Bool := match v with
  | .inr (.inr (.inl (some _))) => true
  | _ => false
def thgO (G : Gh) (v : Option Nat) : Bool := match v with
  | some o => thg (gK G o).1
  | none => false
def rcv (G : Gh) : PV → Int
  | .inr (.inr (.inl (some o))) => ((gK G o).1 : Int)
  | .inr (.inr (.inr e)) => if e % 2 = 1 ∧ e < 2 * sTexts.length then 500 else -1
  | _ => -1
/-- what stays on the stack below a call: few words -/
def rOK (r : List PV) : Bool := decide (r.length ≤ 4) || (decide (r.length ≤ 8) && r.all (fun v => !isL (some v)))
def takeA (n : Nat) (st : List PV) : List PV × List PV := ((st.take n).reverse, st.drop n)
abbrev Out : Type := Cf ⊕ (Nat × List PV × List PV)
def nx (pc : Nat) (ls : Lcs) (st : List PV) (G : Gh) (mi : Mi) : Option Out := some (.inl (pc, ls, st, G, mi))
def op2 (st : List PV) (k : Int → Int → List PV → Option Out) : Option Out := match st with
  | .inl b :: .inl a :: r => k a b r
  | _ => none
def op1 (st : List PV) (k : Int → List PV → Option Out) : Option Out := match st with
  | .inl a :: r => k a r
  | _ => none
def opL (st : List PV) (k : Int → Int → List PV → Option Out) : Option Out := match st with
  | .inr (.inl b) :: .inr (.inl a) :: r => k a b r
  | _ => none
def cmpC (c : ClassFile.Cond) (a b : Int) : Bool := match c with
  | .eq => decide (a = b)
  | .ne => decide (a ≠ b)
  | .lt => decide (a < b)
  | .ge => decide (b ≤ a)
  | .gt => decide (b < a)
  | .le => decide (a ≤ b)
def a0 (aux : List Int) : Int := aux.getD 0 0
def a1 (aux : List Int) : Int := aux.getD 1 0
def a2 (aux : List Int) : Int := aux.getD 2 0
def ia (aux : List Int) : Nat := (a0 aux).toNat
/-- one instruction, but the returns: the next state, or a call (whom, arguments, what stays on the stack) -/
def sI (d pc npc : Nat) (ins : ClassFile.Instr) (aux : List Int) (ls : Lcs) (st : List PV) (G : Gh) (mi : Mi) : Option Out := match ins with
  | .iconst n => nx npc ls (pI n :: st) G mi
  | .bipush n => nx npc ls (pI n :: st) G mi
  | .sipush n => nx npc ls (pI n :: st) G mi
  | .lconst n => nx npc ls (pL n.val :: st) G mi
  | .aconst_null => nx npc ls (pR none :: st) G mi
  | .ldc _ => if a0 aux = 0 then nx npc ls (pI (a1 aux) :: st) G mi else nx npc ls (pE (2 * (a1 aux).toNat + 1) :: st) G mi
  | .ldc2_w _ => nx npc ls (pL (a0 aux) :: st) G mi
  | .iload_n _ | .iload _ => match lg ls (ia aux) with
    | some (.inl v) => nx npc ls (pI v :: st) G mi
    | _ => none
  | .lload_n _ | .lload _ => match lg ls (ia aux) with
    | some (.inr (.inl v)) => nx npc ls (pL v :: st) G mi
    | _ => none
  | .aload_n _ | .aload _ => match lg ls (ia aux) with
    | some (.inr (.inr v)) => nx npc ls (.inr (.inr v) :: st) G mi
    | _ => none
  | .istore_n _ | .istore _ => match st with
    | .inl v :: r => if okSt ls (ia aux) = true ∧ ia aux < ls.length then nx npc (ls.set (ia aux) (some (pI v))) r G mi else none
    | _ => none
  | .astore_n _ | .astore _ => match st with
    | .inr (.inr v) :: r => if okSt ls (ia aux) = true ∧ ia aux < ls.length then nx npc (ls.set (ia aux) (some (.inr (.inr v)))) r G mi else none
    | _ => none
  | .lstore_n _ | .lstore _ => match st with
    | .inr (.inl v) :: r => if okSt ls (ia aux) = true ∧ ia aux + 1 < ls.length then nx npc ((ls.set (ia aux) (some (pL v))).set (ia aux + 1) none) r G mi else none
    | _ => none
  | .iinc _ _ => match lg ls (ia aux) with
    | some (.inl v) => if okSt ls (ia aux) = true ∧ ia aux < ls.length then nx npc (ls.set (ia aux) (some (pI (wr (v + a1 aux))))) st G mi else none
    | _ => none
  | .iadd => op2 st fun a b r => nx npc ls (pI (wr (a + b)) :: r) G mi
  | .isub => op2 st fun a b r => nx npc ls (pI (wr (a - b)) :: r) G mi
  | .imul => op2 st fun a b r => nx npc ls (pI (wr (a * b)) :: r) G mi
  | .idiv => op2 st fun a b r => if 0 < b then nx npc ls (pI (a.tdiv b) :: r) G mi else none
  | .irem => op2 st fun a b r => if 0 < b then nx npc ls (pI (a.tmod b) :: r) G mi else none
  | .iand => op2 st fun a b r => nx npc ls (pI (iAnd a b) :: r) G mi
  | .ior => op2 st fun a b r => nx npc ls (pI (iOr a b) :: r) G mi
  | .ixor => op2 st fun a b r => nx npc ls (pI (iXor a b) :: r) G mi
  | .ishl => op2 st fun a b r => nx npc ls (pI (iShl a b) :: r) G mi
  | .ishr => op2 st fun a b r => nx npc ls (pI (iShr a b) :: r) G mi
  | .iushr => op2 st fun a b r => nx npc ls (pI (iUshr a b) :: r) G mi
  | .ineg => op1 st fun a r => nx npc ls (pI (wr (-a)) :: r) G mi
  | .i2l => op1 st fun a r => nx npc ls (pL a :: r) G mi
  | .i2c => op1 st fun a r => if 0 ≤ a ∧ a < 65536 then nx npc ls (pI a :: r) G mi else none
  | .i2b => op1 st fun a r => nx npc ls (pI (iB a) :: r) G mi
  | .ladd => opL st fun a b r => nx npc ls (pL (wl (a + b)) :: r) G mi
  | .ldiv => opL st fun a b r => if 0 < b then nx npc ls (pL (a.tdiv b) :: r) G mi else none
  | .lrem => opL st fun a b r => if 0 < b then nx npc ls (pL (a.tmod b) :: r) G mi else none
  | .lcmp => opL st fun a b r => nx npc ls (pI (cmpL a b) :: r) G mi
  | .lneg => match st with
    | .inr (.inl a) :: r => nx npc ls (pL (wl (-a)) :: r) G mi
    | _ => none
  | .dup => match st with
    | .inr (.inl _) :: _ => none
    | v :: r => nx npc ls (v :: v :: r) G mi
    | _ => none
  | .pop => match st with
    | .inr (.inl _) :: _ => none
    | _ :: r => nx npc ls r G mi
    | _ => none
  | .dup2 => match st with
    | .inl b :: .inr (.inr a) :: r => nx npc ls (.inl b :: .inr (.inr a) :: .inl b :: .inr (.inr a) :: r) G mi
    | _ => none
  | .goto _ => nx (ia aux) ls st G mi
  | .ifCond c _ => op1 st fun a r => nx (if cmpC c a 0 = true then ia aux else npc) ls r G mi
  | .if_icmp c _ => op2 st fun a b r => nx (if cmpC c a b = true then ia aux else npc) ls r G mi
  | .ifnull _ => match st with
    | .inr (.inr (.inl o)) :: r => nx (if o = none then ia aux else npc) ls r G mi
    | _ => none
  | .ifnonnull _ => match st with
    | .inr (.inr (.inl o)) :: r => nx (if o = none then npc else ia aux) ls r G mi
    | _ => none
  | .tableswitch _ _ _ _ => op1 st fun a r => nx (swL a (a0 aux) (aux.drop 1)).toNat ls r G mi
  | .lookupswitch _ _ => op1 st fun a r => nx (swL a (a0 aux) (aux.drop 1)).toNat ls r G mi
  | .getfield _ => match st with
    | .inr (.inr (.inl (some o))) :: r => if ((gK G o).1 : Int) ∈ aux.drop 2 then (if a1 aux = 1 then nx npc ls (pR (gR G o (a0 aux)) :: r) G mi else nx npc ls (pI (mi o (a0 aux)) :: r) G mi) else none
    | .inr (.inr (.inr e)) :: r => if rcv G (pE e) = 500 ∧ a1 aux = 3 then nx npc ls (pE (e + 1) :: r) G mi else if rcv G (pE e) = 500 ∧ a1 aux = 4 then nx npc ls (pI 0 :: r) G mi else none
    | _ => none
  | .putfield _ => match st with
    | .inl v :: .inr (.inr (.inl (some o))) :: r => if ((gK G o).1 : Int) ∈ aux.drop 2 ∧ (a1 aux = 0 ∨ a1 aux = 2 ∧ 0 ≤ v ∧ v ≤ 1) then nx npc ls r G (up mi o (a0 aux) v) else none
    | .inr (.inr (.inl v)) :: .inr (.inr (.inl (some o))) :: r => if ((gK G o).1 : Int) ∈ aux.drop 2 ∧ a1 aux = 1 then nx npc ls r (setR G o (a0 aux) v) mi else none
    | _ => none
  | .getstatic _ => if a0 aux = 0 then nx npc ls (pI 1 :: st) G mi else nx npc ls (pE 1000 :: st) G mi
  | .arraylength => match st with
    | .inr (.inr (.inl (some o))) :: r => if 20 ≤ (gK G o).1 then nx npc ls (pI (gK G o).2 :: r) G mi else none
    | .inr (.inr (.inr e)) :: r => if e = 0 then nx npc ls (pI (gL G) :: r) G mi else if e % 2 = 0 ∧ e ≤ 2 * sTexts.length then nx npc ls (pI (sBytes (e / 2 - 1)).length :: r) G mi else none
    | _ => none
  | .iaload => match st with
    | .inl i :: .inr (.inr (.inl (some o))) :: r => if (gK G o).1 = 20 ∧ 0 ≤ i ∧ i < (gK G o).2 then nx npc ls (pI (mi o i) :: r) G mi else none
    | .inl i :: .inr (.inr (.inr 0)) :: r => if 0 ≤ i ∧ i < gL G then nx npc ls (pI (gX G i) :: r) G mi else none
    | _ => none
  | .baload => match st with
    | .inl i :: .inr (.inr (.inl (some o))) :: r => if (gK G o).1 = 21 ∧ 0 ≤ i ∧ i < (gK G o).2 then nx npc ls (pI (mi o i) :: r) G mi else none
    | .inl i :: .inr (.inr (.inr e)) :: r => if e % 2 = 0 ∧ 0 < e ∧ e ≤ 2 * sTexts.length ∧ 0 ≤ i ∧ i < (sBytes (e / 2 - 1)).length then nx npc ls (pI ((sBytes (e / 2 - 1)).getD i.toNat 0) :: r) G mi else none
    | _ => none
  | .aaload => match st with
    | .inl i :: .inr (.inr (.inl (some o))) :: r => if (gK G o).1 = 22 ∧ 0 ≤ i ∧ i < (gK G o).2 then nx npc ls (pR (gR G o i) :: r) G mi else none
    | _ => none
  | .iastore => match st with
    | .inl v :: .inl i :: .inr (.inr (.inl (some o))) :: r => if (gK G o).1 = 20 ∧ 0 ≤ i ∧ i < (gK G o).2 then nx npc ls r G (up mi o i v) else none
    | _ => none
  | .bastore => match st with
    | .inl v :: .inl i :: .inr (.inr (.inl (some o))) :: r => if (gK G o).1 = 21 ∧ 0 ≤ i ∧ i < (gK G o).2 ∧ 0 ≤ v ∧ v ≤ 1 then nx npc ls r G (up mi o i v) else none
    | _ => none
  | .aastore => match st with
    | .inr (.inr (.inl v)) :: .inl i :: .inr (.inr (.inl (some o))) :: r => if (gK G o).1 = 22 ∧ 0 ≤ i ∧ i < (gK G o).2 ∧ thgO G v = true then nx npc ls r (setR G o i v) mi else none
    | _ => none
  | .new _ => nx npc ls (pR (some (gN G)) :: st) (newG G ((a0 aux).toNat, 0) (a1 aux).toNat) (newM G mi)
  | .newarray _ => op1 st fun n r => if 0 ≤ n ∧ n < 100000 then nx npc ls (pR (some (gN G)) :: r) (newG G ((a0 aux).toNat, n.toNat) n.toNat) (newM G mi) else none
  | .anewarray _ => op1 st fun n r => if 0 ≤ n ∧ n < 100000 then nx npc ls (pR (some (gN G)) :: r) (newG G (22, n.toNat) n.toNat) (newM G mi) else none
  | .instanceof _ => match st with
    | .inr (.inr (.inl (some o))) :: r => if thg (gK G o).1 = true then nx npc ls (pI (if ((gK G o).1 : Int) ∈ aux then 1 else 0) :: r) G mi else none
    | _ => none
  | .invokevirtual _ => match (takeA (ia aux) st).2 with
    | v :: r => match dsp (rcv G v) (aux.drop 1) with
      | some y => if rOK r = true then some (.inr (y.toNat, v :: (takeA (ia aux) st).1, r)) else none
      | none => none
    | [] => none
  | .invokespecial _ => if a0 aux = 0 then (match st with
      | .inr (.inr (.inl (some _))) :: r => if 1 ≤ d ∧ rOK r = true then nx npc ls r G mi else none
      | _ => none) else (match (takeA (a1 aux).toNat st).2 with
    | v :: r => if (a0 aux = 1 ∨ rcv G v ∈ aux.drop 3) ∧ isR v = true ∧ rOK r = true then some (.inr ((a2 aux).toNat, v :: (takeA (a1 aux).toNat st).1, r)) else none
    | [] => none)
  | .invokestatic _ => if a0 aux = 2 then (op2 st fun a b r => if 1 ≤ d ∧ rOK r = true then nx npc ls (pI (if a < b then b else a) :: r) G mi else none)
    else if a0 aux = 3 then (op2 st fun a b r => if 1 ≤ d ∧ rOK r = true then nx npc ls (pI (if b < a then b else a) :: r) G mi else none)
    else if a0 aux = 4 then (op1 st fun a r => if 1 ≤ d ∧ rOK r = true then nx npc ls (pI (if 0 ≤ a then a else wr (0 - a)) :: r) G mi else none)
    else if a0 aux = 5 then (match st with
      | .inl n :: .inl dp :: .inr (.inr (.inl (some b))) :: .inl sp :: .inr (.inr (.inl (some a))) :: r => if 1 ≤ d ∧ rOK r = true ∧ (gK G a).1 = 20 ∧ (gK G b).1 = 20 ∧ a ≠ b ∧ 0 ≤ sp ∧ 0 ≤ dp ∧ 0 ≤ n ∧ sp + n ≤ (gK G a).2 ∧ dp + n ≤ (gK G b).2 then nx npc ls r G (cpy mi a sp b dp n) else none
      | _ => none)
    else (if (a0 aux = 0 ∨ a0 aux = 1) ∧ rOK (takeA (a1 aux).toNat st).2 = true ∧ (a1 aux).toNat ≤ st.length then some (.inr ((a2 aux).toNat, (takeA (a1 aux).toNat st).1, (takeA (a1 aux).toNat st).2)) else none)
  | _ => none
def isRet (ins : ClassFile.Instr) : Bool := match ins with
  | .ireturn | .lreturn | .areturn | .return_ => true
  | _ => false
def mY (y : Nat) : MethodName × ByteArray × Nat × Option FieldType := mT.getD y (⟨"", "", ""⟩, ⟨#[]⟩, 0, none)
def maxLY (y : Nat) : Nat := (mY y).2.2.1
def retOk (t : Option FieldType) (v : Int) : Bool := match t with
  | some .int => true
  | some .boolean => decide (0 ≤ v ∧ v ≤ 1)
  | some .char => decide (0 ≤ v ∧ v < 65536)
  | some .byte => decide (v = 0)
  | _ => false
/-- what a frame at a return instruction answers -/
def retv (y : Nat) (c : Cf) : Option (Option PV) := match cd y c.1 with
  | some (_, .ireturn, _) => match c.2.2.1 with
    | [.inl v] => if retOk (mY y).2.2.2 v = true then some (some (pI v)) else none
    | _ => none
  | some (_, .lreturn, _) => match c.2.2.1 with
    | [.inr (.inl v)] => some (some (pL v))
    | _ => none
  | some (_, .areturn, _) => match c.2.2.1 with
    | [.inr (.inr (.inl v))] => some (some (pR v))
    | _ => none
  | some (_, .return_, _) => match c.2.2.1 with
    | [] => some none
    | _ => none
  | _ => none
def ent : List PV → Lcs
  | [] => []
  | .inr (.inl l) :: r => some (pL l) :: none :: ent r
  | v :: r => some v :: ent r
def iniL (y : Nat) (as : List PV) : Lcs := ent as ++ List.replicate (maxLY y - (ent as).length) none
def pu (r : Option PV) (st : List PV) : List PV := match r with
  | none => st
  | some v => v :: st
theorem pu_n (st : List PV) : pu none st = st := rfl
theorem pu_s (v : PV) (st : List PV) : pu (some v) st = v :: st := rfl
def runTo : Nat → Nat → Nat → Cf → Option Cf
  | 0, _, _, _ => none
  | f + 1, d, y, c => match cd y c.1 with
    | none => none
    | some e => if isRet e.2.1 = true then some c else match sI d c.1 e.1 e.2.1 e.2.2 c.2.1 c.2.2.1 c.2.2.2.1 c.2.2.2.2 with
      | none => none
      | some (.inl c') => runTo f d y c'
      | some (.inr q) => match d with
        | 0 => none
        | d' + 1 => if (ent q.2.1).length ≤ maxLY q.1 then match runTo f d' q.1 (0, iniL q.1 q.2.1, [], c.2.2.2.1, c.2.2.2.2) with
          | none => none
          | some c1 => match retv q.1 c1 with
            | none => none
            | some rv => runTo f d y (e.1, c.2.1, pu rv q.2.2, c1.2.2.2.1, c1.2.2.2.2)
          else none
def Ok (d y pc : Nat) (ls : Lcs) (st : List PV) (G : Gh) (mi : Mi) (Q : Option PV → Gh → Mi → Prop) : Prop :=
  ∃ (f : Nat) (c : Cf) (r : Option PV), runTo f d y (pc, ls, st, G, mi) = some c ∧ retv y c = some r ∧ Q r c.2.2.2.1 c.2.2.2.2
def OkC (d y : Nat) (as : List PV) (G : Gh) (mi : Mi) (K : Option PV → Gh → Mi → Prop) : Prop := (ent as).length ≤ maxLY y ∧ Ok d y 0 (iniL y as) [] G mi K
theorem runTo_step {f d y : Nat} {c : Cf} {e : Nat × ClassFile.Instr × List Int} (h : cd y c.1 = some e) (hr : isRet e.2.1 = false) {c' : Cf} (hs : sI d c.1 e.1 e.2.1 e.2.2 c.2.1 c.2.2.1 c.2.2.2.1 c.2.2.2.2 = some (.inl c')) : runTo (f + 1) d y c = runTo f d y c' := by
  simp only [runTo, h, hr, hs, Bool.false_eq_true, if_false]
theorem runTo_call {f d y : Nat} {c : Cf} {e : Nat × ClassFile.Instr × List Int} (h : cd y c.1 = some e) (hr : isRet e.2.1 = false) {q : Nat × List PV × List PV} (hs : sI (d + 1) c.1 e.1 e.2.1 e.2.2 c.2.1 c.2.2.1 c.2.2.2.1 c.2.2.2.2 = some (.inr q)) :
    runTo (f + 1) (d + 1) y c = if (ent q.2.1).length ≤ maxLY q.1 then match runTo f d q.1 (0, iniL q.1 q.2.1, [], c.2.2.2.1, c.2.2.2.2) with
          | none => none
          | some c1 => match retv q.1 c1 with
            | none => none
            | some rv => runTo f (d + 1) y (e.1, c.2.1, pu rv q.2.2, c1.2.2.2.1, c1.2.2.2.2)
          else none := by
  simp only [runTo, h, hr, hs, Bool.false_eq_true, if_false]
theorem runTo_mono : ∀ (f d y : Nat) (c c' : Cf), runTo f d y c = some c' → runTo (f + 1) d y c = some c' := by
  intro f
  induction f with
  | zero => intro d y c c' h; simp [runTo] at h
  | succ f ih =>
    intro d y c c' h
    rw [runTo] at h ⊢
    cases h1 : cd y c.1 with
    | none => rw [h1] at h; simp at h
    | some e =>
      rw [h1] at h
      dsimp only at h ⊢
      by_cases hr : isRet e.2.1 = true
      · rw [if_pos hr] at h ⊢; exact h
      · rw [if_neg hr] at h ⊢
        cases h2 : sI d c.1 e.1 e.2.1 e.2.2 c.2.1 c.2.2.1 c.2.2.2.1 c.2.2.2.2 with
        | none => rw [h2] at h; simp at h
        | some o =>
          rw [h2] at h
          cases o with
          | inl c1 => exact ih _ _ _ _ h
          | inr q =>
            dsimp only at h ⊢
            cases d with
            | zero => simp at h
            | succ d =>
              dsimp only at h ⊢
              by_cases hl : (ent q.2.1).length ≤ maxLY q.1
              · rw [if_pos hl] at h ⊢
                cases h3 : runTo f d q.1 (0, iniL q.1 q.2.1, [], c.2.2.2.1, c.2.2.2.2) with
                | none => rw [h3] at h; simp at h
                | some c1 =>
                  rw [h3] at h
                  rw [ih _ _ _ _ h3]
                  dsimp only at h ⊢
                  cases h4 : retv q.1 c1 with
                  | none => rw [h4] at h; simp at h
                  | some rv =>
                    rw [h4] at h
                    exact ih _ _ _ _ h
              · rw [if_neg hl] at h; simp at h
theorem runTo_le {f g d y : Nat} {c c' : Cf} (h : runTo f d y c = some c') (hg : f ≤ g) : runTo g d y c = some c' := by
  obtain ⟨k, rfl⟩ := Nat.le.dest hg
  induction k with
  | zero => exact h
  | succ k ih => exact runTo_mono _ _ _ _ _ (ih (Nat.le_add_right _ _))
section K
variable {d y pc npc : Nat} {ls : Lcs} {st : List PV} {G : Gh} {mi : Mi} {Q : Option PV → Gh → Mi → Prop} {aux : List Int} {ins : ClassFile.Instr}
theorem ok_nx {pc' : Nat} {ls' : Lcs} {st' : List PV} {G' : Gh} {mi' : Mi} (h : cd y pc = some (npc, ins, aux)) (hr : isRet ins = false) (hs : sI d pc npc ins aux ls st G mi = some (.inl (pc', ls', st', G', mi'))) : Ok d y pc ls st G mi Q = Ok d y pc' ls' st' G' mi' Q := by
  apply propext
  constructor
  · rintro ⟨f, c, r, h1, h2, h3⟩
    cases f with
    | zero => simp [runTo] at h1
    | succ f => exact ⟨f, c, r, by rw [← runTo_step (c := (pc, ls, st, G, mi)) h hr hs]; exact h1, h2, h3⟩
  · rintro ⟨f, c, r, h1, h2, h3⟩
    exact ⟨f + 1, c, r, by rw [runTo_step (c := (pc, ls, st, G, mi)) h hr hs]; exact h1, h2, h3⟩
theorem ok_call {y' : Nat} {as rest : List PV} (h : cd y pc = some (npc, ins, aux)) (hr : isRet ins = false) (hs : sI (d + 1) pc npc ins aux ls st G mi = some (.inr (y', as, rest))) : Ok (d + 1) y pc ls st G mi Q = OkC d y' as G mi (fun r G' mi' => Ok (d + 1) y npc ls (pu r rest) G' mi' Q) := by
  apply propext
  constructor
  · rintro ⟨f, c, r, h1, h2, h3⟩
    cases f with
    | zero => simp [runTo] at h1
    | succ f =>
      rw [runTo_call (c := (pc, ls, st, G, mi)) h hr hs] at h1
      by_cases hl : (ent as).length ≤ maxLY y'
      · rw [if_pos hl] at h1
        cases h4 : runTo f d y' (0, iniL y' as, [], G, mi) with
        | none => simp only [h4] at h1; simp at h1
        | some c1 =>
          simp only [h4] at h1
          cases h5 : retv y' c1 with
          | none => simp only [h5] at h1; simp at h1
          | some rv =>
            simp only [h5] at h1
            exact ⟨hl, f, c1, rv, h4, h5, f, c, r, h1, h2, h3⟩
      · rw [if_neg hl] at h1; simp at h1
  · rintro ⟨hl, f, c1, rv, h4, h5, g, c, r, h1, h2, h3⟩
    refine ⟨max f g + 1, c, r, ?_, h2, h3⟩
    rw [runTo_call (c := (pc, ls, st, G, mi)) h hr hs, if_pos hl]
    simp only [runTo_le h4 (Nat.le_max_left f g), h5]
    exact runTo_le h1 (Nat.le_max_right f g)
theorem ok_ret {r : Option PV} (h : cd y pc = some (npc, ins, aux)) (hr : isRet ins = true) (hv : retv y (pc, ls, st, G, mi) = some r) : Ok d y pc ls st G mi Q = Q r G mi := by
  apply propext
  constructor
  · rintro ⟨f, c, r', h1, h2, h3⟩
    cases f with
    | zero => simp [runTo] at h1
    | succ f =>
      simp only [runTo, h, hr, if_true] at h1
      cases h1
      rw [hv] at h2
      cases h2
      exact h3
  · intro hq
    exact ⟨1, (pc, ls, st, G, mi), r, by simp only [runTo, h, hr, if_true], hv, hq⟩
theorem ok_ite {c : Prop} [Decidable c] {a b : Nat} : Ok d y (if c then a else b) ls st G mi Q = if c then Ok d y a ls st G mi Q else Ok d y b ls st G mi Q := by
  split <;> rfl
end K
end
section
/-! ===== rows of the pure machine: one for each kind of instruction ===== -/
section KK
variable {d y pc npc i : Nat} {ls : Lcs} {st : List PV} {G : Gh} {mi : Mi} {Q : Option PV → Gh → Mi → Prop} {aux : List Int} {n v w : Int} {o o' k : Nat} {off : Int}
theorem thg_mem {c : Nat} (h : thg c = true) : (c : Int) ∈ ([1, 2, 3, 5, 6, 9, 10] : List Int) := by
  simp only [thg, Bool.or_eq_true, beq_iff_eq] at h
  rcases h with (((((h | h) | h) | h) | h) | h) | h <;> subst h <;> decide
theorem kk_iconst (h : cd y pc = some (npc, .iconst n, [])) : Ok d y pc ls st G mi Q = Ok d y npc ls (pI n :: st) G mi Q := ok_nx h rfl rfl
theorem kk_bipush (h : cd y pc = some (npc, .bipush n, [])) : Ok d y pc ls st G mi Q = Ok d y npc ls (pI n :: st) G mi Q := ok_nx h rfl rfl
theorem kk_sipush (h : cd y pc = some (npc, .sipush n, [])) : Ok d y pc ls st G mi Q = Ok d y npc ls (pI n :: st) G mi Q := ok_nx h rfl rfl
theorem kk_lconst {z : Fin 2} (h : cd y pc = some (npc, .lconst z, [])) (hn : (z.val : Int) = n) : Ok d y pc ls st G mi Q = Ok d y npc ls (pL n :: st) G mi Q := ok_nx h rfl (by simp only [sI, nx]; rw [hn])
theorem kk_null (h : cd y pc = some (npc, .aconst_null, [])) : Ok d y pc ls st G mi Q = Ok d y npc ls (pR none :: st) G mi Q := ok_nx h rfl rfl
theorem kk_ldci (h : cd y pc = some (npc, .ldc i, [0, n])) : Ok d y pc ls st G mi Q = Ok d y npc ls (pI n :: st) G mi Q := ok_nx h rfl rfl
theorem kk_ldcs (h : cd y pc = some (npc, .ldc i, [1, n])) {e : Nat} (he : 2 * n.toNat + 1 = e) : Ok d y pc ls st G mi Q = Ok d y npc ls (pE e :: st) G mi Q := by subst he; exact ok_nx h rfl rfl
theorem kk_ldc2 (h : cd y pc = some (npc, .ldc2_w i, [n])) : Ok d y pc ls st G mi Q = Ok d y npc ls (pL n :: st) G mi Q := ok_nx h rfl rfl
theorem kk_iload_n {z : Fin 4} (h : cd y pc = some (npc, .iload_n z, [n])) (hl : lg ls n.toNat = some (pI v)) : Ok d y pc ls st G mi Q = Ok d y npc ls (pI v :: st) G mi Q := ok_nx h rfl (by simp only [sI, ia, a0, List.getD_cons_zero, hl, nx])
theorem kk_iload (h : cd y pc = some (npc, .iload i, [n])) (hl : lg ls n.toNat = some (pI v)) : Ok d y pc ls st G mi Q = Ok d y npc ls (pI v :: st) G mi Q := ok_nx h rfl (by simp only [sI, ia, a0, List.getD_cons_zero, hl, nx])
theorem kk_lload_n {z : Fin 4} (h : cd y pc = some (npc, .lload_n z, [n])) (hl : lg ls n.toNat = some (pL v)) : Ok d y pc ls st G mi Q = Ok d y npc ls (pL v :: st) G mi Q := ok_nx h rfl (by simp only [sI, ia, a0, List.getD_cons_zero, hl, nx])
theorem kk_lload (h : cd y pc = some (npc, .lload i, [n])) (hl : lg ls n.toNat = some (pL v)) : Ok d y pc ls st G mi Q = Ok d y npc ls (pL v :: st) G mi Q := ok_nx h rfl (by simp only [sI, ia, a0, List.getD_cons_zero, hl, nx])
theorem kk_aload_n {z : Fin 4} {r : Option Nat ⊕ Nat} (h : cd y pc = some (npc, .aload_n z, [n])) (hl : lg ls n.toNat = some (.inr (.inr r))) : Ok d y pc ls st G mi Q = Ok d y npc ls (.inr (.inr r) :: st) G mi Q := ok_nx h rfl (by simp only [sI, ia, a0, List.getD_cons_zero, hl, nx])
theorem kk_aload {r : Option Nat ⊕ Nat} (h : cd y pc = some (npc, .aload i, [n])) (hl : lg ls n.toNat = some (.inr (.inr r))) : Ok d y pc ls st G mi Q = Ok d y npc ls (.inr (.inr r) :: st) G mi Q := ok_nx h rfl (by simp only [sI, ia, a0, List.getD_cons_zero, hl, nx])
theorem kk_istore_n {z : Fin 4} (h : cd y pc = some (npc, .istore_n z, [n])) (hs : okSt ls n.toNat = true) (hl : n.toNat < ls.length) : Ok d y pc ls (pI v :: st) G mi Q = Ok d y npc (ls.set n.toNat (some (pI v))) st G mi Q := ok_nx h rfl (by simp only [sI, ia, a0, List.getD_cons_zero, hs, hl, and_self, if_true, nx])
theorem kk_istore (h : cd y pc = some (npc, .istore i, [n])) (hs : okSt ls n.toNat = true) (hl : n.toNat < ls.length) : Ok d y pc ls (pI v :: st) G mi Q = Ok d y npc (ls.set n.toNat (some (pI v))) st G mi Q := ok_nx h rfl (by simp only [sI, ia, a0, List.getD_cons_zero, hs, hl, and_self, if_true, nx])
theorem kk_astore_n {z : Fin 4} {r : Option Nat ⊕ Nat} (h : cd y pc = some (npc, .astore_n z, [n])) (hs : okSt ls n.toNat = true) (hl : n.toNat < ls.length) : Ok d y pc ls (.inr (.inr r) :: st) G mi Q = Ok d y npc (ls.set n.toNat (some (.inr (.inr r)))) st G mi Q := ok_nx h rfl (by simp only [sI, ia, a0, List.getD_cons_zero, hs, hl, and_self, if_true, nx])
theorem kk_astore {r : Option Nat ⊕ Nat} (h : cd y pc = some (npc, .astore i, [n])) (hs : okSt ls n.toNat = true) (hl : n.toNat < ls.length) : Ok d y pc ls (.inr (.inr r) :: st) G mi Q = Ok d y npc (ls.set n.toNat (some (.inr (.inr r)))) st G mi Q := ok_nx h rfl (by simp only [sI, ia, a0, List.getD_cons_zero, hs, hl, and_self, if_true, nx])
theorem kk_lstore_n {z : Fin 4} (h : cd y pc = some (npc, .lstore_n z, [n])) (hs : okSt ls n.toNat = true) (hl : n.toNat + 1 < ls.length) : Ok d y pc ls (pL v :: st) G mi Q = Ok d y npc ((ls.set n.toNat (some (pL v))).set (n.toNat + 1) none) st G mi Q := ok_nx h rfl (by simp only [sI, ia, a0, List.getD_cons_zero, hs, hl, and_self, if_true, nx])
theorem kk_lstore (h : cd y pc = some (npc, .lstore i, [n])) (hs : okSt ls n.toNat = true) (hl : n.toNat + 1 < ls.length) : Ok d y pc ls (pL v :: st) G mi Q = Ok d y npc ((ls.set n.toNat (some (pL v))).set (n.toNat + 1) none) st G mi Q := ok_nx h rfl (by simp only [sI, ia, a0, List.getD_cons_zero, hs, hl, and_self, if_true, nx])
theorem kk_iinc (h : cd y pc = some (npc, .iinc i off, [n, w])) (hl : lg ls n.toNat = some (pI v)) (hs : okSt ls n.toNat = true) (hlt : n.toNat < ls.length) : Ok d y pc ls st G mi Q = Ok d y npc (ls.set n.toNat (some (pI (wr (v + w))))) st G mi Q := ok_nx h rfl (by simp only [sI, ia, a0, a1, List.getD_cons_zero, List.getD_cons_succ, hl, hs, hlt, and_self, if_true, nx])
theorem kk_iadd (h : cd y pc = some (npc, .iadd, [])) : Ok d y pc ls (pI w :: pI v :: st) G mi Q = Ok d y npc ls (pI (wr (v + w)) :: st) G mi Q := ok_nx h rfl rfl
theorem kk_isub (h : cd y pc = some (npc, .isub, [])) : Ok d y pc ls (pI w :: pI v :: st) G mi Q = Ok d y npc ls (pI (wr (v - w)) :: st) G mi Q := ok_nx h rfl rfl
theorem kk_imul (h : cd y pc = some (npc, .imul, [])) : Ok d y pc ls (pI w :: pI v :: st) G mi Q = Ok d y npc ls (pI (wr (v * w)) :: st) G mi Q := ok_nx h rfl rfl
theorem kk_idiv (h : cd y pc = some (npc, .idiv, [])) (hw : 0 < w) : Ok d y pc ls (pI w :: pI v :: st) G mi Q = Ok d y npc ls (pI (v.tdiv w) :: st) G mi Q := ok_nx h rfl (by simp only [sI, op2, hw, if_true, nx])
theorem kk_irem (h : cd y pc = some (npc, .irem, [])) (hw : 0 < w) : Ok d y pc ls (pI w :: pI v :: st) G mi Q = Ok d y npc ls (pI (v.tmod w) :: st) G mi Q := ok_nx h rfl (by simp only [sI, op2, hw, if_true, nx])
theorem kk_iand (h : cd y pc = some (npc, .iand, [])) : Ok d y pc ls (pI w :: pI v :: st) G mi Q = Ok d y npc ls (pI (iAnd v w) :: st) G mi Q := ok_nx h rfl rfl
theorem kk_ior (h : cd y pc = some (npc, .ior, [])) : Ok d y pc ls (pI w :: pI v :: st) G mi Q = Ok d y npc ls (pI (iOr v w) :: st) G mi Q := ok_nx h rfl rfl
theorem kk_ixor (h : cd y pc = some (npc, .ixor, [])) : Ok d y pc ls (pI w :: pI v :: st) G mi Q = Ok d y npc ls (pI (iXor v w) :: st) G mi Q := ok_nx h rfl rfl
theorem kk_ishl (h : cd y pc = some (npc, .ishl, [])) : Ok d y pc ls (pI w :: pI v :: st) G mi Q = Ok d y npc ls (pI (iShl v w) :: st) G mi Q := ok_nx h rfl rfl
theorem kk_ishr (h : cd y pc = some (npc, .ishr, [])) : Ok d y pc ls (pI w :: pI v :: st) G mi Q = Ok d y npc ls (pI (iShr v w) :: st) G mi Q := ok_nx h rfl rfl
theorem kk_iushr (h : cd y pc = some (npc, .iushr, [])) : Ok d y pc ls (pI w :: pI v :: st) G mi Q = Ok d y npc ls (pI (iUshr v w) :: st) G mi Q := ok_nx h rfl rfl
theorem kk_ineg (h : cd y pc = some (npc, .ineg, [])) : Ok d y pc ls (pI v :: st) G mi Q = Ok d y npc ls (pI (wr (-v)) :: st) G mi Q := ok_nx h rfl rfl
theorem kk_i2l (h : cd y pc = some (npc, .i2l, [])) : Ok d y pc ls (pI v :: st) G mi Q = Ok d y npc ls (pL v :: st) G mi Q := ok_nx h rfl rfl
theorem kk_i2b (h : cd y pc = some (npc, .i2b, [])) : Ok d y pc ls (pI v :: st) G mi Q = Ok d y npc ls (pI (iB v) :: st) G mi Q := ok_nx h rfl rfl
theorem kk_i2c (h : cd y pc = some (npc, .i2c, [])) (h1 : 0 ≤ v) (h2 : v < 65536) : Ok d y pc ls (pI v :: st) G mi Q = Ok d y npc ls (pI v :: st) G mi Q := ok_nx h rfl (by simp only [sI, op1, h1, h2, and_self, if_true, nx])
theorem kk_ladd (h : cd y pc = some (npc, .ladd, [])) : Ok d y pc ls (pL w :: pL v :: st) G mi Q = Ok d y npc ls (pL (wl (v + w)) :: st) G mi Q := ok_nx h rfl rfl
theorem kk_ldiv (h : cd y pc = some (npc, .ldiv, [])) (hw : 0 < w) : Ok d y pc ls (pL w :: pL v :: st) G mi Q = Ok d y npc ls (pL (v.tdiv w) :: st) G mi Q := ok_nx h rfl (by simp only [sI, opL, hw, if_true, nx])
theorem kk_lrem (h : cd y pc = some (npc, .lrem, [])) (hw : 0 < w) : Ok d y pc ls (pL w :: pL v :: st) G mi Q = Ok d y npc ls (pL (v.tmod w) :: st) G mi Q := ok_nx h rfl (by simp only [sI, opL, hw, if_true, nx])
theorem kk_lcmp (h : cd y pc = some (npc, .lcmp, [])) : Ok d y pc ls (pL w :: pL v :: st) G mi Q = Ok d y npc ls (pI (cmpL v w) :: st) G mi Q := ok_nx h rfl rfl
theorem kk_lneg (h : cd y pc = some (npc, .lneg, [])) : Ok d y pc ls (pL v :: st) G mi Q = Ok d y npc ls (pL (wl (-v)) :: st) G mi Q := ok_nx h rfl rfl
theorem kk_dupr {r : Option Nat ⊕ Nat} (h : cd y pc = some (npc, .dup, [])) : Ok d y pc ls (.inr (.inr r) :: st) G mi Q = Ok d y npc ls (.inr (.inr r) :: .inr (.inr r) :: st) G mi Q := ok_nx h rfl rfl
theorem kk_dupi (h : cd y pc = some (npc, .dup, [])) : Ok d y pc ls (pI v :: st) G mi Q = Ok d y npc ls (pI v :: pI v :: st) G mi Q := ok_nx h rfl rfl
theorem kk_popi (h : cd y pc = some (npc, .pop, [])) : Ok d y pc ls (pI v :: st) G mi Q = Ok d y npc ls st G mi Q := ok_nx h rfl rfl
theorem kk_popr {r : Option Nat ⊕ Nat} (h : cd y pc = some (npc, .pop, [])) : Ok d y pc ls (.inr (.inr r) :: st) G mi Q = Ok d y npc ls st G mi Q := ok_nx h rfl rfl
theorem kk_dup2 {r : Option Nat ⊕ Nat} (h : cd y pc = some (npc, .dup2, [])) : Ok d y pc ls (pI v :: .inr (.inr r) :: st) G mi Q = Ok d y npc ls (pI v :: .inr (.inr r) :: pI v :: .inr (.inr r) :: st) G mi Q := ok_nx h rfl rfl
theorem kk_goto (h : cd y pc = some (npc, .goto off, [n])) {t : Nat} (ht : n.toNat = t) : Ok d y pc ls st G mi Q = Ok d y t ls st G mi Q := by subst ht; exact ok_nx h rfl rfl
theorem kk_br {c : ClassFile.Cond} {C : Prop} [hC : Decidable C] (h : cd y pc = some (npc, .ifCond c off, [n])) {t : Nat} (ht : n.toNat = t) (hv : (cmpC c v 0 = true) = C) : Ok d y pc ls (pI v :: st) G mi Q = if C then Ok d y t ls st G mi Q else Ok d y npc ls st G mi Q := by
  subst ht; subst hv
  by_cases hh : cmpC c v 0 = true
  · rw [if_pos hh]
    exact ok_nx h rfl (by simp only [sI, op1, hh, if_true]; rfl)
  · rw [if_neg hh]
    exact ok_nx h rfl (by simp only [sI, op1, nx]; rw [if_neg hh])
theorem kk_br2 {c : ClassFile.Cond} {C : Prop} [hC : Decidable C] (h : cd y pc = some (npc, .if_icmp c off, [n])) {t : Nat} (ht : n.toNat = t) (hv : (cmpC c v w = true) = C) : Ok d y pc ls (pI w :: pI v :: st) G mi Q = if C then Ok d y t ls st G mi Q else Ok d y npc ls st G mi Q := by
  subst ht; subst hv
  by_cases hh : cmpC c v w = true
  · rw [if_pos hh]
    exact ok_nx h rfl (by simp only [sI, op2, hh, if_true]; rfl)
  · rw [if_neg hh]
    exact ok_nx h rfl (by simp only [sI, op2, nx]; rw [if_neg hh])
theorem cc_eq : (cmpC .eq v w = true) = (v = w) := by simp [cmpC]
theorem cc_ne : (cmpC .ne v w = true) = ¬ v = w := by simp [cmpC]
theorem cc_lt : (cmpC .lt v w = true) = (v < w) := by simp [cmpC]
theorem cc_ge : (cmpC .ge v w = true) = (w ≤ v) := by simp [cmpC]
theorem cc_gt : (cmpC .gt v w = true) = (w < v) := by simp [cmpC]
theorem cc_le : (cmpC .le v w = true) = (v ≤ w) := by simp [cmpC]
theorem kk_ifnull_s (h : cd y pc = some (npc, .ifnull off, [n])) : Ok d y pc ls (pR (some o) :: st) G mi Q = Ok d y npc ls st G mi Q := ok_nx h rfl rfl
theorem kk_ifnull_n (h : cd y pc = some (npc, .ifnull off, [n])) {t : Nat} (ht : n.toNat = t) : Ok d y pc ls (pR none :: st) G mi Q = Ok d y t ls st G mi Q := by subst ht; exact ok_nx h rfl rfl
theorem kk_ifnonnull_s (h : cd y pc = some (npc, .ifnonnull off, [n])) {t : Nat} (ht : n.toNat = t) : Ok d y pc ls (pR (some o) :: st) G mi Q = Ok d y t ls st G mi Q := by subst ht; exact ok_nx h rfl rfl
theorem kk_ifnonnull_n (h : cd y pc = some (npc, .ifnonnull off, [n])) : Ok d y pc ls (pR none :: st) G mi Q = Ok d y npc ls st G mi Q := ok_nx h rfl rfl
def swO (P : Nat → Prop) (x d : Int) : List Int → Prop
  | v :: t :: r => if x = v then P t.toNat else swO P x d r
  | _ => P d.toNat
theorem swO_eq (P : Nat → Prop) (x d : Int) : ∀ (m : Nat) (l : List Int), l.length ≤ m → P (swL x d l).toNat = swO P x d l := by
  intro m
  induction m with
  | zero =>
    intro l hl
    cases l with
    | nil => rfl
    | cons a l => simp at hl
  | succ m ih =>
    intro l hl
    match l, hl with
    | [], _ => rfl
    | [a], _ => rfl
    | a :: t :: r, hl =>
      simp only [swL, swO]
      by_cases hx : x = a
      · rw [if_pos hx, if_pos hx]
      · rw [if_neg hx, if_neg hx]
        exact ih r (by simp at hl; omega)
theorem kk_tsw {a b : Int} {offs : Array Int} {e : Int} (h : cd y pc = some (npc, .tableswitch off a b offs, e :: aux)) : Ok d y pc ls (pI v :: st) G mi Q = swO (fun t => Ok d y t ls st G mi Q) v e aux := by
  rw [← swO_eq (fun t => Ok d y t ls st G mi Q) v e aux.length aux (Nat.le_refl _)]
  exact ok_nx h rfl rfl
theorem kk_lsw {ps : Array (Int × Int)} {e : Int} (h : cd y pc = some (npc, .lookupswitch off ps, e :: aux)) : Ok d y pc ls (pI v :: st) G mi Q = swO (fun t => Ok d y t ls st G mi Q) v e aux := by
  rw [← swO_eq (fun t => Ok d y t ls st G mi Q) v e aux.length aux (Nat.le_refl _)]
  exact ok_nx h rfl rfl
theorem kk_gfi (h : cd y pc = some (npc, .getfield i, n :: 0 :: aux)) (hk : ((gK G o).1 : Int) ∈ aux) : Ok d y pc ls (pR (some o) :: st) G mi Q = Ok d y npc ls (pI (mi o n) :: st) G mi Q := ok_nx h rfl (by simp only [sI, List.drop_succ_cons, List.drop_zero, hk, if_true, a0, a1, List.getD_cons_zero, List.getD_cons_succ]; rfl)
theorem kk_gfz (h : cd y pc = some (npc, .getfield i, n :: 2 :: aux)) (hk : ((gK G o).1 : Int) ∈ aux) : Ok d y pc ls (pR (some o) :: st) G mi Q = Ok d y npc ls (pI (mi o n) :: st) G mi Q := ok_nx h rfl (by simp only [sI, List.drop_succ_cons, List.drop_zero, hk, if_true, a0, a1, List.getD_cons_zero, List.getD_cons_succ]; rfl)
theorem kk_gfr (h : cd y pc = some (npc, .getfield i, n :: 1 :: aux)) (hk : ((gK G o).1 : Int) ∈ aux) : Ok d y pc ls (pR (some o) :: st) G mi Q = Ok d y npc ls (pR (gR G o n) :: st) G mi Q := ok_nx h rfl (by simp only [sI, List.drop_succ_cons, List.drop_zero, hk, if_true, a0, a1, List.getD_cons_zero, List.getD_cons_succ]; rfl)
theorem kk_gfv {e : Nat} (h : cd y pc = some (npc, .getfield i, 0 :: 3 :: aux)) (he : rcv G (pE e) = 500) : Ok d y pc ls (pE e :: st) G mi Q = Ok d y npc ls (pE (e + 1) :: st) G mi Q := ok_nx h rfl (by simp only [sI, he, a1, List.getD_cons_zero, List.getD_cons_succ, and_self, if_true]; rfl)
theorem kk_gfc {e : Nat} (h : cd y pc = some (npc, .getfield i, 0 :: 4 :: aux)) (he : rcv G (pE e) = 500) : Ok d y pc ls (pE e :: st) G mi Q = Ok d y npc ls (pI 0 :: st) G mi Q := ok_nx h rfl (by simp only [sI, he, a1, List.getD_cons_zero, List.getD_cons_succ]; rfl)
theorem kk_pfi (h : cd y pc = some (npc, .putfield i, n :: 0 :: aux)) (hk : ((gK G o).1 : Int) ∈ aux) : Ok d y pc ls (pI v :: pR (some o) :: st) G mi Q = Ok d y npc ls st G (up mi o n v) Q := ok_nx h rfl (by simp only [sI, List.drop_succ_cons, List.drop_zero, hk, a0, a1, List.getD_cons_zero, List.getD_cons_succ, true_and, true_or, if_true]; rfl)
theorem kk_pfz (h : cd y pc = some (npc, .putfield i, n :: 2 :: aux)) (hk : ((gK G o).1 : Int) ∈ aux) (h0 : 0 ≤ v) (h1 : v ≤ 1) : Ok d y pc ls (pI v :: pR (some o) :: st) G mi Q = Ok d y npc ls st G (up mi o n v) Q := ok_nx h rfl (by simp only [sI, List.drop_succ_cons, List.drop_zero, hk, h0, h1, a0, a1, List.getD_cons_zero, List.getD_cons_succ, true_and, and_self, or_true, if_true]; rfl)
theorem kk_pfr {r : Option Nat} (h : cd y pc = some (npc, .putfield i, n :: 1 :: aux)) (hk : ((gK G o).1 : Int) ∈ aux) : Ok d y pc ls (pR r :: pR (some o) :: st) G mi Q = Ok d y npc ls st (setR G o n r) mi Q := ok_nx h rfl (by simp only [sI, List.drop_succ_cons, List.drop_zero, hk, a0, a1, List.getD_cons_zero, List.getD_cons_succ, and_self, if_true]; rfl)
theorem kk_gs0 (h : cd y pc = some (npc, .getstatic i, [0])) : Ok d y pc ls st G mi Q = Ok d y npc ls (pI 1 :: st) G mi Q := ok_nx h rfl rfl
theorem kk_gs1 (h : cd y pc = some (npc, .getstatic i, [1])) : Ok d y pc ls st G mi Q = Ok d y npc ls (pE 1000 :: st) G mi Q := ok_nx h rfl rfl
theorem kk_alen (h : cd y pc = some (npc, .arraylength, [])) (hk : 20 ≤ (gK G o).1) : Ok d y pc ls (pR (some o) :: st) G mi Q = Ok d y npc ls (pI (gK G o).2 :: st) G mi Q := ok_nx h rfl (by simp only [sI, hk, if_true]; rfl)
theorem kk_alenS (h : cd y pc = some (npc, .arraylength, [])) : Ok d y pc ls (pE 0 :: st) G mi Q = Ok d y npc ls (pI (gL G) :: st) G mi Q := ok_nx h rfl rfl
theorem kk_alenB {e : Nat} (h : cd y pc = some (npc, .arraylength, [])) (h0 : ¬ e = 0) (h1 : e % 2 = 0) (h2 : e ≤ 2 * sTexts.length) : Ok d y pc ls (pE e :: st) G mi Q = Ok d y npc ls (pI (sBytes (e / 2 - 1)).length :: st) G mi Q := ok_nx h rfl (by simp only [sI, h0, h1, h2, if_false, and_self, if_true]; rfl)
theorem kk_iald (h : cd y pc = some (npc, .iaload, [])) (hk : (gK G o).1 = 20) (h0 : 0 ≤ v) (h1 : v < (gK G o).2) : Ok d y pc ls (pI v :: pR (some o) :: st) G mi Q = Ok d y npc ls (pI (mi o v) :: st) G mi Q := ok_nx h rfl (by simp only [sI, hk, h0, h1, and_self, if_true]; rfl)
theorem kk_ialdS (h : cd y pc = some (npc, .iaload, [])) (h0 : 0 ≤ v) (h1 : v < gL G) : Ok d y pc ls (pI v :: pE 0 :: st) G mi Q = Ok d y npc ls (pI (gX G v) :: st) G mi Q := ok_nx h rfl (by simp only [sI, h0, h1, and_self, if_true]; rfl)
theorem kk_bald (h : cd y pc = some (npc, .baload, [])) (hk : (gK G o).1 = 21) (h0 : 0 ≤ v) (h1 : v < (gK G o).2) : Ok d y pc ls (pI v :: pR (some o) :: st) G mi Q = Ok d y npc ls (pI (mi o v) :: st) G mi Q := ok_nx h rfl (by simp only [sI, hk, h0, h1, and_self, if_true]; rfl)
theorem kk_baldB {e : Nat} (h : cd y pc = some (npc, .baload, [])) (h4 : 0 < e) (h3 : e % 2 = 0) (h2 : e ≤ 2 * sTexts.length) (h0 : 0 ≤ v) (h1 : v < (sBytes (e / 2 - 1)).length) : Ok d y pc ls (pI v :: pE e :: st) G mi Q = Ok d y npc ls (pI ((sBytes (e / 2 - 1)).getD v.toNat 0) :: st) G mi Q := ok_nx h rfl (by simp only [sI, h0, h1, h2, h3, h4, and_self, if_true]; rfl)
theorem kk_aald (h : cd y pc = some (npc, .aaload, [])) (hk : (gK G o).1 = 22) (h0 : 0 ≤ v) (h1 : v < (gK G o).2) : Ok d y pc ls (pI v :: pR (some o) :: st) G mi Q = Ok d y npc ls (pR (gR G o v) :: st) G mi Q := ok_nx h rfl (by simp only [sI, hk, h0, h1, and_self, if_true]; rfl)
theorem kk_iast (h : cd y pc = some (npc, .iastore, [])) (hk : (gK G o).1 = 20) (h0 : 0 ≤ v) (h1 : v < (gK G o).2) : Ok d y pc ls (pI w :: pI v :: pR (some o) :: st) G mi Q = Ok d y npc ls st G (up mi o v w) Q := ok_nx h rfl (by simp only [sI, hk, h0, h1, and_self, if_true]; rfl)
theorem kk_bast (h : cd y pc = some (npc, .bastore, [])) (hk : (gK G o).1 = 21) (h0 : 0 ≤ v) (h1 : v < (gK G o).2) (h2 : 0 ≤ w) (h3 : w ≤ 1) : Ok d y pc ls (pI w :: pI v :: pR (some o) :: st) G mi Q = Ok d y npc ls st G (up mi o v w) Q := ok_nx h rfl (by simp only [sI, hk, h0, h1, h2, h3, and_self, if_true]; rfl)
theorem kk_aast {r : Option Nat} (h : cd y pc = some (npc, .aastore, [])) (hk : (gK G o).1 = 22) (h0 : 0 ≤ v) (h1 : v < (gK G o).2) (h2 : thgO G r = true) : Ok d y pc ls (pR r :: pI v :: pR (some o) :: st) G mi Q = Ok d y npc ls st (setR G o v r) mi Q := ok_nx h rfl (by simp only [sI, hk, h0, h1, h2, and_self, if_true]; rfl)
theorem kk_new {a b : Int} (h : cd y pc = some (npc, .new i, [a, b])) {A B : Nat} (ha : a.toNat = A) (hb : b.toNat = B) : Ok d y pc ls st G mi Q = Ok d y npc ls (pR (some (gN G)) :: st) (newG G (A, 0) B) (newM G mi) Q := by subst ha; subst hb; exact ok_nx h rfl rfl
theorem kk_newa {t : ClassFile.ArrayType} {a : Int} (h : cd y pc = some (npc, .newarray t, [a])) {A : Nat} (ha : a.toNat = A) (h0 : 0 ≤ v) (h1 : v < 100000) : Ok d y pc ls (pI v :: st) G mi Q = Ok d y npc ls (pR (some (gN G)) :: st) (newG G (A, v.toNat) v.toNat) (newM G mi) Q := by subst ha; exact ok_nx h rfl (by simp only [sI, op1, h0, h1, and_self, if_true]; rfl)
theorem kk_anewa (h : cd y pc = some (npc, .anewarray i, [])) (h0 : 0 ≤ v) (h1 : v < 100000) : Ok d y pc ls (pI v :: st) G mi Q = Ok d y npc ls (pR (some (gN G)) :: st) (newG G (22, v.toNat) v.toNat) (newM G mi) Q := ok_nx h rfl (by simp only [sI, op1, h0, h1, and_self, if_true]; rfl)
theorem kk_inst (h : cd y pc = some (npc, .instanceof i, aux)) (hk : thg (gK G o).1 = true) : Ok d y pc ls (pR (some o) :: st) G mi Q = Ok d y npc ls (pI (if ((gK G o).1 : Int) ∈ aux then 1 else 0) :: st) G mi Q := ok_nx h rfl (by simp only [sI, hk, if_true]; rfl)
theorem kk_objI (h : cd y pc = some (npc, .invokespecial i, [0])) (hl : rOK st = true) : Ok (d + 1) y pc ls (pR (some o) :: st) G mi Q = Ok (d + 1) y npc ls st G mi Q := ok_nx h rfl (by simp only [sI, a0, List.getD_cons_zero, if_true, hl, Nat.le_add_left, and_self, nx])
theorem kk_spc {a b : Int} {st0 : List PV} {t : PV × List PV × List PV} (h : cd y pc = some (npc, .invokespecial i, 1 :: a :: b :: aux)) (ht : takeA a.toNat st0 = (t.2.1, t.1 :: t.2.2)) (hr : isR t.1 = true) (hl : rOK t.2.2 = true) : Ok (d + 1) y pc ls st0 G mi Q = OkC d b.toNat (t.1 :: t.2.1) G mi (fun r G' mi' => Ok (d + 1) y npc ls (pu r t.2.2) G' mi' Q) :=
  ok_call h rfl (by simp only [sI, a0, a1, a2, List.getD_cons_zero, List.getD_cons_succ, ht, hr, hl, true_or, and_self, if_true]; rfl)
theorem kk_sup {a b : Int} {st0 : List PV} {t : PV × List PV × List PV} (h : cd y pc = some (npc, .invokespecial i, 2 :: a :: b :: aux)) (ht : takeA a.toNat st0 = (t.2.1, t.1 :: t.2.2)) (hr : isR t.1 = true) (hc : rcv G t.1 ∈ aux) (hl : rOK t.2.2 = true) : Ok (d + 1) y pc ls st0 G mi Q = OkC d b.toNat (t.1 :: t.2.1) G mi (fun r G' mi' => Ok (d + 1) y npc ls (pu r t.2.2) G' mi' Q) :=
  ok_call h rfl (by simp only [sI, a0, a1, a2, List.getD_cons_zero, List.getD_cons_succ, ht, hr, hl, hc, List.drop_succ_cons, List.drop_zero, or_true, and_self, if_true]; rfl)
theorem kk_sta {a b e : Int} {st0 : List PV} {t : List PV × List PV} (h : cd y pc = some (npc, .invokestatic i, e :: a :: b :: aux)) (he : e = 0 ∨ e = 1) (ht : takeA a.toNat st0 = t) (hs : a.toNat ≤ st0.length) (hl : rOK t.2 = true) : Ok (d + 1) y pc ls st0 G mi Q = OkC d b.toNat t.1 G mi (fun r G' mi' => Ok (d + 1) y npc ls (pu r t.2) G' mi' Q) := by
  subst ht
  refine ok_call h rfl ?_
  rcases he with rfl | rfl <;> simp [sI, a0, a1, a2, hs, hl]
theorem kk_max (h : cd y pc = some (npc, .invokestatic i, [2])) (hl : rOK st = true) : Ok (d + 1) y pc ls (pI w :: pI v :: st) G mi Q = Ok (d + 1) y npc ls (pI (if v < w then w else v) :: st) G mi Q := ok_nx h rfl (by simp only [sI, a0, List.getD_cons_zero, if_true, op2, hl, Nat.le_add_left, and_self, nx])
theorem kk_min (h : cd y pc = some (npc, .invokestatic i, [3])) (hl : rOK st = true) : Ok (d + 1) y pc ls (pI w :: pI v :: st) G mi Q = Ok (d + 1) y npc ls (pI (if w < v then w else v) :: st) G mi Q := ok_nx h rfl (by simp [sI, a0, op2, hl, nx])
theorem kk_abs (h : cd y pc = some (npc, .invokestatic i, [4])) (hl : rOK st = true) : Ok (d + 1) y pc ls (pI v :: st) G mi Q = Ok (d + 1) y npc ls (pI (if 0 ≤ v then v else wr (0 - v)) :: st) G mi Q := ok_nx h rfl (by simp [sI, a0, op1, hl, nx])
theorem kk_copy {a b : Nat} {sp dp : Int} (h : cd y pc = some (npc, .invokestatic i, [5])) (hl : rOK st = true) (ha : (gK G a).1 = 20) (hb : (gK G b).1 = 20) (hab : a ≠ b) (h1 : 0 ≤ sp) (h2 : 0 ≤ dp) (h3 : 0 ≤ n) (h4 : sp + n ≤ (gK G a).2) (h5 : dp + n ≤ (gK G b).2) : Ok (d + 1) y pc ls (pI n :: pI dp :: pR (some b) :: pI sp :: pR (some a) :: st) G mi Q = Ok (d + 1) y npc ls st G (cpy mi a sp b dp n) Q :=
  ok_nx h rfl (by simp [sI, a0, hl, nx, ha, hb, hab, h1, h2, h3, h4, h5])
theorem kk_vir {a : Int} {st0 : List PV} {t : PV × List PV × List PV} {z : Int} (h : cd y pc = some (npc, .invokevirtual i, a :: aux)) (ht : takeA a.toNat st0 = (t.2.1, t.1 :: t.2.2)) (hc : dsp (rcv G t.1) aux = some z) (hl : rOK t.2.2 = true) : Ok (d + 1) y pc ls st0 G mi Q = OkC d z.toNat (t.1 :: t.2.1) G mi (fun r G' mi' => Ok (d + 1) y npc ls (pu r t.2.2) G' mi' Q) :=
  ok_call h rfl (by simp only [sI, ia, a0, List.getD_cons_zero, ht, List.drop_succ_cons, List.drop_zero, hc, hl, if_true])
theorem kk_iret (h : cd y pc = some (npc, .ireturn, aux)) (hr : retOk (mY y).2.2.2 v = true) : Ok d y pc ls [pI v] G mi Q = Q (some (pI v)) G mi := ok_ret h rfl (by simp only [retv, h, hr, if_true])
theorem kk_lret (h : cd y pc = some (npc, .lreturn, aux)) : Ok d y pc ls [pL v] G mi Q = Q (some (pL v)) G mi := ok_ret h rfl (by simp only [retv, h])
theorem kk_aret {r : Option Nat} (h : cd y pc = some (npc, .areturn, aux)) : Ok d y pc ls [pR r] G mi Q = Q (some (pR r)) G mi := ok_ret h rfl (by simp only [retv, h])
theorem kk_vret (h : cd y pc = some (npc, .return_, aux)) : Ok d y pc ls [] G mi Q = Q none G mi := ok_ret h rfl (by simp only [retv, h])
theorem kk_ent {as : List PV} {K : Option PV → Gh → Mi → Prop} {m : Nat} {ls : Lcs} (h : maxLY y = m) (hl : (ent as).length ≤ m) (hi : ent as ++ List.replicate (m - (ent as).length) none = ls) : OkC d y as G mi K = Ok d y 0 ls [] G mi K := by
  subst h; subst hi
  exact propext ⟨fun h => h.2, fun h => ⟨hl, h⟩⟩
end KK
end
section
/-! ===== the tie: values, cells, states (written by wip/whole/gen/gensound1.py) ===== -/
def sLens : List Nat := sTexts.map List.length
def sByts : List (List Int32) := sTexts.map (fun t => t.map Int32.ofInt)
def strL : List (String × Nat × String × Nat) := [("CoinTelescope$View", 79, "coinaddshazedeardull", 0), ("CoinTelescope$View", 100, "pkvctl", 1), ("CoinTelescope$View", 106, "<=>", 2), ("CoinTelescopeModel", 124, "coin ", 3), ("CoinTelescopeModel", 129, "adds ", 4), ("CoinTelescopeModel", 131, "haze ", 5), ("CoinTelescopeModel", 116, "ear ", 6), ("CoinTelescopeModel", 98, "pkvctl", 1), ("CoinTelescopeModel", 104, "<=>", 2), ("CoinTelescopeModel", 122, "ull ", 7)]
def nestL : List (String × Nat × MethodName × String) := [("CoinTelescope$View", 111, ⟨"CoinTelescope", "isIn", "([II)Z"⟩, "CoinTelescope"), ("CoinTelescope$State", 56, ⟨"CoinTelescope", "isIn", "([II)Z"⟩, "CoinTelescope"), ("CoinTelescope$Thing", 23, ⟨"CoinTelescope", "rowOf", "(I)I"⟩, "CoinTelescope"), ("CoinTelescope$View", 123, ⟨"CoinTelescope", "bit", "(Z)I"⟩, "CoinTelescope"), ("CoinTelescope$Ship", 15, ⟨"CoinTelescope", "columnOf", "(I)I"⟩, "CoinTelescope"), ("CoinTelescope$Search", 67, ⟨"CoinTelescope", "isIn", "([II)Z"⟩, "CoinTelescope"), ("CoinTelescope$Search", 89, ⟨"CoinTelescope", "copy", "([I[I)V"⟩, "CoinTelescope"), ("CoinTelescope$Search", 93, ⟨"CoinTelescope", "moved", "(II)I"⟩, "CoinTelescope"), ("CoinTelescope$Search", 100, ⟨"CoinTelescope", "far", "(II)I"⟩, "CoinTelescope"), ("CoinTelescope$Table", 37, ⟨"CoinTelescope", "copy", "([I[I)V"⟩, "CoinTelescope"), ("CoinTelescope$State", 120, ⟨"CoinTelescope", "copy", "([I[I)V"⟩, "CoinTelescope")]
def castL : List (String × String) := [("CoinTelescope$Bird", "CoinTelescope$Thing"), ("CoinTelescope$Boat", "CoinTelescope$Thing"), ("CoinTelescope$House", "CoinTelescope$Thing"), ("CoinTelescope$Ship", "CoinTelescope$Boat"), ("CoinTelescope$Ship", "CoinTelescope$Thing"), ("CoinTelescope$Spire", "CoinTelescope$House"), ("CoinTelescope$Spire", "CoinTelescope$Thing"), ("CoinTelescope$Told", "CoinTelescope$Bird"), ("CoinTelescope$Told", "CoinTelescope$Thing")]
def ncastL : List (String × String) := [("CoinTelescope$Boat", "CoinTelescope$Bird"), ("CoinTelescope$House", "CoinTelescope$Bird"), ("CoinTelescope$Ship", "CoinTelescope$Bird"), ("CoinTelescope$Spire", "CoinTelescope$Bird"), ("CoinTelescope$Thing", "CoinTelescope$Bird"), ("CoinTelescope$Bird", "CoinTelescope$Boat"), ("CoinTelescope$House", "CoinTelescope$Boat"), ("CoinTelescope$Spire", "CoinTelescope$Boat"), ("CoinTelescope$Thing", "CoinTelescope$Boat"), ("CoinTelescope$Told", "CoinTelescope$Boat"), ("CoinTelescope$Bird", "CoinTelescope$House"), ("CoinTelescope$Boat", "CoinTelescope$House"), ("CoinTelescope$Ship", "CoinTelescope$House"), ("CoinTelescope$Thing", "CoinTelescope$House"), ("CoinTelescope$Told", "CoinTelescope$House"), ("CoinTelescope$Bird", "CoinTelescope$Ship"), ("CoinTelescope$Boat", "CoinTelescope$Ship"), ("CoinTelescope$House", "CoinTelescope$Ship"), ("CoinTelescope$Spire", "CoinTelescope$Ship"), ("CoinTelescope$Thing", "CoinTelescope$Ship"), ("CoinTelescope$Told", "CoinTelescope$Ship"), ("CoinTelescope$Bird", "CoinTelescope$Spire"), ("CoinTelescope$Boat", "CoinTelescope$Spire"), ("CoinTelescope$House", "CoinTelescope$Spire"), ("CoinTelescope$Ship", "CoinTelescope$Spire"), ("CoinTelescope$Thing", "CoinTelescope$Spire"), ("CoinTelescope$Told", "CoinTelescope$Spire"), ("CoinTelescope$Bird", "CoinTelescope$Told"), ("CoinTelescope$Boat", "CoinTelescope$Told"), ("CoinTelescope$House", "CoinTelescope$Told"), ("CoinTelescope$Ship", "CoinTelescope$Told"), ("CoinTelescope$Spire", "CoinTelescope$Told"), ("CoinTelescope$Thing", "CoinTelescope$Told")]
abbrev Cx : Type := va_G × (ClassId × ClassId × ClassId) × Nat × (Nat → Nat) × (Nat → Nat) × (Nat × Nat × (Nat → Int32)) × Value
abbrev xD (X : Cx) : va_G := X.1
abbrev xI (X : Cx) : ClassId := X.2.1.1
abbrev xZ (X : Cx) : ClassId := X.2.1.2.1
abbrev xT (X : Cx) : ClassId := X.2.1.2.2
abbrev xb (X : Cx) : Nat := X.2.2.1
abbrev xK (X : Cx) : Nat → Nat := X.2.2.2.1
abbrev xV (X : Cx) : Nat → Nat := X.2.2.2.2.1
abbrev xs (X : Cx) : Nat × Nat × (Nat → Int32) := X.2.2.2.2.2.1
abbrev xF (X : Cx) : Value := X.2.2.2.2.2.2
def AX (X : Cx) : Nat → Prop := fun q => xb X ≤ q
abbrev tysX (X : Cx) : List (ClassId × FieldType) := [(xI X, .int), (xZ X, .boolean), (xT X, .object "CoinTelescope$Thing")]
def evX (X : Cx) (e : Nat) : Value := if e = 0 then .ref (xs X).1 else if e % 2 = 1 ∧ e < 2 * sTexts.length then .ref (xK X (e / 2)) else if e % 2 = 0 ∧ e ≤ 2 * sTexts.length then .ref (xV X (e / 2 - 1)) else xF X
def rfX (X : Cx) (r : Option Nat) : Option Nat := r.map (fun o => xb X + o)
def trV (X : Cx) : PV → Value
  | .inl i => .int (Int32.ofInt i)
  | .inr (.inl l) => .long (Int64.ofInt l)
  | .inr (.inr (.inl r)) => va_rf (rfX X r)
  | .inr (.inr (.inr e)) => evX X e
def in32 (x : Int) : Prop := -2147483648 ≤ x ∧ x ≤ 2147483647
def in64 (x : Int) : Prop := -9223372036854775808 ≤ x ∧ x ≤ 9223372036854775807
def okV : PV → Prop
  | .inl i => in32 i
  | .inr (.inl l) => in64 l
  | _ => True
def okL (L : Lcs) : Prop := ∀ (i : Nat) (v : PV), lg L i = some v → okV v
def clN (ci : Nat) : Nat := (rfT.getD ci []).length
def fvs (X : Cx) (G : Gh) (mi : Mi) (o ci : Nat) : List Value := (List.range (clN ci)).map (fun k => if (rfT.getD ci []).getD k false = true then va_rf (rfX X (gR G o k)) else .int (Int32.ofInt (mi o k)))
def entX (X : Cx) (G : Gh) (mi : Mi) (o : Nat) : va_E :=
  if (gK G o).1 < 20 then .inr ((gK G o).1 - 1, fvs X G mi o ((gK G o).1 - 1))
  else if (gK G o).1 = 20 then .inl (xI X, (gK G o).2, .inl fun j => Int32.ofInt (mi o j))
  else if (gK G o).1 = 21 then .inl (xZ X, (gK G o).2, .inl fun j => Int32.ofInt (mi o j))
  else .inl (xT X, (gK G o).2, .inr (.inr (.inr (.inr fun j => rfX X (gR G o j)))))
def wlX (X : Cx) (G : Gh) (mi : Mi) : va_W := (List.range (gN G)).map fun o => (xb X + o, entX X G mi o)
def gOK (X : Cx) (G : Gh) : Prop := (∀ o, (gK G o).1 ≠ 0 → o < gN G) ∧ (∀ o, (gK G o).1 ≤ 13 ∨ 20 ≤ (gK G o).1 ∧ (gK G o).1 ≤ 22) ∧ (∀ o, (gK G o).2 < 100000) ∧ gL G = (xs X).2.1 ∧ ∀ i : Int, 0 ≤ i → i < gL G → gX G i = ((xs X).2.2 i.toNat).toInt
def InvS (X : Cx) (G : Gh) (mi : Mi) (H : Heap) : Prop := va_P (xD X) vwCl (wlX X G mi) H ∧ (∀ a j, in32 (mi a j)) ∧ gOK X G
def Inv (X : Cx) (G : Gh) (mi : Mi) (s : State) (H : Heap) (locs : List Loc) : Prop := InvS X G mi H ∧ va_S (AX X) s.heap H locs
def prs (X : Cx) (L : Lcs) : List (Nat × Value) := (List.range L.length).filterMap (fun i => (lg L i).map (fun v => (i, trV X v)))
def LR (X : Cx) (nL : Nat) (ls : Array Slot) (L : Lcs) : Prop := lv_has ls nL (prs X L) ∧ L.length = nL
def EnvU (X : Cx) (U : State) (H : Heap) : Prop :=
  va_K (xD X) vwCl (tysX X) U ∧ (va_X (xs X).1 (xs X).2.1 (xs X).2.2 U H ∧ (xs X).1 < xb X ∧ (xs X).2.1 ≤ 2048) ∧ vk_S sTexts.length sLens sByts (xK X) (xV X) (AX X) U H ∧
  (∀ q ∈ strL, vk_R q.1 q.2.1 q.2.2.1 (xK X q.2.2.2) U) ∧ va_Z "java/lang/String" "COMPACT_STRINGS" "Z" (.int 1) (AX X) U H ∧
  (va_Z "jdk/internal/util/Preconditions" "SIOOBE_FORMATTER" "Ljava/util/function/BiFunction;" (xF X) (AX X) U H ∧ (xF X = .null ∨ ∃ a, xF X = .ref a)) ∧
  (∀ q ∈ nestL, va_Nw (.methodLinkNest q.1 q.2.1 q.2.2.1 q.2.2.2) U) ∧ (∀ q ∈ castL, va_Nw (.castable q.1 q.2) U) ∧ (∀ q ∈ ncastL, va_Nc q.1 q.2 U) ∧ va_AO "CoinTelescope$Thing" U
theorem lg_some {L : Lcs} {i : Nat} {v : PV} (h : lg L i = some v) : i < L.length ∧ L[i]? = some (some v) := by
  unfold lg at h
  rw [List.getD_eq_getElem?_getD] at h
  cases hx : L[i]? with
  | none => rw [hx] at h; cases h
  | some w =>
    rw [hx] at h
    have : w = some v := h
    subst this
    exact ⟨(List.getElem?_eq_some_iff.mp hx).1, rfl⟩
theorem prs_mem {X : Cx} {L : Lcs} {i : Nat} {v : PV} (h : lg L i = some v) : (i, trV X v) ∈ prs X L :=
  List.mem_filterMap.mpr ⟨i, List.mem_range.mpr (lg_some h).1, by rw [h]; rfl⟩
theorem prs_of {X : Cx} {L : Lcs} {q : Nat × Value} (h : q ∈ prs X L) : ∃ v, lg L q.1 = some v ∧ q.2 = trV X v := by
  obtain ⟨i, -, hi⟩ := List.mem_filterMap.mp h
  cases hx : lg L i with
  | none => rw [hx] at hi; cases hi
  | some v =>
    rw [hx] at hi
    have e : (i, trV X v) = q := Option.some.inj hi
    subst e
    exact ⟨v, hx, rfl⟩
theorem LR.at {X : Cx} {nL : Nat} {ls : Array Slot} {L : Lcs} (h : LR X nL ls L) {i : Nat} {v : PV} (hl : lg L i = some v) : ls[i]? = some (.val (trV X v)) := h.1.2.2 _ (prs_mem hl)
theorem evX_ref {X : Cx} {U : State} {H : Heap} (hE : EnvU X U H) (e : Nat) : evX X e = .null ∨ ∃ a, evX X e = .ref a := by
  unfold evX
  split
  · exact Or.inr ⟨_, rfl⟩
  · split
    · exact Or.inr ⟨_, rfl⟩
    · split
      · exact Or.inr ⟨_, rfl⟩
      · exact hE.2.2.2.2.2.1.2
theorem trR_ref {X : Cx} {U : State} {H : Heap} (hE : EnvU X U H) (r : Option Nat ⊕ Nat) : trV X (.inr (.inr r)) = .null ∨ ∃ a, trV X (.inr (.inr r)) = .ref a := by
  cases r with
  | inl r => cases r with
    | none => exact Or.inl rfl
    | some a => exact Or.inr ⟨_, rfl⟩
  | inr e => exact evX_ref hE e
theorem tr_cat1 {X : Cx} {U : State} {H : Heap} (hE : EnvU X U H) {v : PV} (h : isL (some v) = false) : (trV X v).category = 1 := by
  match v, h with
  | .inl i, _ => rfl
  | .inr (.inl l), h => cases h
  | .inr (.inr r), _ => rcases trR_ref hE r with h | ⟨a, h⟩ <;> rw [h] <;> rfl
theorem lg_set {L : Lcs} {i j : Nat} {v : Option PV} : lg (L.set i v) j = if i = j ∧ j < L.length then v else lg L j := by
  unfold lg
  rw [List.getD_eq_getElem?_getD, List.getD_eq_getElem?_getD, List.getElem?_set]
  by_cases h : i = j
  · subst h
    by_cases h2 : i < L.length
    · simp [h2]
    · have : L[i]? = none := List.getElem?_eq_none_iff.mpr (by omega)
      simp [h2]
  · simp [h]
theorem LR.store {X : Cx} {U : State} {H : Heap} (hE : EnvU X U H) {nL : Nat} {ls : Array Slot} {L : Lcs} {i : Nat} {w : Value} {v : PV} (h : LR X nL ls L) (hw : trV X v = w) (hs : okSt L i = true) (hi : i < L.length) {ls' : Array Slot}
    (h' : lv_has ls' nL ((i, w) :: (prs X L).filter (fun q => !(q.1 == i) && !(q.1 + 1 == i && q.2.category == 2)))) : LR X nL ls' (L.set i (some v)) := by
  refine ⟨⟨h'.1, h'.2.1, fun q hq => ?_⟩, by rw [List.length_set]; exact h.2⟩
  obtain ⟨u, hu, hqu⟩ := prs_of hq
  rw [lg_set] at hu
  by_cases hj : i = q.1 ∧ q.1 < L.length
  · rw [if_pos hj] at hu
    cases hu
    have h0 := h'.2.2 (i, w) List.mem_cons_self
    rw [← hj.1, hqu, hw]
    exact h0
  · rw [if_neg hj] at hu
    have hlt := (lg_some hu).1
    have hne : ¬ q.1 = i := fun z => hj ⟨z.symm, hlt⟩
    refine h'.2.2 q (List.mem_cons_of_mem _ (List.mem_filter.mpr ⟨?_, ?_⟩))
    · have := prs_mem (X := X) hu
      rw [← hqu] at this
      exact this
    · have h1 : (q.1 == i) = false := by simpa using hne
      rw [h1]
      by_cases h2 : q.1 + 1 = i
      · have h3 : okSt L (q.1 + 1) = true := by rw [h2]; exact hs
        have h4 : isL (lg L q.1) = false := by simpa [okSt] using h3
        rw [hu] at h4
        have h5 := tr_cat1 hE h4
        rw [hqu, h5]
        simp
      · have h3 : (q.1 + 1 == i) = false := by simpa using h2
        rw [h3]
        rfl
theorem okL.set {L : Lcs} (h : okL L) {i : Nat} {v : PV} (hv : okV v) : okL (L.set i (some v)) := by
  intro j w hw
  rw [lg_set] at hw
  split at hw
  · cases hw; exact hv
  · exact h j w hw
theorem okL.setN {L : Lcs} (h : okL L) {i : Nat} : okL (L.set i none) := by
  intro j w hw
  rw [lg_set] at hw
  split at hw
  · cases hw
  · exact h j w hw
theorem LR.storeL {X : Cx} {U : State} {H : Heap} (hE : EnvU X U H) {nL : Nat} {ls : Array Slot} {L : Lcs} {i : Nat} {w : Value} {v : PV} (h : LR X nL ls L) (hw : trV X v = w) (hs : okSt L i = true) (hi : i + 1 < L.length) {ls' : Array Slot}
    (h' : lv_has ls' nL ((i, w) :: (prs X L).filter (fun q => !(q.1 == i) && (!(q.1 == i + 1) && !(q.1 + 1 == i && q.2.category == 2))))) : LR X nL ls' ((L.set i (some v)).set (i + 1) none) := by
  refine ⟨⟨h'.1, h'.2.1, fun q hq => ?_⟩, by rw [List.length_set, List.length_set]; exact h.2⟩
  obtain ⟨u, hu, hqu⟩ := prs_of hq
  rw [lg_set] at hu
  by_cases hj1 : i + 1 = q.1 ∧ q.1 < (L.set i (some v)).length
  · rw [if_pos hj1] at hu; cases hu
  · rw [if_neg hj1, lg_set] at hu
    by_cases hj : i = q.1 ∧ q.1 < L.length
    · rw [if_pos hj] at hu
      cases hu
      have h0 := h'.2.2 (i, w) List.mem_cons_self
      rw [← hj.1, hqu, hw]
      exact h0
    · rw [if_neg hj] at hu
      have hlt := (lg_some hu).1
      have hne : ¬ q.1 = i := fun z => hj ⟨z.symm, hlt⟩
      have hne1 : ¬ q.1 = i + 1 := fun z => hj1 ⟨z.symm, by rw [List.length_set]; exact hlt⟩
      refine h'.2.2 q (List.mem_cons_of_mem _ (List.mem_filter.mpr ⟨?_, ?_⟩))
      · have := prs_mem (X := X) hu
        rw [← hqu] at this
        exact this
      · have h1 : (q.1 == i) = false := by simpa using hne
        have h1' : (q.1 == i + 1) = false := by simpa using hne1
        rw [h1, h1']
        by_cases h2 : q.1 + 1 = i
        · have h3 : okSt L (q.1 + 1) = true := by rw [h2]; exact hs
          have h4 : isL (lg L q.1) = false := by simpa [okSt] using h3
          rw [hu] at h4
          have h5 := tr_cat1 hE h4
          rw [hqu, h5]
          simp
        · have h3 : (q.1 + 1 == i) = false := by simpa using h2
          rw [h3]
          rfl
/-! numbers -/
theorem wr_of (x : Int) : Int32.ofInt (wr x) = Int32.ofInt x := by
  apply Int32.toInt_inj.mp
  rw [Int32.toInt_ofInt, Int32.toInt_ofInt]
  exact Int.bmod_bmod
theorem wr_in (x : Int) : in32 (wr x) := by
  unfold wr in32
  constructor
  · have := Int.le_bmod (x := x) (m := 4294967296) (by decide)
    simpa using this
  · have := Int.bmod_lt (x := x) (m := 4294967296) (by decide)
    have h : (4294967296 + 1 : Int) / 2 = 2147483648 := by decide
    omega
theorem wl_of (x : Int) : Int64.ofInt (wl x) = Int64.ofInt x := by
  apply Int64.toInt_inj.mp
  rw [Int64.toInt_ofInt, Int64.toInt_ofInt]
  exact Int.bmod_bmod
theorem wl_in (x : Int) : in64 (wl x) := by
  unfold wl in64
  constructor
  · have := Int.le_bmod (x := x) (m := 18446744073709551616) (by decide)
    simpa using this
  · have := Int.bmod_lt (x := x) (m := 18446744073709551616) (by decide)
    have h : (18446744073709551616 + 1 : Int) / 2 = 9223372036854775808 := by decide
    omega
theorem of_to {x : Int} (h : in32 x) : (Int32.ofInt x).toInt = x := Int32.toInt_ofInt_of_le (by have := h.1; omega) (by have := h.2; omega)
theorem of_toL {x : Int} (h : in64 x) : (Int64.ofInt x).toInt = x := Int64.toInt_ofInt_of_le (by have := h.1; omega) (by have := h.2; omega)
theorem to_in (x : Int32) : in32 x.toInt := ⟨by have := Int32.le_toInt x; omega, by have := Int32.toInt_lt x; omega⟩
theorem of_lt {x y : Int} (hx : in32 x) (hy : in32 y) : Int32.ofInt x < Int32.ofInt y ↔ x < y := by rw [Int32.lt_iff_toInt_lt, of_to hx, of_to hy]
theorem of_le {x y : Int} (hx : in32 x) (hy : in32 y) : Int32.ofInt x ≤ Int32.ofInt y ↔ x ≤ y := by rw [Int32.le_iff_toInt_le, of_to hx, of_to hy]
theorem of_eq {x y : Int} (hx : in32 x) (hy : in32 y) : Int32.ofInt x = Int32.ofInt y ↔ x = y := ⟨fun h => by rw [← of_to hx, h, of_to hy], fun h => by rw [h]⟩
theorem in_0 : in32 0 := ⟨by decide, by decide⟩
theorem of_clamp {x : Int} (h : in32 x) : (Int32.ofInt x).toNatClampNeg = x.toNat := by show (Int32.ofInt x).toInt.toNat = _; rw [of_to h]
theorem of_vp {x : Int} {n : Nat} (h : in32 x) (h0 : 0 ≤ x) (h1 : x < n) : vp_in (Int32.ofInt x) n := by
  rintro (h2 | h2)
  · have := (of_lt h in_0).mp h2
    omega
  · rw [of_clamp h] at h2
    omega
theorem of_tdiv {x y : Int} (hx : in32 x) (hy : in32 y) (h : 0 < y) : Int32.ofInt x / Int32.ofInt y = Int32.ofInt (x.tdiv y) := by
  rw [Int32.ofInt_tdiv (show (-2147483648 : Int) ≤ x from hx.1) (show x ≤ (2147483647 : Int) from hx.2) (show (-2147483648 : Int) ≤ y from hy.1) (show y ≤ (2147483647 : Int) from hy.2)]
theorem tdiv_in {x y : Int} (hx : in32 x) (h : 0 < y) : in32 (x.tdiv y) := by
  unfold in32 at hx ⊢
  rcases Int.le_total 0 x with h0 | h0
  · rw [Int.tdiv_eq_ediv_of_nonneg h0]
    have h1 := Int.ediv_nonneg h0 (Int.le_of_lt h)
    have h2 := Int.ediv_le_self y h0
    omega
  · have e : x.tdiv y = -((-x).tdiv y) := by rw [Int.neg_tdiv, Int.neg_neg]
    rw [e, Int.tdiv_eq_ediv_of_nonneg (by omega : 0 ≤ -x)]
    have h1 := Int.ediv_nonneg (by omega : 0 ≤ -x) (Int.le_of_lt h)
    have h2 := Int.ediv_le_self y (by omega : 0 ≤ -x)
    omega
theorem tmod_eq {x y : Int} : x - x.tdiv y * y = x.tmod y := by
  rw [Int.tmod_def, Int.mul_comm]
theorem em_le {x y : Int} (h0 : 0 ≤ x) (h : 0 < y) : x % y ≤ x := by
  have h2 : x % y = x - y * (x / y) := Int.emod_def x y
  have h3 : 0 ≤ y * (x / y) := Int.mul_nonneg (Int.le_of_lt h) (Int.ediv_nonneg h0 (Int.le_of_lt h))
  rw [h2]
  generalize y * (x / y) = t at h3
  omega
theorem tmod_in {x y : Int} (hx : in32 x) (h : 0 < y) : in32 (x.tmod y) := by
  unfold in32 at hx ⊢
  rcases Int.le_total 0 x with h0 | h0
  · rw [Int.tmod_eq_emod_of_nonneg h0]
    have h1 := Int.emod_nonneg x (by omega : y ≠ 0)
    have h2 := em_le h0 h
    omega
  · have e : x.tmod y = -((-x).tmod y) := by rw [Int.neg_tmod, Int.neg_neg]
    rw [e, Int.tmod_eq_emod_of_nonneg (by omega : 0 ≤ -x)]
    have h1 := Int.emod_nonneg (-x) (by omega : y ≠ 0)
    have h2 := em_le (by omega : 0 ≤ -x) h
    omega
end
section
/-! ===== one row for each instruction that is no call: the next state's walk gives this one's (written by wip/whole/gen/gensound2.py) ===== -/
theorem tdiv_in64 {x y : Int} (hx : in64 x) (h : 0 < y) : in64 (x.tdiv y) := by
  unfold in64 at hx ⊢
  rcases Int.le_total 0 x with h0 | h0
  · rw [Int.tdiv_eq_ediv_of_nonneg h0]
    have h1 := Int.ediv_nonneg h0 (Int.le_of_lt h)
    have h2 := Int.ediv_le_self y h0
    omega
  · have e : x.tdiv y = -((-x).tdiv y) := by rw [Int.neg_tdiv, Int.neg_neg]
    rw [e, Int.tdiv_eq_ediv_of_nonneg (by omega : 0 ≤ -x)]
    have h1 := Int.ediv_nonneg (by omega : 0 ≤ -x) (Int.le_of_lt h)
    have h2 := Int.ediv_le_self y (by omega : 0 ≤ -x)
    omega
theorem tmod_in64 {x y : Int} (hx : in64 x) (h : 0 < y) : in64 (x.tmod y) := by
  unfold in64 at hx ⊢
  rcases Int.le_total 0 x with h0 | h0
  · rw [Int.tmod_eq_emod_of_nonneg h0]
    have h1 := Int.emod_nonneg x (by omega : y ≠ 0)
    have h2 := em_le h0 h
    omega
  · have e : x.tmod y = -((-x).tmod y) := by rw [Int.neg_tmod, Int.neg_neg]
    rw [e, Int.tmod_eq_emod_of_nonneg (by omega : 0 ≤ -x)]
    have h1 := Int.emod_nonneg (-x) (by omega : y ≠ 0)
    have h2 := em_le (by omega : 0 ≤ -x) h
    omega
theorem of_tdivL {x y : Int} (hx : in64 x) (hy : in64 y) (h : 0 < y) : Int64.ofInt x / Int64.ofInt y = Int64.ofInt (x.tdiv y) := by
  rw [Int64.ofInt_tdiv (show (-9223372036854775808 : Int) ≤ x from hx.1) (show x ≤ (9223372036854775807 : Int) from hx.2) (show (-9223372036854775808 : Int) ≤ y from hy.1) (show y ≤ (9223372036854775807 : Int) from hy.2)]
def WC (X : Cx) (p : Program) (l : Launch) (e : Env) (R : Room) (s : State) (m : MethodId) (args : Array Value) (below : List Frame) (meth : Method) (c : Code) (Q : State → Prop) (nL pc : Nat) (L : Lcs) (st : List PV) (G : Gh) (mi : Mi) (cells slots : Nat) : Prop :=
  ∀ (ls : Array Slot) (H : Heap) (locs : List Loc), Inv X G mi s H locs → LR X nL ls L → okL L → (∀ v ∈ st, okV v) → W p l e R s m args below meth c H locs cells slots Q (F0 m pc ls (st.map (trV X)))
section ST
variable {X : Cx} {p : Program} {l : Launch} {e : Env} {R : Room} {s : State} {m : MethodId} {args : Array Value} {below : List Frame} {meth : Method} {c : Code} {cc : ByteArray} {Q : State → Prop} {nL pc tgt i : Nat} {L : Lcs} {st : List PV} {G : Gh} {mi : Mi} {cells slots : Nat} {a b n off : Int}
theorem st_iconst (hx : p.tables.exec = Jvm.exec) (hb : c.code = cc) (hE : EnvU X s s.heap) (hn : in32 n) (hd : decode cc pc = .ok (.iconst n, 1))
    (k : WC X p l e R s m args below meth c Q nL (pc + 1) (L) (pI n :: st) (G) (mi) (cells) (slots)) : WC X p l e R s m args below meth c Q nL (pc) (L) (st) (G) (mi) (cells) (slots) := by
  intro ls H locs hI hL hO hS
  exact lv_iconst hx hb hd rfl (k ls H locs hI hL hO (List.forall_mem_cons.mpr ⟨hn, hS⟩))
theorem st_bipush (hx : p.tables.exec = Jvm.exec) (hb : c.code = cc) (hE : EnvU X s s.heap) (hn : in32 n) (hv : (Int8.ofInt n).toInt32 = Int32.ofInt n) (hd : decode cc pc = .ok (.bipush n, 2))
    (k : WC X p l e R s m args below meth c Q nL (pc + 2) (L) (pI n :: st) (G) (mi) (cells) (slots)) : WC X p l e R s m args below meth c Q nL (pc) (L) (st) (G) (mi) (cells) (slots) := by
  intro ls H locs hI hL hO hS
  exact lv_bipush hx hb hd hv (k ls H locs hI hL hO (List.forall_mem_cons.mpr ⟨hn, hS⟩))
theorem st_sipush (hx : p.tables.exec = Jvm.exec) (hb : c.code = cc) (hE : EnvU X s s.heap) (hn : in32 n) (hv : (Int16.ofInt n).toInt32 = Int32.ofInt n) (hd : decode cc pc = .ok (.sipush n, 3))
    (k : WC X p l e R s m args below meth c Q nL (pc + 3) (L) (pI n :: st) (G) (mi) (cells) (slots)) : WC X p l e R s m args below meth c Q nL (pc) (L) (st) (G) (mi) (cells) (slots) := by
  intro ls H locs hI hL hO hS
  exact lv_sipush hx hb hd hv (k ls H locs hI hL hO (List.forall_mem_cons.mpr ⟨hn, hS⟩))
theorem st_lconst (hx : p.tables.exec = Jvm.exec) (hb : c.code = cc) (hE : EnvU X s s.heap) {z : Fin 2} (hz : Int64.ofNat z.val = Int64.ofInt n) (hn : in64 n) (hd : decode cc pc = .ok (.lconst z, 1))
    (k : WC X p l e R s m args below meth c Q nL (pc + 1) (L) (pL n :: st) (G) (mi) (cells) (slots)) : WC X p l e R s m args below meth c Q nL (pc) (L) (st) (G) (mi) (cells) (slots) := by
  intro ls H locs hI hL hO hS
  exact lv_lconst hx hb hd hz (k ls H locs hI hL hO (List.forall_mem_cons.mpr ⟨hn, hS⟩))
theorem st_null (hx : p.tables.exec = Jvm.exec) (hb : c.code = cc) (hE : EnvU X s s.heap)  (hd : decode cc pc = .ok (.aconst_null, 1))
    (k : WC X p l e R s m args below meth c Q nL (pc + 1) (L) (pR none :: st) (G) (mi) (cells) (slots)) : WC X p l e R s m args below meth c Q nL (pc) (L) (st) (G) (mi) (cells) (slots) := by
  intro ls H locs hI hL hO hS
  exact lv_null hx hb hd (k ls H locs hI hL hO (List.forall_mem_cons.mpr ⟨trivial, hS⟩))
theorem st_ldci (hx : p.tables.exec = Jvm.exec) (hb : c.code = cc) (hE : EnvU X s s.heap) {own : String} (hown : s.vm.findClass own = some m.cls) (hc : (Cond.constant own i (Int32.ofInt n)).before args s = true) (hn : in32 n) (hd : decode cc pc = .ok (.ldc i, 2))
    (k : WC X p l e R s m args below meth c Q nL (pc + 2) (L) (pI n :: st) (G) (mi) (cells) (slots)) : WC X p l e R s m args below meth c Q nL (pc) (L) (st) (G) (mi) (cells) (slots) := by
  intro ls H locs hI hL hO hS
  exact lv_ldc hx hb hown hc hd (k ls H locs hI hL hO (List.forall_mem_cons.mpr ⟨hn, hS⟩))
theorem st_ldcs (hx : p.tables.exec = Jvm.exec) (hb : c.code = cc) (hE : EnvU X s s.heap) {own tx : String} {q : Nat} (hown : s.vm.findClass own = some m.cls) (hq : (own, i, tx, q) ∈ strL) (hl : q < sTexts.length) (hd : decode cc pc = .ok (.ldc i, 2))
    (k : WC X p l e R s m args below meth c Q nL (pc + 2) (L) (pE (2 * q + 1) :: st) (G) (mi) (cells) (slots)) : WC X p l e R s m args below meth c Q nL (pc) (L) (st) (G) (mi) (cells) (slots) := by
  intro ls H locs hI hL hO hS
  have hv : trV X (pE (2 * q + 1)) = .ref (xK X q) := by
    show evX X (2 * q + 1) = _
    unfold evX
    rw [if_neg (by omega), if_pos (by omega), show (2 * q + 1) / 2 = q by omega]
  have kk := k ls H locs hI hL hO (List.forall_mem_cons.mpr ⟨trivial, hS⟩)
  rw [List.map_cons, hv] at kk
  exact va_ldcS hx hb hown (hE.2.2.2.1 _ hq) hd kk
theorem st_ldc2 (hx : p.tables.exec = Jvm.exec) (hb : c.code = cc) (hE : EnvU X s s.heap) {own : String} (hown : s.vm.findClass own = some m.cls) (hc : (Cond.constantLong own i (Int64.ofInt n)).before args s = true) (hn : in64 n) (hd : decode cc pc = .ok (.ldc2_w i, 3))
    (k : WC X p l e R s m args below meth c Q nL (pc + 3) (L) (pL n :: st) (G) (mi) (cells) (slots)) : WC X p l e R s m args below meth c Q nL (pc) (L) (st) (G) (mi) (cells) (slots) := by
  intro ls H locs hI hL hO hS
  exact lv_ldc2 hx hb hown hc hd (k ls H locs hI hL hO (List.forall_mem_cons.mpr ⟨hn, hS⟩))
theorem st_iload_n (hx : p.tables.exec = Jvm.exec) (hb : c.code = cc) (hE : EnvU X s s.heap) {z : Fin 4} (hz : z.val = i) (hl : lg L i = some (pI a)) (hd : decode cc pc = .ok (.iload_n z, 1))
    (k : WC X p l e R s m args below meth c Q nL (pc + 1) (L) (pI a :: st) (G) (mi) (cells) (slots)) : WC X p l e R s m args below meth c Q nL (pc) (L) (st) (G) (mi) (cells) (slots) := by
  intro ls H locs hI hL hO hS
  exact lv_iload_n hx hb hd hz (hL.at hl) (k ls H locs hI hL hO (List.forall_mem_cons.mpr ⟨hO i _ hl, hS⟩))
theorem st_iload (hx : p.tables.exec = Jvm.exec) (hb : c.code = cc) (hE : EnvU X s s.heap) (hl : lg L i = some (pI a)) (hd : decode cc pc = .ok (.iload i, 2))
    (k : WC X p l e R s m args below meth c Q nL (pc + 2) (L) (pI a :: st) (G) (mi) (cells) (slots)) : WC X p l e R s m args below meth c Q nL (pc) (L) (st) (G) (mi) (cells) (slots) := by
  intro ls H locs hI hL hO hS
  exact lv_iload hx hb hd (hL.at hl) (k ls H locs hI hL hO (List.forall_mem_cons.mpr ⟨hO i _ hl, hS⟩))
theorem st_lload_n (hx : p.tables.exec = Jvm.exec) (hb : c.code = cc) (hE : EnvU X s s.heap) {z : Fin 4} (hz : z.val = i) (hl : lg L i = some (pL a)) (hd : decode cc pc = .ok (.lload_n z, 1))
    (k : WC X p l e R s m args below meth c Q nL (pc + 1) (L) (pL a :: st) (G) (mi) (cells) (slots)) : WC X p l e R s m args below meth c Q nL (pc) (L) (st) (G) (mi) (cells) (slots) := by
  intro ls H locs hI hL hO hS
  exact lv_lload_n hx hb hd hz (hL.at hl) (k ls H locs hI hL hO (List.forall_mem_cons.mpr ⟨hO i _ hl, hS⟩))
theorem st_lload (hx : p.tables.exec = Jvm.exec) (hb : c.code = cc) (hE : EnvU X s s.heap) (hl : lg L i = some (pL a)) (hd : decode cc pc = .ok (.lload i, 2))
    (k : WC X p l e R s m args below meth c Q nL (pc + 2) (L) (pL a :: st) (G) (mi) (cells) (slots)) : WC X p l e R s m args below meth c Q nL (pc) (L) (st) (G) (mi) (cells) (slots) := by
  intro ls H locs hI hL hO hS
  exact lv_lload hx hb hd (hL.at hl) (k ls H locs hI hL hO (List.forall_mem_cons.mpr ⟨hO i _ hl, hS⟩))
theorem st_aload_n (hx : p.tables.exec = Jvm.exec) (hb : c.code = cc) (hE : EnvU X s s.heap) {z : Fin 4} (hz : z.val = i) {r : Option Nat ⊕ Nat} (hl : lg L i = some (.inr (.inr r))) (hd : decode cc pc = .ok (.aload_n z, 1))
    (k : WC X p l e R s m args below meth c Q nL (pc + 1) (L) (.inr (.inr r) :: st) (G) (mi) (cells) (slots)) : WC X p l e R s m args below meth c Q nL (pc) (L) (st) (G) (mi) (cells) (slots) := by
  intro ls H locs hI hL hO hS
  have h1 := hL.at hl
  have kk := k ls H locs hI hL hO (List.forall_mem_cons.mpr ⟨trivial, hS⟩)
  rw [List.map_cons] at kk
  rcases trR_ref hE r with h | ⟨q, h⟩
  · rw [h] at h1 kk
    exact lv_aload_nN hx hb hd hz h1 kk
  · rw [h] at h1 kk
    exact lv_aload_n hx hb hd hz h1 kk
theorem st_aload (hx : p.tables.exec = Jvm.exec) (hb : c.code = cc) (hE : EnvU X s s.heap) {r : Option Nat ⊕ Nat} (hl : lg L i = some (.inr (.inr r))) (hd : decode cc pc = .ok (.aload i, 2))
    (k : WC X p l e R s m args below meth c Q nL (pc + 2) (L) (.inr (.inr r) :: st) (G) (mi) (cells) (slots)) : WC X p l e R s m args below meth c Q nL (pc) (L) (st) (G) (mi) (cells) (slots) := by
  intro ls H locs hI hL hO hS
  have h1 := hL.at hl
  have kk := k ls H locs hI hL hO (List.forall_mem_cons.mpr ⟨trivial, hS⟩)
  rw [List.map_cons] at kk
  rcases trR_ref hE r with h | ⟨q, h⟩
  · rw [h] at h1 kk
    exact lv_aloadN hx hb hd h1 kk
  · rw [h] at h1 kk
    exact lv_aload hx hb hd h1 kk
theorem st_istore_n (hx : p.tables.exec = Jvm.exec) (hb : c.code = cc) (hE : EnvU X s s.heap) {z : Fin 4} (hz : z.val = i) (hs : okSt L i = true) (hi : i < L.length) (hd : decode cc pc = .ok (.istore_n z, 1))
    (k : WC X p l e R s m args below meth c Q nL (pc + 1) (L.set i (some (pI a))) (st) (G) (mi) (cells) (slots)) : WC X p l e R s m args below meth c Q nL (pc) (L) (pI a :: st) (G) (mi) (cells) (slots) := by
  intro ls H locs hI hL hO hS
  have hS' := List.forall_mem_cons.mp hS
  exact lv_istore_n (x := Int32.ofInt a) hx hb hd hz hL.1 (by rw [← hL.2]; exact hi) rfl (fun ls' h' => k ls' H locs hI (LR.store hE hL rfl hs hi h') (hO.set hS'.1) hS'.2)
theorem st_istore (hx : p.tables.exec = Jvm.exec) (hb : c.code = cc) (hE : EnvU X s s.heap) (hs : okSt L i = true) (hi : i < L.length) (hd : decode cc pc = .ok (.istore i, 2))
    (k : WC X p l e R s m args below meth c Q nL (pc + 2) (L.set i (some (pI a))) (st) (G) (mi) (cells) (slots)) : WC X p l e R s m args below meth c Q nL (pc) (L) (pI a :: st) (G) (mi) (cells) (slots) := by
  intro ls H locs hI hL hO hS
  have hS' := List.forall_mem_cons.mp hS
  exact lv_istore (x := Int32.ofInt a) hx hb hd hL.1 (by rw [← hL.2]; exact hi) rfl (fun ls' h' => k ls' H locs hI (LR.store hE hL rfl hs hi h') (hO.set hS'.1) hS'.2)
theorem st_astore_n (hx : p.tables.exec = Jvm.exec) (hb : c.code = cc) (hE : EnvU X s s.heap) {z : Fin 4} (hz : z.val = i) {r : Option Nat ⊕ Nat} (hs : okSt L i = true) (hi : i < L.length) (hd : decode cc pc = .ok (.astore_n z, 1))
    (k : WC X p l e R s m args below meth c Q nL (pc + 1) (L.set i (some (.inr (.inr r)))) (st) (G) (mi) (cells) (slots)) : WC X p l e R s m args below meth c Q nL (pc) (L) (.inr (.inr r) :: st) (G) (mi) (cells) (slots) := by
  intro ls H locs hI hL hO hS
  have hS' := List.forall_mem_cons.mp hS
  rw [List.map_cons]
  rcases trR_ref hE r with h | ⟨q, h⟩
  · rw [h]
    exact lv_astore_nN hx hb hd hz hL.1 (by rw [← hL.2]; exact hi) rfl (fun ls' h' => k ls' H locs hI (LR.store hE hL h hs hi h') (hO.set hS'.1) hS'.2)
  · rw [h]
    exact lv_astore_n hx hb hd hz hL.1 (by rw [← hL.2]; exact hi) rfl (fun ls' h' => k ls' H locs hI (LR.store hE hL h hs hi h') (hO.set hS'.1) hS'.2)
theorem st_astore (hx : p.tables.exec = Jvm.exec) (hb : c.code = cc) (hE : EnvU X s s.heap) {r : Option Nat ⊕ Nat} (hs : okSt L i = true) (hi : i < L.length) (hd : decode cc pc = .ok (.astore i, 2))
    (k : WC X p l e R s m args below meth c Q nL (pc + 2) (L.set i (some (.inr (.inr r)))) (st) (G) (mi) (cells) (slots)) : WC X p l e R s m args below meth c Q nL (pc) (L) (.inr (.inr r) :: st) (G) (mi) (cells) (slots) := by
  intro ls H locs hI hL hO hS
  have hS' := List.forall_mem_cons.mp hS
  rw [List.map_cons]
  rcases trR_ref hE r with h | ⟨q, h⟩
  · rw [h]
    exact lv_astoreN hx hb hd hL.1 (by rw [← hL.2]; exact hi) rfl (fun ls' h' => k ls' H locs hI (LR.store hE hL h hs hi h') (hO.set hS'.1) hS'.2)
  · rw [h]
    exact lv_astore hx hb hd hL.1 (by rw [← hL.2]; exact hi) rfl (fun ls' h' => k ls' H locs hI (LR.store hE hL h hs hi h') (hO.set hS'.1) hS'.2)
theorem st_lstore_n (hx : p.tables.exec = Jvm.exec) (hb : c.code = cc) (hE : EnvU X s s.heap) {z : Fin 4} (hz : z.val = i) (hs : okSt L i = true) (hi : i + 1 < L.length) (hd : decode cc pc = .ok (.lstore_n z, 1))
    (k : WC X p l e R s m args below meth c Q nL (pc + 1) ((L.set i (some (pL a))).set (i + 1) none) (st) (G) (mi) (cells) (slots)) : WC X p l e R s m args below meth c Q nL (pc) (L) (pL a :: st) (G) (mi) (cells) (slots) := by
  intro ls H locs hI hL hO hS
  have hS' := List.forall_mem_cons.mp hS
  exact lv_lstore_n (x := Int64.ofInt a) hx hb hd hz hL.1 (by rw [← hL.2]; exact hi) rfl (fun ls' h' => k ls' H locs hI (LR.storeL hE hL rfl hs hi h') (okL.setN (hO.set hS'.1)) hS'.2)
theorem st_lstore (hx : p.tables.exec = Jvm.exec) (hb : c.code = cc) (hE : EnvU X s s.heap) (hs : okSt L i = true) (hi : i + 1 < L.length) (hd : decode cc pc = .ok (.lstore i, 2))
    (k : WC X p l e R s m args below meth c Q nL (pc + 2) ((L.set i (some (pL a))).set (i + 1) none) (st) (G) (mi) (cells) (slots)) : WC X p l e R s m args below meth c Q nL (pc) (L) (pL a :: st) (G) (mi) (cells) (slots) := by
  intro ls H locs hI hL hO hS
  have hS' := List.forall_mem_cons.mp hS
  exact lv_lstore (x := Int64.ofInt a) hx hb hd hL.1 (by rw [← hL.2]; exact hi) rfl (fun ls' h' => k ls' H locs hI (LR.storeL hE hL rfl hs hi h') (okL.setN (hO.set hS'.1)) hS'.2)
theorem st_iinc (hx : p.tables.exec = Jvm.exec) (hb : c.code = cc) (hE : EnvU X s s.heap) (hl : lg L i = some (pI a)) (hs : okSt L i = true) (hi : i < L.length) (hd : decode cc pc = .ok (.iinc i n, 3))
    (k : WC X p l e R s m args below meth c Q nL (pc + 3) (L.set i (some (pI (wr (a + n))))) (st) (G) (mi) (cells) (slots)) : WC X p l e R s m args below meth c Q nL (pc) (L) (st) (G) (mi) (cells) (slots) := by
  intro ls H locs hI hL hO hS
  obtain ⟨kx, hk⟩ := List.getElem?_of_mem (prs_mem (X := X) hl)
  exact lv_iinc (v := Int32.ofInt (wr (a + n))) hx hb hd hL.1 hk (by rw [wr_of, Int32.ofInt_add]) (by rw [← hL.2]; exact hi) rfl (fun ls' h' => k ls' H locs hI (LR.store hE hL rfl hs hi h') (hO.set (wr_in _)) hS)
theorem st_iadd (hx : p.tables.exec = Jvm.exec) (hb : c.code = cc) (hE : EnvU X s s.heap)  (hd : decode cc pc = .ok (.iadd, 1))
    (k : WC X p l e R s m args below meth c Q nL (pc + 1) (L) (pI (wr (a + b)) :: st) (G) (mi) (cells) (slots)) : WC X p l e R s m args below meth c Q nL (pc) (L) (pI b :: pI a :: st) (G) (mi) (cells) (slots) := by
  intro ls H locs hI hL hO hS
  have hS2 := (List.forall_mem_cons.mp (List.forall_mem_cons.mp hS).2).2
  have kk := k ls H locs hI hL hO (List.forall_mem_cons.mpr ⟨wr_in _, hS2⟩)
  rw [List.map_cons, show trV X (pI (wr (a + b))) = .int (Int32.ofInt a + Int32.ofInt b) by show Value.int _ = _; rw [wr_of, Int32.ofInt_add]] at kk
  exact lv_iadd hx hb hd kk
theorem st_isub (hx : p.tables.exec = Jvm.exec) (hb : c.code = cc) (hE : EnvU X s s.heap)  (hd : decode cc pc = .ok (.isub, 1))
    (k : WC X p l e R s m args below meth c Q nL (pc + 1) (L) (pI (wr (a - b)) :: st) (G) (mi) (cells) (slots)) : WC X p l e R s m args below meth c Q nL (pc) (L) (pI b :: pI a :: st) (G) (mi) (cells) (slots) := by
  intro ls H locs hI hL hO hS
  have hS2 := (List.forall_mem_cons.mp (List.forall_mem_cons.mp hS).2).2
  have kk := k ls H locs hI hL hO (List.forall_mem_cons.mpr ⟨wr_in _, hS2⟩)
  rw [List.map_cons, show trV X (pI (wr (a - b))) = .int (Int32.ofInt a - Int32.ofInt b) by show Value.int _ = _; rw [wr_of, Int32.ofInt_sub]] at kk
  exact lv_isub hx hb hd kk
theorem st_imul (hx : p.tables.exec = Jvm.exec) (hb : c.code = cc) (hE : EnvU X s s.heap)  (hd : decode cc pc = .ok (.imul, 1))
    (k : WC X p l e R s m args below meth c Q nL (pc + 1) (L) (pI (wr (a * b)) :: st) (G) (mi) (cells) (slots)) : WC X p l e R s m args below meth c Q nL (pc) (L) (pI b :: pI a :: st) (G) (mi) (cells) (slots) := by
  intro ls H locs hI hL hO hS
  have hS2 := (List.forall_mem_cons.mp (List.forall_mem_cons.mp hS).2).2
  have kk := k ls H locs hI hL hO (List.forall_mem_cons.mpr ⟨wr_in _, hS2⟩)
  rw [List.map_cons, show trV X (pI (wr (a * b))) = .int (Int32.ofInt a * Int32.ofInt b) by show Value.int _ = _; rw [wr_of, Int32.ofInt_mul]] at kk
  exact lv_imul hx hb hd kk
theorem st_ineg (hx : p.tables.exec = Jvm.exec) (hb : c.code = cc) (hE : EnvU X s s.heap)  (hd : decode cc pc = .ok (.ineg, 1))
    (k : WC X p l e R s m args below meth c Q nL (pc + 1) (L) (pI (wr (-a)) :: st) (G) (mi) (cells) (slots)) : WC X p l e R s m args below meth c Q nL (pc) (L) (pI a :: st) (G) (mi) (cells) (slots) := by
  intro ls H locs hI hL hO hS
  have hS2 := (List.forall_mem_cons.mp hS).2
  have kk := k ls H locs hI hL hO (List.forall_mem_cons.mpr ⟨wr_in _, hS2⟩)
  rw [List.map_cons, show trV X (pI (wr (-a))) = .int (-Int32.ofInt a) by show Value.int _ = _; rw [wr_of, Int32.ofInt_neg]] at kk
  exact lv_ineg hx hb hd kk
theorem st_idiv (hx : p.tables.exec = Jvm.exec) (hb : c.code = cc) (hE : EnvU X s s.heap) (hp : 0 < b) (hd : decode cc pc = .ok (.idiv, 1))
    (k : WC X p l e R s m args below meth c Q nL (pc + 1) (L) (pI (a.tdiv b) :: st) (G) (mi) (cells) (slots)) : WC X p l e R s m args below meth c Q nL (pc) (L) (pI b :: pI a :: st) (G) (mi) (cells) (slots) := by
  intro ls H locs hI hL hO hS
  obtain ⟨h1, hS1⟩ := List.forall_mem_cons.mp hS
  obtain ⟨h2, hS2⟩ := List.forall_mem_cons.mp hS1
  have kk := k ls H locs hI hL hO (List.forall_mem_cons.mpr ⟨tdiv_in h2 hp, hS2⟩)
  rw [List.map_cons, show trV X (pI (a.tdiv b)) = .int (Int32.ofInt a / Int32.ofInt b) by show Value.int _ = _; rw [of_tdiv h2 h1 hp]] at kk
  exact lv_idiv hx hb hd (fun z => by have := (of_eq h1 in_0).mp z; omega) kk
theorem st_irem (hx : p.tables.exec = Jvm.exec) (hb : c.code = cc) (hE : EnvU X s s.heap) (hp : 0 < b) (hd : decode cc pc = .ok (.irem, 1))
    (k : WC X p l e R s m args below meth c Q nL (pc + 1) (L) (pI (a.tmod b) :: st) (G) (mi) (cells) (slots)) : WC X p l e R s m args below meth c Q nL (pc) (L) (pI b :: pI a :: st) (G) (mi) (cells) (slots) := by
  intro ls H locs hI hL hO hS
  obtain ⟨h1, hS1⟩ := List.forall_mem_cons.mp hS
  obtain ⟨h2, hS2⟩ := List.forall_mem_cons.mp hS1
  have kk := k ls H locs hI hL hO (List.forall_mem_cons.mpr ⟨tmod_in h2 hp, hS2⟩)
  rw [List.map_cons, show trV X (pI (a.tmod b)) = .int (Int32.ofInt a - Int32.ofInt a / Int32.ofInt b * Int32.ofInt b) by show Value.int _ = _; rw [of_tdiv h2 h1 hp, ← Int32.ofInt_mul, ← Int32.ofInt_sub, tmod_eq]] at kk
  exact lv_irem hx hb hd (fun z => by have := (of_eq h1 in_0).mp z; omega) kk
theorem st_iand (hx : p.tables.exec = Jvm.exec) (hb : c.code = cc) (hE : EnvU X s s.heap)  (hd : decode cc pc = .ok (.iand, 1))
    (k : WC X p l e R s m args below meth c Q nL (pc + 1) (L) (pI (iAnd a b) :: st) (G) (mi) (cells) (slots)) : WC X p l e R s m args below meth c Q nL (pc) (L) (pI b :: pI a :: st) (G) (mi) (cells) (slots) := by
  intro ls H locs hI hL hO hS
  have hS2 := (List.forall_mem_cons.mp (List.forall_mem_cons.mp hS).2).2
  have kk := k ls H locs hI hL hO (List.forall_mem_cons.mpr ⟨to_in _, hS2⟩)
  rw [List.map_cons] at kk
  refine lv_iand hx hb hd ?_
  have e1 : trV X (pI (iAnd a b)) = .int _ := congrArg Value.int (Int32.ofInt_toInt _)
  rw [e1] at kk
  exact kk
theorem st_ior (hx : p.tables.exec = Jvm.exec) (hb : c.code = cc) (hE : EnvU X s s.heap)  (hd : decode cc pc = .ok (.ior, 1))
    (k : WC X p l e R s m args below meth c Q nL (pc + 1) (L) (pI (iOr a b) :: st) (G) (mi) (cells) (slots)) : WC X p l e R s m args below meth c Q nL (pc) (L) (pI b :: pI a :: st) (G) (mi) (cells) (slots) := by
  intro ls H locs hI hL hO hS
  have hS2 := (List.forall_mem_cons.mp (List.forall_mem_cons.mp hS).2).2
  have kk := k ls H locs hI hL hO (List.forall_mem_cons.mpr ⟨to_in _, hS2⟩)
  rw [List.map_cons] at kk
  refine lv_ior hx hb hd ?_
  have e1 : trV X (pI (iOr a b)) = .int _ := congrArg Value.int (Int32.ofInt_toInt _)
  rw [e1] at kk
  exact kk
theorem st_ixor (hx : p.tables.exec = Jvm.exec) (hb : c.code = cc) (hE : EnvU X s s.heap)  (hd : decode cc pc = .ok (.ixor, 1))
    (k : WC X p l e R s m args below meth c Q nL (pc + 1) (L) (pI (iXor a b) :: st) (G) (mi) (cells) (slots)) : WC X p l e R s m args below meth c Q nL (pc) (L) (pI b :: pI a :: st) (G) (mi) (cells) (slots) := by
  intro ls H locs hI hL hO hS
  have hS2 := (List.forall_mem_cons.mp (List.forall_mem_cons.mp hS).2).2
  have kk := k ls H locs hI hL hO (List.forall_mem_cons.mpr ⟨to_in _, hS2⟩)
  rw [List.map_cons] at kk
  refine lv_ixor hx hb hd ?_
  have e1 : trV X (pI (iXor a b)) = .int _ := congrArg Value.int (Int32.ofInt_toInt _)
  rw [e1] at kk
  exact kk
theorem st_ishl (hx : p.tables.exec = Jvm.exec) (hb : c.code = cc) (hE : EnvU X s s.heap)  (hd : decode cc pc = .ok (.ishl, 1))
    (k : WC X p l e R s m args below meth c Q nL (pc + 1) (L) (pI (iShl a b) :: st) (G) (mi) (cells) (slots)) : WC X p l e R s m args below meth c Q nL (pc) (L) (pI b :: pI a :: st) (G) (mi) (cells) (slots) := by
  intro ls H locs hI hL hO hS
  have hS2 := (List.forall_mem_cons.mp (List.forall_mem_cons.mp hS).2).2
  have kk := k ls H locs hI hL hO (List.forall_mem_cons.mpr ⟨to_in _, hS2⟩)
  rw [List.map_cons] at kk
  refine lv_ishl hx hb hd ?_
  have e1 : trV X (pI (iShl a b)) = .int _ := congrArg Value.int (Int32.ofInt_toInt _)
  rw [e1] at kk
  exact kk
theorem st_ishr (hx : p.tables.exec = Jvm.exec) (hb : c.code = cc) (hE : EnvU X s s.heap)  (hd : decode cc pc = .ok (.ishr, 1))
    (k : WC X p l e R s m args below meth c Q nL (pc + 1) (L) (pI (iShr a b) :: st) (G) (mi) (cells) (slots)) : WC X p l e R s m args below meth c Q nL (pc) (L) (pI b :: pI a :: st) (G) (mi) (cells) (slots) := by
  intro ls H locs hI hL hO hS
  have hS2 := (List.forall_mem_cons.mp (List.forall_mem_cons.mp hS).2).2
  have kk := k ls H locs hI hL hO (List.forall_mem_cons.mpr ⟨to_in _, hS2⟩)
  rw [List.map_cons] at kk
  refine lv_ishr hx hb hd ?_
  have e1 : trV X (pI (iShr a b)) = .int _ := congrArg Value.int (Int32.ofInt_toInt _)
  rw [e1] at kk
  exact kk
theorem st_iushr (hx : p.tables.exec = Jvm.exec) (hb : c.code = cc) (hE : EnvU X s s.heap)  (hd : decode cc pc = .ok (.iushr, 1))
    (k : WC X p l e R s m args below meth c Q nL (pc + 1) (L) (pI (iUshr a b) :: st) (G) (mi) (cells) (slots)) : WC X p l e R s m args below meth c Q nL (pc) (L) (pI b :: pI a :: st) (G) (mi) (cells) (slots) := by
  intro ls H locs hI hL hO hS
  have hS2 := (List.forall_mem_cons.mp (List.forall_mem_cons.mp hS).2).2
  have kk := k ls H locs hI hL hO (List.forall_mem_cons.mpr ⟨to_in _, hS2⟩)
  rw [List.map_cons] at kk
  refine lv_iushr hx hb hd rfl ?_
  have e1 : trV X (pI (iUshr a b)) = .int _ := congrArg Value.int (Int32.ofInt_toInt _)
  rw [e1] at kk
  exact kk
theorem st_i2l (hx : p.tables.exec = Jvm.exec) (hb : c.code = cc) (hE : EnvU X s s.heap)  (hd : decode cc pc = .ok (.i2l, 1))
    (k : WC X p l e R s m args below meth c Q nL (pc + 1) (L) (pL a :: st) (G) (mi) (cells) (slots)) : WC X p l e R s m args below meth c Q nL (pc) (L) (pI a :: st) (G) (mi) (cells) (slots) := by
  intro ls H locs hI hL hO hS
  obtain ⟨h1, hS1⟩ := List.forall_mem_cons.mp hS
  have h64 : in64 a := ⟨by have := h1.1; omega, by have := h1.2; omega⟩
  exact lv_i2l hx hb hd (Int64.toInt_inj.mp (by rw [Int32.toInt_toInt64, of_to h1, of_toL h64])) (k ls H locs hI hL hO (List.forall_mem_cons.mpr ⟨h64, hS1⟩))
theorem st_i2b (hx : p.tables.exec = Jvm.exec) (hb : c.code = cc) (hE : EnvU X s s.heap)  (hd : decode cc pc = .ok (.i2b, 1))
    (k : WC X p l e R s m args below meth c Q nL (pc + 1) (L) (pI (iB a) :: st) (G) (mi) (cells) (slots)) : WC X p l e R s m args below meth c Q nL (pc) (L) (pI a :: st) (G) (mi) (cells) (slots) := by
  intro ls H locs hI hL hO hS
  have hS2 := (List.forall_mem_cons.mp hS).2
  exact lv_i2b hx hb hd (by unfold iB; rw [Int32.ofInt_toInt]) (k ls H locs hI hL hO (List.forall_mem_cons.mpr ⟨to_in _, hS2⟩))
theorem st_i2c (hx : p.tables.exec = Jvm.exec) (hb : c.code = cc) (hE : EnvU X s s.heap) (h0 : 0 ≤ a) (h1 : a < 65536) (hd : decode cc pc = .ok (.i2c, 1))
    (k : WC X p l e R s m args below meth c Q nL (pc + 1) (L) (pI a :: st) (G) (mi) (cells) (slots)) : WC X p l e R s m args below meth c Q nL (pc) (L) (pI a :: st) (G) (mi) (cells) (slots) := by
  intro ls H locs hI hL hO hS
  refine lv_i2c hx hb hd ?_ (k ls H locs hI hL hO hS)
  obtain ⟨j, rfl⟩ : ∃ j : Nat, a = j := ⟨a.toNat, by omega⟩
  rw [show Int32.ofInt (j : Int) = nI j from rfl, pk_char, pk_tn (by omega), Nat.mod_eq_of_lt (by omega)]
theorem st_ladd (hx : p.tables.exec = Jvm.exec) (hb : c.code = cc) (hE : EnvU X s s.heap)  (hd : decode cc pc = .ok (.ladd, 1))
    (k : WC X p l e R s m args below meth c Q nL (pc + 1) (L) (pL (wl (a + b)) :: st) (G) (mi) (cells) (slots)) : WC X p l e R s m args below meth c Q nL (pc) (L) (pL b :: pL a :: st) (G) (mi) (cells) (slots) := by
  intro ls H locs hI hL hO hS
  have hS2 := (List.forall_mem_cons.mp (List.forall_mem_cons.mp hS).2).2
  have kk := k ls H locs hI hL hO (List.forall_mem_cons.mpr ⟨wl_in _, hS2⟩)
  rw [List.map_cons, show trV X (pL (wl (a + b))) = .long (Int64.ofInt a + Int64.ofInt b) by show Value.long _ = _; rw [wl_of, Int64.ofInt_add]] at kk
  exact lv_ladd hx hb hd kk
theorem st_lneg (hx : p.tables.exec = Jvm.exec) (hb : c.code = cc) (hE : EnvU X s s.heap)  (hd : decode cc pc = .ok (.lneg, 1))
    (k : WC X p l e R s m args below meth c Q nL (pc + 1) (L) (pL (wl (-a)) :: st) (G) (mi) (cells) (slots)) : WC X p l e R s m args below meth c Q nL (pc) (L) (pL a :: st) (G) (mi) (cells) (slots) := by
  intro ls H locs hI hL hO hS
  have hS2 := (List.forall_mem_cons.mp hS).2
  have kk := k ls H locs hI hL hO (List.forall_mem_cons.mpr ⟨wl_in _, hS2⟩)
  rw [List.map_cons, show trV X (pL (wl (-a))) = .long (-Int64.ofInt a) by show Value.long _ = _; rw [wl_of, Int64.ofInt_neg]] at kk
  exact lv_lneg hx hb hd kk
theorem st_ldiv (hx : p.tables.exec = Jvm.exec) (hb : c.code = cc) (hE : EnvU X s s.heap) (hp : 0 < b) (hd : decode cc pc = .ok (.ldiv, 1))
    (k : WC X p l e R s m args below meth c Q nL (pc + 1) (L) (pL (a.tdiv b) :: st) (G) (mi) (cells) (slots)) : WC X p l e R s m args below meth c Q nL (pc) (L) (pL b :: pL a :: st) (G) (mi) (cells) (slots) := by
  intro ls H locs hI hL hO hS
  obtain ⟨h1, hS1⟩ := List.forall_mem_cons.mp hS
  obtain ⟨h2, hS2⟩ := List.forall_mem_cons.mp hS1
  have kk := k ls H locs hI hL hO (List.forall_mem_cons.mpr ⟨tdiv_in64 h2 hp, hS2⟩)
  rw [List.map_cons, show trV X (pL (a.tdiv b)) = .long (Int64.ofInt a / Int64.ofInt b) by show Value.long _ = _; rw [of_tdivL h2 h1 hp]] at kk
  exact lv_ldiv hx hb hd (fun z => by have z2 := congrArg Int64.toInt z; rw [of_toL h1] at z2; have : b = 0 := z2; omega) kk
theorem st_lrem (hx : p.tables.exec = Jvm.exec) (hb : c.code = cc) (hE : EnvU X s s.heap) (hp : 0 < b) (hd : decode cc pc = .ok (.lrem, 1))
    (k : WC X p l e R s m args below meth c Q nL (pc + 1) (L) (pL (a.tmod b) :: st) (G) (mi) (cells) (slots)) : WC X p l e R s m args below meth c Q nL (pc) (L) (pL b :: pL a :: st) (G) (mi) (cells) (slots) := by
  intro ls H locs hI hL hO hS
  obtain ⟨h1, hS1⟩ := List.forall_mem_cons.mp hS
  obtain ⟨h2, hS2⟩ := List.forall_mem_cons.mp hS1
  have kk := k ls H locs hI hL hO (List.forall_mem_cons.mpr ⟨tmod_in64 h2 hp, hS2⟩)
  rw [List.map_cons, show trV X (pL (a.tmod b)) = .long (Int64.ofInt a - Int64.ofInt a / Int64.ofInt b * Int64.ofInt b) by show Value.long _ = _; rw [of_tdivL h2 h1 hp, ← Int64.ofInt_mul, ← Int64.ofInt_sub, tmod_eq]] at kk
  exact lv_lrem hx hb hd (fun z => by have z2 := congrArg Int64.toInt z; rw [of_toL h1] at z2; have : b = 0 := z2; omega) kk
theorem st_lcmp (hx : p.tables.exec = Jvm.exec) (hb : c.code = cc) (hE : EnvU X s s.heap)  (hd : decode cc pc = .ok (.lcmp, 1))
    (k : WC X p l e R s m args below meth c Q nL (pc + 1) (L) (pI (cmpL a b) :: st) (G) (mi) (cells) (slots)) : WC X p l e R s m args below meth c Q nL (pc) (L) (pL b :: pL a :: st) (G) (mi) (cells) (slots) := by
  intro ls H locs hI hL hO hS
  obtain ⟨h1, hS1⟩ := List.forall_mem_cons.mp hS
  obtain ⟨h2, hS2⟩ := List.forall_mem_cons.mp hS1
  have hc : in32 (cmpL a b) := by unfold cmpL in32; split <;> (try split) <;> omega
  have kk := k ls H locs hI hL hO (List.forall_mem_cons.mpr ⟨hc, hS2⟩)
  have e1 : Int32.ofInt (cmpL a b) = lg_cmp (Int64.ofInt a) (Int64.ofInt b) := by
    have g1 : Int64.ofInt a > Int64.ofInt b ↔ b < a := by rw [show (Int64.ofInt a > Int64.ofInt b) = (Int64.ofInt b < Int64.ofInt a) from rfl, Int64.lt_iff_toInt_lt, of_toL h1, of_toL h2]
    have g2 : Int64.ofInt a = Int64.ofInt b ↔ a = b := ⟨fun z => by rw [← of_toL h2, z, of_toL h1], fun z => by rw [z]⟩
    unfold cmpL lg_cmp
    by_cases c1 : b < a
    · rw [if_pos (g1.mpr c1), if_neg (by omega), if_neg (by omega)]; rfl
    · rw [if_neg (fun z => c1 (g1.mp z))]
      by_cases c2 : a = b
      · rw [if_pos (g2.mpr c2), if_neg (by omega), if_pos c2]; rfl
      · rw [if_neg (fun z => c2 (g2.mp z)), if_pos (by omega)]; rfl
  rw [List.map_cons, show trV X (pI (cmpL a b)) = .int (lg_cmp (Int64.ofInt a) (Int64.ofInt b)) from congrArg Value.int e1] at kk
  exact W.lcmp hx hb hd kk
theorem st_dup (hx : p.tables.exec = Jvm.exec) (hb : c.code = cc) (hE : EnvU X s s.heap) {v : PV} (hv : isL (some v) = false) (hd : decode cc pc = .ok (.dup, 1))
    (k : WC X p l e R s m args below meth c Q nL (pc + 1) (L) (v :: v :: st) (G) (mi) (cells) (slots)) : WC X p l e R s m args below meth c Q nL (pc) (L) (v :: st) (G) (mi) (cells) (slots) := by
  intro ls H locs hI hL hO hS
  exact lv_dup hx hb hd (tr_cat1 hE hv) (k ls H locs hI hL hO (List.forall_mem_cons.mpr ⟨(List.forall_mem_cons.mp hS).1, hS⟩))
theorem st_pop (hx : p.tables.exec = Jvm.exec) (hb : c.code = cc) (hE : EnvU X s s.heap) {v : PV} (hv : isL (some v) = false) (hd : decode cc pc = .ok (.pop, 1))
    (k : WC X p l e R s m args below meth c Q nL (pc + 1) (L) (st) (G) (mi) (cells) (slots)) : WC X p l e R s m args below meth c Q nL (pc) (L) (v :: st) (G) (mi) (cells) (slots) := by
  intro ls H locs hI hL hO hS
  exact lv_pop hx hb hd (tr_cat1 hE hv) (k ls H locs hI hL hO (List.forall_mem_cons.mp hS).2)
theorem st_dup2 (hx : p.tables.exec = Jvm.exec) (hb : c.code = cc) (hE : EnvU X s s.heap) {v w : PV} (hv : isL (some v) = false) (hw : isL (some w) = false) (hd : decode cc pc = .ok (.dup2, 1))
    (k : WC X p l e R s m args below meth c Q nL (pc + 1) (L) (v :: w :: v :: w :: st) (G) (mi) (cells) (slots)) : WC X p l e R s m args below meth c Q nL (pc) (L) (v :: w :: st) (G) (mi) (cells) (slots) := by
  intro ls H locs hI hL hO hS
  exact lv_dup2_11 hx hb hd (tr_cat1 hE hv) (tr_cat1 hE hw) (k ls H locs hI hL hO (List.forall_mem_cons.mpr ⟨(List.forall_mem_cons.mp hS).1, List.forall_mem_cons.mpr ⟨(List.forall_mem_cons.mp (List.forall_mem_cons.mp hS).2).1, hS⟩⟩))
theorem st_goto (hx : p.tables.exec = Jvm.exec) (hb : c.code = cc) (hE : EnvU X s s.heap) (ht : (pc : Int) + off = (tgt : Int)) (hd : decode cc pc = .ok (.goto off, 3))
    (k : WC X p l e R s m args below meth c Q nL (tgt) (L) (st) (G) (mi) (cells) (slots)) : WC X p l e R s m args below meth c Q nL (pc) (L) (st) (G) (mi) (cells) (slots) := by
  intro ls H locs hI hL hO hS
  exact lv_goto hx hb hd ht (k ls H locs hI hL hO hS)
theorem st_icmp_eq (hx : p.tables.exec = Jvm.exec) (hb : c.code = cc) (hE : EnvU X s s.heap) (ht : (pc : Int) + off = (tgt : Int)) (hd : decode cc pc = .ok (.if_icmp .eq off, 3))
    (k : WC X p l e R s m args below meth c Q nL (if cmpC .eq a b = true then tgt else pc + 3) (L) (st) (G) (mi) (cells) (slots)) : WC X p l e R s m args below meth c Q nL (pc) (L) (pI b :: pI a :: st) (G) (mi) (cells) (slots) := by
  intro ls H locs hI hL hO hS
  obtain ⟨h1, hS1⟩ := List.forall_mem_cons.mp hS
  obtain ⟨h2, hS2⟩ := List.forall_mem_cons.mp hS1
  have kk := k ls H locs hI hL hO hS2
  refine lv_icmp_eq hx hb hd ht (fun hc => ?_) (fun hc => ?_)
  · have hh : cmpC .eq a b = true := by rw [cc_eq]; exact (of_eq h2 h1).mp hc
    rw [if_pos hh] at kk; exact kk
  · have hh : ¬ cmpC .eq a b = true := by rw [cc_eq]; exact fun z => hc ((of_eq h2 h1).mpr z)
    rw [if_neg hh] at kk; exact kk
theorem st_if_eq (hx : p.tables.exec = Jvm.exec) (hb : c.code = cc) (hE : EnvU X s s.heap) (ht : (pc : Int) + off = (tgt : Int)) (hd : decode cc pc = .ok (.ifCond .eq off, 3))
    (k : WC X p l e R s m args below meth c Q nL (if cmpC .eq a 0 = true then tgt else pc + 3) (L) (st) (G) (mi) (cells) (slots)) : WC X p l e R s m args below meth c Q nL (pc) (L) (pI a :: st) (G) (mi) (cells) (slots) := by
  intro ls H locs hI hL hO hS
  obtain ⟨h2, hS2⟩ := List.forall_mem_cons.mp hS
  have h1 := in_0
  have kk := k ls H locs hI hL hO hS2
  refine lv_if_eq hx hb hd ht (fun hc => ?_) (fun hc => ?_)
  · have hh : cmpC .eq a 0 = true := by rw [cc_eq]; exact (of_eq h2 h1).mp hc
    rw [if_pos hh] at kk; exact kk
  · have hh : ¬ cmpC .eq a 0 = true := by rw [cc_eq]; exact fun z => hc ((of_eq h2 h1).mpr z)
    rw [if_neg hh] at kk; exact kk
theorem st_icmp_ne (hx : p.tables.exec = Jvm.exec) (hb : c.code = cc) (hE : EnvU X s s.heap) (ht : (pc : Int) + off = (tgt : Int)) (hd : decode cc pc = .ok (.if_icmp .ne off, 3))
    (k : WC X p l e R s m args below meth c Q nL (if cmpC .ne a b = true then tgt else pc + 3) (L) (st) (G) (mi) (cells) (slots)) : WC X p l e R s m args below meth c Q nL (pc) (L) (pI b :: pI a :: st) (G) (mi) (cells) (slots) := by
  intro ls H locs hI hL hO hS
  obtain ⟨h1, hS1⟩ := List.forall_mem_cons.mp hS
  obtain ⟨h2, hS2⟩ := List.forall_mem_cons.mp hS1
  have kk := k ls H locs hI hL hO hS2
  refine lv_icmp_ne hx hb hd ht (fun hc => ?_) (fun hc => ?_)
  · have hh : cmpC .ne a b = true := by rw [cc_ne]; exact fun z => hc ((of_eq h2 h1).mpr z)
    rw [if_pos hh] at kk; exact kk
  · have hh : ¬ cmpC .ne a b = true := by rw [cc_ne]; exact fun z => z ((of_eq h2 h1).mp hc)
    rw [if_neg hh] at kk; exact kk
theorem st_if_ne (hx : p.tables.exec = Jvm.exec) (hb : c.code = cc) (hE : EnvU X s s.heap) (ht : (pc : Int) + off = (tgt : Int)) (hd : decode cc pc = .ok (.ifCond .ne off, 3))
    (k : WC X p l e R s m args below meth c Q nL (if cmpC .ne a 0 = true then tgt else pc + 3) (L) (st) (G) (mi) (cells) (slots)) : WC X p l e R s m args below meth c Q nL (pc) (L) (pI a :: st) (G) (mi) (cells) (slots) := by
  intro ls H locs hI hL hO hS
  obtain ⟨h2, hS2⟩ := List.forall_mem_cons.mp hS
  have h1 := in_0
  have kk := k ls H locs hI hL hO hS2
  refine lv_if_ne hx hb hd ht (fun hc => ?_) (fun hc => ?_)
  · have hh : cmpC .ne a 0 = true := by rw [cc_ne]; exact fun z => hc ((of_eq h2 h1).mpr z)
    rw [if_pos hh] at kk; exact kk
  · have hh : ¬ cmpC .ne a 0 = true := by rw [cc_ne]; exact fun z => z ((of_eq h2 h1).mp hc)
    rw [if_neg hh] at kk; exact kk
theorem st_icmp_lt (hx : p.tables.exec = Jvm.exec) (hb : c.code = cc) (hE : EnvU X s s.heap) (ht : (pc : Int) + off = (tgt : Int)) (hd : decode cc pc = .ok (.if_icmp .lt off, 3))
    (k : WC X p l e R s m args below meth c Q nL (if cmpC .lt a b = true then tgt else pc + 3) (L) (st) (G) (mi) (cells) (slots)) : WC X p l e R s m args below meth c Q nL (pc) (L) (pI b :: pI a :: st) (G) (mi) (cells) (slots) := by
  intro ls H locs hI hL hO hS
  obtain ⟨h1, hS1⟩ := List.forall_mem_cons.mp hS
  obtain ⟨h2, hS2⟩ := List.forall_mem_cons.mp hS1
  have kk := k ls H locs hI hL hO hS2
  refine lv_icmp_lt hx hb hd ht (fun hc => ?_) (fun hc => ?_)
  · have hh : cmpC .lt a b = true := by rw [cc_lt]; exact (of_lt h2 h1).mp hc
    rw [if_pos hh] at kk; exact kk
  · have hh : ¬ cmpC .lt a b = true := by rw [cc_lt]; exact fun z => hc ((of_lt h2 h1).mpr z)
    rw [if_neg hh] at kk; exact kk
theorem st_if_lt (hx : p.tables.exec = Jvm.exec) (hb : c.code = cc) (hE : EnvU X s s.heap) (ht : (pc : Int) + off = (tgt : Int)) (hd : decode cc pc = .ok (.ifCond .lt off, 3))
    (k : WC X p l e R s m args below meth c Q nL (if cmpC .lt a 0 = true then tgt else pc + 3) (L) (st) (G) (mi) (cells) (slots)) : WC X p l e R s m args below meth c Q nL (pc) (L) (pI a :: st) (G) (mi) (cells) (slots) := by
  intro ls H locs hI hL hO hS
  obtain ⟨h2, hS2⟩ := List.forall_mem_cons.mp hS
  have h1 := in_0
  have kk := k ls H locs hI hL hO hS2
  refine lv_if_lt hx hb hd ht (fun hc => ?_) (fun hc => ?_)
  · have hh : cmpC .lt a 0 = true := by rw [cc_lt]; exact (of_lt h2 h1).mp hc
    rw [if_pos hh] at kk; exact kk
  · have hh : ¬ cmpC .lt a 0 = true := by rw [cc_lt]; exact fun z => hc ((of_lt h2 h1).mpr z)
    rw [if_neg hh] at kk; exact kk
theorem st_icmp_ge (hx : p.tables.exec = Jvm.exec) (hb : c.code = cc) (hE : EnvU X s s.heap) (ht : (pc : Int) + off = (tgt : Int)) (hd : decode cc pc = .ok (.if_icmp .ge off, 3))
    (k : WC X p l e R s m args below meth c Q nL (if cmpC .ge a b = true then tgt else pc + 3) (L) (st) (G) (mi) (cells) (slots)) : WC X p l e R s m args below meth c Q nL (pc) (L) (pI b :: pI a :: st) (G) (mi) (cells) (slots) := by
  intro ls H locs hI hL hO hS
  obtain ⟨h1, hS1⟩ := List.forall_mem_cons.mp hS
  obtain ⟨h2, hS2⟩ := List.forall_mem_cons.mp hS1
  have kk := k ls H locs hI hL hO hS2
  refine lv_icmp_ge hx hb hd ht (fun hc => ?_) (fun hc => ?_)
  · have hh : cmpC .ge a b = true := by rw [cc_ge]; exact (of_le h1 h2).mp hc
    rw [if_pos hh] at kk; exact kk
  · have hh : ¬ cmpC .ge a b = true := by rw [cc_ge]; exact fun z => hc ((of_le h1 h2).mpr z)
    rw [if_neg hh] at kk; exact kk
theorem st_if_ge (hx : p.tables.exec = Jvm.exec) (hb : c.code = cc) (hE : EnvU X s s.heap) (ht : (pc : Int) + off = (tgt : Int)) (hd : decode cc pc = .ok (.ifCond .ge off, 3))
    (k : WC X p l e R s m args below meth c Q nL (if cmpC .ge a 0 = true then tgt else pc + 3) (L) (st) (G) (mi) (cells) (slots)) : WC X p l e R s m args below meth c Q nL (pc) (L) (pI a :: st) (G) (mi) (cells) (slots) := by
  intro ls H locs hI hL hO hS
  obtain ⟨h2, hS2⟩ := List.forall_mem_cons.mp hS
  have h1 := in_0
  have kk := k ls H locs hI hL hO hS2
  refine lv_if_ge hx hb hd ht (fun hc => ?_) (fun hc => ?_)
  · have hh : cmpC .ge a 0 = true := by rw [cc_ge]; exact (of_le h1 h2).mp hc
    rw [if_pos hh] at kk; exact kk
  · have hh : ¬ cmpC .ge a 0 = true := by rw [cc_ge]; exact fun z => hc ((of_le h1 h2).mpr z)
    rw [if_neg hh] at kk; exact kk
theorem st_icmp_gt (hx : p.tables.exec = Jvm.exec) (hb : c.code = cc) (hE : EnvU X s s.heap) (ht : (pc : Int) + off = (tgt : Int)) (hd : decode cc pc = .ok (.if_icmp .gt off, 3))
    (k : WC X p l e R s m args below meth c Q nL (if cmpC .gt a b = true then tgt else pc + 3) (L) (st) (G) (mi) (cells) (slots)) : WC X p l e R s m args below meth c Q nL (pc) (L) (pI b :: pI a :: st) (G) (mi) (cells) (slots) := by
  intro ls H locs hI hL hO hS
  obtain ⟨h1, hS1⟩ := List.forall_mem_cons.mp hS
  obtain ⟨h2, hS2⟩ := List.forall_mem_cons.mp hS1
  have kk := k ls H locs hI hL hO hS2
  refine lv_icmp_gt hx hb hd ht (fun hc => ?_) (fun hc => ?_)
  · have hh : cmpC .gt a b = true := by rw [cc_gt]; exact (of_lt h1 h2).mp hc
    rw [if_pos hh] at kk; exact kk
  · have hh : ¬ cmpC .gt a b = true := by rw [cc_gt]; exact fun z => hc ((of_lt h1 h2).mpr z)
    rw [if_neg hh] at kk; exact kk
theorem st_if_gt (hx : p.tables.exec = Jvm.exec) (hb : c.code = cc) (hE : EnvU X s s.heap) (ht : (pc : Int) + off = (tgt : Int)) (hd : decode cc pc = .ok (.ifCond .gt off, 3))
    (k : WC X p l e R s m args below meth c Q nL (if cmpC .gt a 0 = true then tgt else pc + 3) (L) (st) (G) (mi) (cells) (slots)) : WC X p l e R s m args below meth c Q nL (pc) (L) (pI a :: st) (G) (mi) (cells) (slots) := by
  intro ls H locs hI hL hO hS
  obtain ⟨h2, hS2⟩ := List.forall_mem_cons.mp hS
  have h1 := in_0
  have kk := k ls H locs hI hL hO hS2
  refine lv_if_gt hx hb hd ht (fun hc => ?_) (fun hc => ?_)
  · have hh : cmpC .gt a 0 = true := by rw [cc_gt]; exact (of_lt h1 h2).mp hc
    rw [if_pos hh] at kk; exact kk
  · have hh : ¬ cmpC .gt a 0 = true := by rw [cc_gt]; exact fun z => hc ((of_lt h1 h2).mpr z)
    rw [if_neg hh] at kk; exact kk
theorem st_icmp_le (hx : p.tables.exec = Jvm.exec) (hb : c.code = cc) (hE : EnvU X s s.heap) (ht : (pc : Int) + off = (tgt : Int)) (hd : decode cc pc = .ok (.if_icmp .le off, 3))
    (k : WC X p l e R s m args below meth c Q nL (if cmpC .le a b = true then tgt else pc + 3) (L) (st) (G) (mi) (cells) (slots)) : WC X p l e R s m args below meth c Q nL (pc) (L) (pI b :: pI a :: st) (G) (mi) (cells) (slots) := by
  intro ls H locs hI hL hO hS
  obtain ⟨h1, hS1⟩ := List.forall_mem_cons.mp hS
  obtain ⟨h2, hS2⟩ := List.forall_mem_cons.mp hS1
  have kk := k ls H locs hI hL hO hS2
  refine lv_icmp_le hx hb hd ht (fun hc => ?_) (fun hc => ?_)
  · have hh : cmpC .le a b = true := by rw [cc_le]; exact (of_le h2 h1).mp hc
    rw [if_pos hh] at kk; exact kk
  · have hh : ¬ cmpC .le a b = true := by rw [cc_le]; exact fun z => hc ((of_le h2 h1).mpr z)
    rw [if_neg hh] at kk; exact kk
theorem st_if_le (hx : p.tables.exec = Jvm.exec) (hb : c.code = cc) (hE : EnvU X s s.heap) (ht : (pc : Int) + off = (tgt : Int)) (hd : decode cc pc = .ok (.ifCond .le off, 3))
    (k : WC X p l e R s m args below meth c Q nL (if cmpC .le a 0 = true then tgt else pc + 3) (L) (st) (G) (mi) (cells) (slots)) : WC X p l e R s m args below meth c Q nL (pc) (L) (pI a :: st) (G) (mi) (cells) (slots) := by
  intro ls H locs hI hL hO hS
  obtain ⟨h2, hS2⟩ := List.forall_mem_cons.mp hS
  have h1 := in_0
  have kk := k ls H locs hI hL hO hS2
  refine lv_if_le hx hb hd ht (fun hc => ?_) (fun hc => ?_)
  · have hh : cmpC .le a 0 = true := by rw [cc_le]; exact (of_le h2 h1).mp hc
    rw [if_pos hh] at kk; exact kk
  · have hh : ¬ cmpC .le a 0 = true := by rw [cc_le]; exact fun z => hc ((of_le h2 h1).mpr z)
    rw [if_neg hh] at kk; exact kk
theorem st_ifnull (hx : p.tables.exec = Jvm.exec) (hb : c.code = cc) (hE : EnvU X s s.heap) {ro : Option Nat} (ht : (pc : Int) + off = (tgt : Int)) (hd : decode cc pc = .ok (.ifnull off, 3))
    (k : WC X p l e R s m args below meth c Q nL (if ro = none then tgt else pc + 3) (L) (st) (G) (mi) (cells) (slots)) : WC X p l e R s m args below meth c Q nL (pc) (L) (pR ro :: st) (G) (mi) (cells) (slots) := by
  intro ls H locs hI hL hO hS
  have kk := k ls H locs hI hL hO (List.forall_mem_cons.mp hS).2
  cases ro with
  | none =>
    rw [if_pos rfl] at kk
    exact lv_ifnullN hx hb hd ht kk
  | some x =>
    rw [if_neg (by simp)] at kk
    exact lv_ifnull hx hb hd kk
theorem st_ifnonnull (hx : p.tables.exec = Jvm.exec) (hb : c.code = cc) (hE : EnvU X s s.heap) {ro : Option Nat} (ht : (pc : Int) + off = (tgt : Int)) (hd : decode cc pc = .ok (.ifnonnull off, 3))
    (k : WC X p l e R s m args below meth c Q nL (if ro = none then pc + 3 else tgt) (L) (st) (G) (mi) (cells) (slots)) : WC X p l e R s m args below meth c Q nL (pc) (L) (pR ro :: st) (G) (mi) (cells) (slots) := by
  intro ls H locs hI hL hO hS
  have kk := k ls H locs hI hL hO (List.forall_mem_cons.mp hS).2
  cases ro with
  | none =>
    rw [if_pos rfl] at kk
    exact lv_ifnonnullN hx hb hd kk
  | some x =>
    rw [if_neg (by simp)] at kk
    exact lv_ifnonnull hx hb hd ht kk
end ST
end
section
/-! ===== words, classes; fields, arrays, new cells (written by wip/whole/gen/gensound3.py) ===== -/
def refL : List (String × Nat × String) := [("CoinTelescope$Table", 15, "CoinTelescope$Table"), ("CoinTelescope$Table", 21, "CoinTelescope$Table"), ("CoinTelescope$Table", 24, "CoinTelescope$Table"), ("CoinTelescope$Table", 28, "CoinTelescope$Table"), ("CoinTelescope$View", 9, "CoinTelescope$View"), ("CoinTelescope", 153, "CoinTelescope$View"), ("CoinTelescope$View", 15, "CoinTelescope$View"), ("CoinTelescope", 156, "CoinTelescope$View"), ("CoinTelescope$View", 18, "CoinTelescope$View"), ("CoinTelescope", 126, "CoinTelescope$View"), ("CoinTelescope$Search", 107, "CoinTelescope$View"), ("CoinTelescope$View", 21, "CoinTelescope$View"), ("CoinTelescope$View", 25, "CoinTelescope$View"), ("CoinTelescope$View", 28, "CoinTelescope$View"), ("CoinTelescope$View", 31, "CoinTelescope$View"), ("CoinTelescope$View", 34, "CoinTelescope$View"), ("CoinTelescope$View", 37, "CoinTelescope$View"), ("CoinTelescope$View", 40, "CoinTelescope$View"), ("CoinTelescope$State", 14, "CoinTelescope$State"), ("CoinTelescope", 47, "CoinTelescope$State"), ("CoinTelescope$State", 23, "CoinTelescope$State"), ("CoinTelescope", 77, "CoinTelescope$State"), ("CoinTelescope$Search", 103, "CoinTelescope$State"), ("CoinTelescope", 58, "CoinTelescope$State"), ("CoinTelescope$State", 117, "CoinTelescope$State"), ("CoinTelescope$State", 52, "CoinTelescope$State"), ("CoinTelescope$Search", 40, "CoinTelescope$State"), ("CoinTelescope", 85, "CoinTelescope$State"), ("CoinTelescope$State", 29, "CoinTelescope$State"), ("CoinTelescope$State", 33, "CoinTelescope$State"), ("CoinTelescope$State", 37, "CoinTelescope$State"), ("CoinTelescope$Search", 82, "CoinTelescope$State"), ("CoinTelescope$State", 68, "CoinTelescope$State"), ("CoinTelescope", 147, "CoinTelescope$State"), ("CoinTelescope$Search", 54, "CoinTelescope$State"), ("CoinTelescope", 120, "CoinTelescope$State"), ("CoinTelescope$State", 107, "CoinTelescope$State"), ("CoinTelescope$Search", 118, "CoinTelescope$State"), ("CoinTelescope", 150, "CoinTelescope$State"), ("CoinTelescope$State", 124, "CoinTelescope$State"), ("CoinTelescope$State", 84, "CoinTelescope$State"), ("CoinTelescope", 159, "CoinTelescope$State"), ("CoinTelescope", 162, "CoinTelescope$State"), ("CoinTelescope$State", 127, "CoinTelescope$State"), ("CoinTelescope", 165, "CoinTelescope$State"), ("CoinTelescope$State", 130, "CoinTelescope$State"), ("CoinTelescope$State", 40, "CoinTelescope$State"), ("CoinTelescope", 207, "CoinTelescope$State"), ("CoinTelescope$State", 43, "CoinTelescope$State"), ("CoinTelescope", 220, "CoinTelescope$State"), ("CoinTelescope$State", 46, "CoinTelescope$State"), ("CoinTelescope", 229, "CoinTelescope$State"), ("CoinTelescope$State", 49, "CoinTelescope$State"), ("CoinTelescope$Search", 9, "CoinTelescope$Search"), ("CoinTelescope$Search", 15, "CoinTelescope$Search"), ("CoinTelescope$Search", 19, "CoinTelescope$Search"), ("CoinTelescope$Search", 22, "CoinTelescope$Search"), ("CoinTelescope$Search", 25, "CoinTelescope$Search"), ("CoinTelescope$Search", 79, "CoinTelescope$Search"), ("CoinTelescope$Search", 28, "CoinTelescope$Search"), ("CoinTelescope$Search", 31, "CoinTelescope$Search"), ("CoinTelescope$Search", 115, "CoinTelescope$Search"), ("CoinTelescope$Search", 112, "CoinTelescope$Search"), ("CoinTelescope", 12, "CoinTelescope"), ("CoinTelescope", 18, "CoinTelescope"), ("CoinTelescope", 26, "CoinTelescope"), ("CoinTelescope", 35, "CoinTelescope"), ("CoinTelescope", 39, "CoinTelescope"), ("java/lang/String", 38, "java/lang/String"), ("java/lang/String", 1053, "jdk/internal/util/Preconditions"), ("java/lang/StringUTF16", 44, "java/lang/StringUTF16"), ("java/lang/StringUTF16", 59, "java/lang/StringUTF16"), ("java/lang/StringUTF16", 63, "java/lang/StringUTF16"), ("CoinTelescope$Thing", 7, "CoinTelescope$Thing"), ("CoinTelescope", 100, "CoinTelescope$Thing"), ("CoinTelescope$State", 81, "CoinTelescope$Thing"), ("CoinTelescope$Thing", 13, "CoinTelescope$Thing"), ("CoinTelescope$Spire", 31, "CoinTelescope$Spire"), ("CoinTelescope$State", 71, "CoinTelescope$Thing"), ("CoinTelescope$Thing", 16, "CoinTelescope$Thing"), ("CoinTelescope$Bird", 9, "CoinTelescope$Bird"), ("CoinTelescope$Spire", 11, "CoinTelescope$Spire"), ("CoinTelescope$Told", 33, "CoinTelescope$Told"), ("CoinTelescope", 105, "CoinTelescope$Thing"), ("CoinTelescope$State", 74, "CoinTelescope$Thing"), ("CoinTelescope$Thing", 19, "CoinTelescope$Thing"), ("CoinTelescope$House", 11, "CoinTelescope$House"), ("CoinTelescope$Boat", 9, "CoinTelescope$Boat"), ("CoinTelescope$Spire", 17, "CoinTelescope$Spire"), ("CoinTelescope$Told", 17, "CoinTelescope$Told"), ("CoinTelescope$Bird", 15, "CoinTelescope$Bird"), ("CoinTelescope$Ship", 21, "CoinTelescope$Ship"), ("CoinTelescopeModel", 9, "CoinTelescopeModel"), ("CoinTelescopeModel", 15, "CoinTelescopeModel"), ("CoinTelescopeModel", 18, "CoinTelescopeModel"), ("CoinTelescopeModel", 262, "CoinTelescopeModel"), ("CoinTelescopeModel", 53, "CoinTelescopeModel"), ("CoinTelescopeModel", 83, "CoinTelescopeModel"), ("CoinTelescopeModel", 56, "CoinTelescopeModel"), ("CoinTelescopeModel", 59, "CoinTelescopeModel"), ("CoinTelescopeModel", 62, "CoinTelescopeModel"), ("CoinTelescopeModel", 86, "CoinTelescopeModel"), ("CoinTelescopeModel", 21, "CoinTelescopeModel"), ("CoinTelescopeModel", 24, "CoinTelescopeModel"), ("CoinTelescopeModel", 194, "CoinTelescopeModel"), ("CoinTelescopeModel", 185, "CoinTelescopeModel"), ("CoinTelescopeModel", 28, "CoinTelescopeModel"), ("CoinTelescopeModel", 31, "CoinTelescopeModel"), ("CoinTelescopeModel", 208, "CoinTelescopeModel"), ("CoinTelescopeModel", 34, "CoinTelescopeModel"), ("CoinTelescopeModel", 226, "CoinTelescopeModel"), ("CoinTelescopeModel", 235, "CoinTelescopeModel"), ("CoinTelescopeModel", 232, "CoinTelescopeModel"), ("CoinTelescopeModel", 247, "CoinTelescopeModel"), ("java/lang/String", 9, "java/lang/String"), ("java/lang/String", 15, "java/lang/String")]
def mrL : List (String × Nat × MethodName) := [("CoinTelescopeLaw", 9, ⟨"CoinTelescope", "<init>", "()V"⟩), ("CoinTelescope", 3, ⟨"java/lang/Object", "<init>", "()V"⟩), ("CoinTelescope", 11, ⟨"CoinTelescope$State", "<init>", "()V"⟩), ("CoinTelescope$State", 3, ⟨"java/lang/Object", "<init>", "()V"⟩), ("CoinTelescope$State", 11, ⟨"CoinTelescope$Table", "<init>", "(II)V"⟩), ("CoinTelescope$Table", 3, ⟨"java/lang/Object", "<init>", "()V"⟩), ("CoinTelescope$Table", 9, ⟨"java/lang/Math", "max", "(II)I"⟩), ("CoinTelescope$State", 22, ⟨"CoinTelescope$View", "<init>", "()V"⟩), ("CoinTelescope$View", 3, ⟨"java/lang/Object", "<init>", "()V"⟩), ("CoinTelescope", 23, ⟨"CoinTelescope$Table", "<init>", "(II)V"⟩), ("CoinTelescope", 32, ⟨"CoinTelescope$Search", "<init>", "(LCoinTelescope$State;)V"⟩), ("CoinTelescope$Search", 3, ⟨"java/lang/Object", "<init>", "()V"⟩), ("CoinTelescopeLaw", 13, ⟨"CoinTelescope", "feed", "(I)I"⟩), ("CoinTelescope", 43, ⟨"CoinTelescope", "within", "(III)Z"⟩), ("CoinTelescope", 50, ⟨"CoinTelescope$Table", "isFull", "()Z"⟩), ("CoinTelescope", 54, ⟨"CoinTelescope$Table", "add", "(III)I"⟩), ("CoinTelescopeLaw", 18, ⟨"CoinTelescope", "view", "()I"⟩), ("CoinTelescope", 64, ⟨"CoinTelescope$View", "<init>", "()V"⟩), ("CoinTelescope", 65, ⟨"CoinTelescope$Table", "firstColumn", "()[I"⟩), ("CoinTelescope$Table", 31, ⟨"java/lang/Math", "min", "(II)I"⟩), ("CoinTelescope$Table", 34, ⟨"CoinTelescope$Table", "get", "(II)I"⟩), ("CoinTelescope", 69, ⟨"CoinTelescope$View", "readFrom", "([I)I"⟩), ("CoinTelescope$View", 43, ⟨"CoinTelescope$View", "readClause", "()Z"⟩), ("CoinTelescope$View", 55, ⟨"CoinTelescope$View", "readWord", "()I"⟩), ("CoinTelescope$View", 75, ⟨"CoinTelescope$View", "sameSigns", "(I)I"⟩), ("CoinTelescope$View", 81, ⟨"java/lang/String", "length", "()I"⟩), ("java/lang/String", 335, ⟨"java/lang/String", "coder", "()B"⟩), ("CoinTelescope$View", 86, ⟨"java/lang/String", "charAt", "(I)C"⟩), ("java/lang/String", 492, ⟨"java/lang/String", "isLatin1", "()Z"⟩), ("java/lang/String", 495, ⟨"java/lang/StringLatin1", "charAt", "([BI)C"⟩), ("java/lang/StringLatin1", 9, ⟨"java/lang/String", "checkIndex", "(II)V"⟩), ("java/lang/String", 1059, ⟨"jdk/internal/util/Preconditions", "checkIndex", "(IILjava/util/function/BiFunction;)I"⟩), ("java/lang/String", 498, ⟨"java/lang/StringUTF16", "charAt", "([BI)C"⟩), ("java/lang/StringUTF16", 67, ⟨"java/lang/StringUTF16", "checkIndex", "(I[B)V"⟩), ("java/lang/StringUTF16", 48, ⟨"java/lang/StringUTF16", "length", "([B)I"⟩), ("java/lang/StringUTF16", 414, ⟨"java/lang/String", "checkIndex", "(II)V"⟩), ("java/lang/StringUTF16", 71, ⟨"java/lang/StringUTF16", "getChar", "([BI)C"⟩), ("CoinTelescope$View", 61, ⟨"java/lang/Math", "max", "(II)I"⟩), ("CoinTelescope$View", 47, ⟨"CoinTelescope$View", "take", "(C)Z"⟩), ("CoinTelescope$View", 51, ⟨"CoinTelescope$View", "next", "()I"⟩), ("CoinTelescope$View", 58, ⟨"CoinTelescope$View", "readNumber", "()I"⟩), ("CoinTelescope$View", 67, ⟨"CoinTelescope$View", "readJoined", "(II)Z"⟩), ("CoinTelescope$View", 90, ⟨"CoinTelescope$View", "readOne", "(I)Z"⟩), ("CoinTelescope$View", 97, ⟨"CoinTelescope$View", "readTest", "()Z"⟩), ("CoinTelescope$View", 102, ⟨"CoinTelescope$View", "readPlaceIn", "(Ljava/lang/String;)I"⟩), ("CoinTelescope$View", 108, ⟨"java/lang/String", "indexOf", "(I)I"⟩), ("java/lang/String", 633, ⟨"java/lang/String", "indexOf", "(II)I"⟩), ("java/lang/String", 505, ⟨"java/lang/String", "length", "()I"⟩), ("java/lang/String", 637, ⟨"java/lang/StringLatin1", "indexOf", "([BIII)I"⟩), ("java/lang/StringLatin1", 88, ⟨"java/lang/StringLatin1", "canEncode", "(I)Z"⟩), ("java/lang/StringLatin1", 92, ⟨"java/lang/Math", "max", "(II)I"⟩), ("java/lang/StringLatin1", 38, ⟨"java/lang/Math", "min", "(II)I"⟩), ("java/lang/StringLatin1", 95, ⟨"java/lang/StringLatin1", "indexOfChar", "([BIII)I"⟩), ("java/lang/String", 640, ⟨"java/lang/StringUTF16", "indexOf", "([BIII)I"⟩), ("java/lang/StringUTF16", 224, ⟨"java/lang/Math", "max", "(II)I"⟩), ("java/lang/StringUTF16", 183, ⟨"java/lang/Math", "min", "(II)I"⟩), ("java/lang/StringUTF16", 228, ⟨"java/lang/StringUTF16", "indexOfChar", "([BIII)I"⟩), ("java/lang/StringUTF16", 96, ⟨"java/lang/StringUTF16", "checkBoundsBeginEnd", "(II[B)V"⟩), ("java/lang/StringUTF16", 241, ⟨"java/lang/String", "checkBoundsBeginEnd", "(III)V"⟩), ("java/lang/String", 1062, ⟨"jdk/internal/util/Preconditions", "checkFromToIndex", "(IIILjava/util/function/BiFunction;)I"⟩), ("java/lang/StringUTF16", 244, ⟨"java/lang/StringUTF16", "indexOfCharUnsafe", "([BIII)I"⟩), ("java/lang/StringUTF16", 232, ⟨"java/lang/StringUTF16", "indexOfSupplementary", "([BIII)I"⟩), ("java/lang/StringUTF16", 164, ⟨"java/lang/Character", "isValidCodePoint", "(I)Z"⟩), ("java/lang/StringUTF16", 157, ⟨"java/lang/Character", "highSurrogate", "(I)C"⟩), ("java/lang/StringUTF16", 161, ⟨"java/lang/Character", "lowSurrogate", "(I)C"⟩), ("CoinTelescope$View", 94, ⟨"CoinTelescope$View", "emit", "(I)V"⟩), ("CoinTelescope$View", 71, ⟨"CoinTelescope$View", "keepCondition", "(I)V"⟩), ("CoinTelescope", 73, ⟨"CoinTelescope$Table", "clear", "()I"⟩), ("CoinTelescopeLaw", 23, ⟨"CoinTelescope", "thing", "(III)I"⟩), ("CoinTelescope", 81, ⟨"CoinTelescope", "isCell", "(I)Z"⟩), ("CoinTelescope", 88, ⟨"CoinTelescope", "newThing", "(III)LCoinTelescope$Thing;"⟩), ("CoinTelescope", 275, ⟨"CoinTelescope$Boat", "<init>", "(IIILCoinTelescope$Table;)V"⟩), ("CoinTelescope$Boat", 3, ⟨"CoinTelescope$Thing", "<init>", "(IIILCoinTelescope$Table;)V"⟩), ("CoinTelescope$Thing", 1, ⟨"java/lang/Object", "<init>", "()V"⟩), ("CoinTelescope", 278, ⟨"CoinTelescope$House", "<init>", "(IIILCoinTelescope$Table;)V"⟩), ("CoinTelescope$House", 1, ⟨"CoinTelescope$Thing", "<init>", "(IIILCoinTelescope$Table;)V"⟩), ("CoinTelescope", 279, ⟨"CoinTelescope$Bird", "<init>", "(IIILCoinTelescope$Table;)V"⟩), ("CoinTelescope$Bird", 3, ⟨"CoinTelescope$Thing", "<init>", "(IIILCoinTelescope$Table;)V"⟩), ("CoinTelescope", 280, ⟨"CoinTelescope$Ship", "<init>", "(IIILCoinTelescope$Table;)V"⟩), ("CoinTelescope$Ship", 1, ⟨"CoinTelescope$Boat", "<init>", "(IIILCoinTelescope$Table;)V"⟩), ("CoinTelescope", 281, ⟨"CoinTelescope$Spire", "<init>", "(IIILCoinTelescope$Table;)V"⟩), ("CoinTelescope$Spire", 1, ⟨"CoinTelescope$House", "<init>", "(IIILCoinTelescope$Table;)V"⟩), ("CoinTelescope", 282, ⟨"CoinTelescope$Told", "<init>", "(IIILCoinTelescope$Table;)V"⟩), ("CoinTelescope$Told", 3, ⟨"CoinTelescope$Bird", "<init>", "(IIILCoinTelescope$Table;)V"⟩), ("CoinTelescope", 283, ⟨"CoinTelescope$Thing", "<init>", "(IIILCoinTelescope$Table;)V"⟩), ("CoinTelescope", 92, ⟨"CoinTelescope$State", "put", "(LCoinTelescope$Thing;I)I"⟩), ("CoinTelescopeLaw", 28, ⟨"CoinTelescope", "of", "(II)I"⟩), ("CoinTelescope", 96, ⟨"CoinTelescope$State", "find", "(I)LCoinTelescope$Thing;"⟩), ("CoinTelescope", 108, ⟨"CoinTelescope$State", "homeOf", "(I)I"⟩), ("CoinTelescope", 112, ⟨"CoinTelescope$State", "isHad", "(I)Z"⟩), ("CoinTelescope", 115, ⟨"CoinTelescope", "bit", "(Z)I"⟩), ("CoinTelescopeLaw", 33, ⟨"CoinTelescope", "then", "(III)I"⟩), ("CoinTelescope", 123, ⟨"CoinTelescope$State", "cellOn", "(LCoinTelescope$Thing;I)I"⟩), ("CoinTelescope$State", 60, ⟨"CoinTelescope$State", "homeOf", "(I)I"⟩), ("CoinTelescope$State", 64, ⟨"CoinTelescope$State", "rowNumber", "(II)I"⟩), ("CoinTelescope$State", 77, ⟨"CoinTelescope$Thing", "placeOn", "(IIII)I"⟩), ("CoinTelescope$Ship", 7, ⟨"CoinTelescope$Boat", "placeOn", "(IIII)I"⟩), ("CoinTelescope$Told", 9, ⟨"CoinTelescope$Bird", "placeOn", "(IIII)I"⟩), ("CoinTelescope", 129, ⟨"CoinTelescope$Thing", "isDim", "(II)Z"⟩), ("CoinTelescope", 133, ⟨"CoinTelescope$State", "baseOn", "(LCoinTelescope$Thing;II)I"⟩), ("CoinTelescope$State", 87, ⟨"CoinTelescope$View", "baseBy", "([I)I"⟩), ("CoinTelescope$View", 115, ⟨"CoinTelescope$View", "holds", "(II[I)Z"⟩), ("CoinTelescope$View", 119, ⟨"CoinTelescope$View", "testHolds", "(I[I)Z"⟩), ("CoinTelescope", 137, ⟨"CoinTelescope$State", "worthOn", "(LCoinTelescope$Thing;II)I"⟩), ("CoinTelescope$State", 91, ⟨"CoinTelescope$State", "baseOn", "(LCoinTelescope$Thing;II)I"⟩), ("CoinTelescope$State", 95, ⟨"CoinTelescope$Thing", "worthBy", "(II)I"⟩), ("CoinTelescope$House", 7, ⟨"CoinTelescope$Thing", "worthBy", "(II)I"⟩), ("CoinTelescope$Ship", 11, ⟨"CoinTelescope$Boat", "worthBy", "(II)I"⟩), ("CoinTelescope$Spire", 7, ⟨"CoinTelescope$House", "worthBy", "(II)I"⟩), ("CoinTelescope$Told", 13, ⟨"CoinTelescope$Bird", "worthBy", "(II)I"⟩), ("CoinTelescope$State", 98, ⟨"java/lang/Math", "max", "(II)I"⟩), ("CoinTelescopeLaw", 37, ⟨"CoinTelescope", "row", "(III)I"⟩), ("CoinTelescope", 140, ⟨"CoinTelescope$State", "changeRow", "(III)I"⟩), ("CoinTelescopeLaw", 41, ⟨"CoinTelescope", "move", "(II)I"⟩), ("CoinTelescope", 143, ⟨"CoinTelescope$State", "changeHome", "(II)I"⟩), ("CoinTelescopeLaw", 45, ⟨"CoinTelescope", "had", "(IZ)I"⟩), ("CoinTelescopeLaw", 50, ⟨"CoinTelescope", "point", "(I)I"⟩), ("CoinTelescopeLaw", 54, ⟨"CoinTelescope", "told", "(I)I"⟩), ("CoinTelescope", 168, ⟨"CoinTelescope", "lostByACoin", "()I"⟩), ("CoinTelescope", 189, ⟨"java/lang/Math", "max", "(II)I"⟩), ("CoinTelescopeLaw", 58, ⟨"CoinTelescope", "pay", "()I"⟩), ("CoinTelescope", 171, ⟨"java/lang/Math", "min", "(II)I"⟩), ("CoinTelescopeLaw", 62, ⟨"CoinTelescope", "tick", "(I)I"⟩), ("CoinTelescope", 176, ⟨"CoinTelescope$Search", "foresee", "(II)V"⟩), ("CoinTelescope$Search", 34, ⟨"java/util/Arrays", "fill", "([II)V"⟩), ("CoinTelescope$Search", 46, ⟨"CoinTelescope$State", "find", "(I)LCoinTelescope$Thing;"⟩), ("CoinTelescope$Search", 50, ⟨"CoinTelescope$State", "isHad", "(I)Z"⟩), ("CoinTelescope$Search", 57, ⟨"CoinTelescope$State", "cellOn", "(LCoinTelescope$Thing;I)I"⟩), ("CoinTelescope$Search", 61, ⟨"CoinTelescope$Thing", "isDim", "(II)Z"⟩), ("CoinTelescope$Search", 71, ⟨"CoinTelescope$State", "worthOn", "(LCoinTelescope$Thing;II)I"⟩), ("CoinTelescope", 179, ⟨"CoinTelescope", "moved", "(II)I"⟩), ("CoinTelescope", 254, ⟨"CoinTelescope", "rowOf", "(I)I"⟩), ("CoinTelescope", 260, ⟨"CoinTelescope", "columnOf", "(I)I"⟩), ("CoinTelescope", 182, ⟨"CoinTelescope$Search", "gainAt", "(III)I"⟩), ("CoinTelescope$Search", 75, ⟨"CoinTelescope$Search", "seenAt", "(II)I"⟩), ("CoinTelescope", 185, ⟨"CoinTelescope$Search", "seenAt", "(II)I"⟩), ("CoinTelescopeLaw", 66, ⟨"CoinTelescope", "pass", "(I)I"⟩), ("CoinTelescopeLaw", 70, ⟨"CoinTelescope", "look", "(II)I"⟩), ("CoinTelescope", 192, ⟨"CoinTelescope$Search", "mostFrom", "(II)I"⟩), ("CoinTelescope$Search", 85, ⟨"CoinTelescope$Search", "tryDoings", "(IIIII)V"⟩), ("CoinTelescope", 248, ⟨"java/lang/System", "arraycopy", "(Ljava/lang/Object;ILjava/lang/Object;II)V"⟩), ("CoinTelescope$Search", 96, ⟨"CoinTelescope$Search", "gainAt", "(III)I"⟩), ("CoinTelescope", 195, ⟨"CoinTelescope$Search", "bestDoing", "(I)I"⟩), ("CoinTelescopeLaw", 74, ⟨"CoinTelescope", "aim", "(II)I"⟩), ("CoinTelescopeLaw", 78, ⟨"CoinTelescope", "soon", "(I)I"⟩), ("CoinTelescope", 198, ⟨"CoinTelescope$Search", "soonFrom", "(LCoinTelescope$Thing;II)I"⟩), ("CoinTelescope", 257, ⟨"java/lang/Math", "abs", "(I)I"⟩), ("CoinTelescopeLaw", 82, ⟨"CoinTelescope", "order", "(I)I"⟩), ("CoinTelescope", 201, ⟨"CoinTelescope$Search", "fewestTicks", "()I"⟩), ("CoinTelescope$Search", 121, ⟨"CoinTelescope$Search", "tryThings", "(IIII)V"⟩), ("CoinTelescope$Search", 125, ⟨"CoinTelescope$Search", "soonFrom", "(LCoinTelescope$Thing;II)I"⟩), ("CoinTelescope", 204, ⟨"CoinTelescope$Search", "bestThing", "(I)I"⟩), ("CoinTelescopeLaw", 86, ⟨"CoinTelescope", "stood", "(III)I"⟩), ("CoinTelescopeLaw", 90, ⟨"CoinTelescope", "from", "(I)I"⟩), ("CoinTelescope", 210, ⟨"CoinTelescope$State", "stoodIsSo", "(LCoinTelescope$Thing;II)Z"⟩), ("CoinTelescope$State", 103, ⟨"CoinTelescope$Table", "size", "()I"⟩), ("CoinTelescope$State", 110, ⟨"CoinTelescope$Table", "get", "(II)I"⟩), ("CoinTelescopeLaw", 94, ⟨"CoinTelescope", "firm", "(II)I"⟩), ("CoinTelescopeLaw", 98, ⟨"CoinTelescope", "odds", "(III)J"⟩), ("CoinTelescope", 216, ⟨"CoinTelescope", "partOf", "(III)J"⟩), ("CoinTelescopeLaw", 103, ⟨"CoinTelescope", "mean", "(I)J"⟩), ("CoinTelescopeLaw", 108, ⟨"CoinTelescope", "plan", "(I)I"⟩), ("CoinTelescopeLaw", 112, ⟨"CoinTelescope", "done", "(I)I"⟩), ("CoinTelescope", 223, ⟨"CoinTelescope$Table", "size", "()I"⟩), ("CoinTelescope", 226, ⟨"CoinTelescope$Table", "get", "(II)I"⟩), ("CoinTelescopeLaw", 116, ⟨"CoinTelescope", "book", "(II)I"⟩), ("CoinTelescopeLaw", 120, ⟨"CoinTelescope", "looked", "()I"⟩), ("CoinTelescopeLaw", 124, ⟨"CoinTelescope", "act", "(III)I"⟩), ("CoinTelescope", 232, ⟨"CoinTelescope$Thing", "shows", "(I)I"⟩), ("CoinTelescope$Boat", 15, ⟨"CoinTelescope$Table", "add", "(III)I"⟩), ("CoinTelescope$Boat", 21, ⟨"CoinTelescope$Thing", "shows", "(I)I"⟩), ("CoinTelescope$Spire", 21, ⟨"CoinTelescope$Table", "add", "(III)I"⟩), ("CoinTelescope$Spire", 27, ⟨"CoinTelescope$House", "shows", "(I)I"⟩), ("CoinTelescope$Thing", 29, ⟨"CoinTelescope$Table", "add", "(III)I"⟩), ("CoinTelescope", 235, ⟨"CoinTelescope$Thing", "shakes", "(I)I"⟩), ("CoinTelescope$House", 17, ⟨"CoinTelescope$Table", "add", "(III)I"⟩), ("CoinTelescope$House", 23, ⟨"CoinTelescope$Thing", "shakes", "(I)I"⟩), ("CoinTelescope$Told", 23, ⟨"CoinTelescope$Table", "add", "(III)I"⟩), ("CoinTelescope$Told", 29, ⟨"CoinTelescope$Bird", "shakes", "(I)I"⟩), ("CoinTelescope$Thing", 35, ⟨"CoinTelescope$Thing", "shows", "(I)I"⟩), ("CoinTelescope", 238, ⟨"CoinTelescope$Thing", "tells", "(I)I"⟩), ("CoinTelescope$Bird", 19, ⟨"CoinTelescope$Table", "add", "(III)I"⟩), ("CoinTelescope$Bird", 25, ⟨"CoinTelescope$Thing", "tells", "(I)I"⟩), ("CoinTelescope$Ship", 27, ⟨"CoinTelescope$Table", "add", "(III)I"⟩), ("CoinTelescope$Ship", 33, ⟨"CoinTelescope$Boat", "tells", "(I)I"⟩), ("CoinTelescope$Ship", 36, ⟨"CoinTelescope$Ship", "shows", "(I)I"⟩), ("CoinTelescope$Thing", 38, ⟨"CoinTelescope$Thing", "shakes", "(I)I"⟩), ("CoinTelescopeLaw", 128, ⟨"CoinTelescope", "trace", "(I)I"⟩), ("CoinTelescopeLaw", 132, ⟨"CoinTelescope", "as", "(II)I"⟩), ("CoinTelescope", 241, ⟨"CoinTelescope", "isOfKind", "(LCoinTelescope$Thing;I)Z"⟩), ("CoinTelescopeLaw", 136, ⟨"CoinTelescope", "image", "()I"⟩), ("CoinTelescope", 245, ⟨"CoinTelescope$State", "becomeAs", "(LCoinTelescope$State;)V"⟩), ("CoinTelescope$State", 113, ⟨"CoinTelescope$Table", "becomeAs", "(LCoinTelescope$Table;)V"⟩), ("CoinTelescopeLaw", 140, ⟨"CoinTelescope", "undo", "()I"⟩), ("CoinTelescopeLaw", 144, ⟨"CoinTelescope", "count", "(I)I"⟩), ("CoinTelescopeLaw", 12, ⟨"CoinTelescopeModel", "<init>", "()V"⟩), ("CoinTelescopeModel", 3, ⟨"java/lang/Object", "<init>", "()V"⟩), ("CoinTelescopeLaw", 17, ⟨"CoinTelescopeModel", "feed", "(I)I"⟩), ("CoinTelescopeModel", 41, ⟨"CoinTelescopeModel", "in", "(III)Z"⟩), ("CoinTelescopeLaw", 22, ⟨"CoinTelescopeModel", "view", "()I"⟩), ("CoinTelescopeModel", 136, ⟨"CoinTelescopeModel", "clauseHere", "()V"⟩), ("CoinTelescopeModel", 66, ⟨"CoinTelescopeModel", "here", "()I"⟩), ("CoinTelescopeModel", 126, ⟨"CoinTelescopeModel", "tellsHere", "(ILjava/lang/String;)V"⟩), ("CoinTelescopeModel", 112, ⟨"CoinTelescopeModel", "spells", "(Ljava/lang/String;)V"⟩), ("CoinTelescopeModel", 70, ⟨"java/lang/String", "length", "()I"⟩), ("CoinTelescopeModel", 75, ⟨"java/lang/String", "charAt", "(I)C"⟩), ("CoinTelescopeModel", 79, ⟨"CoinTelescopeModel", "must", "(I)V"⟩), ("CoinTelescopeModel", 106, ⟨"CoinTelescopeModel", "figures", "()I"⟩), ("CoinTelescopeModel", 133, ⟨"CoinTelescopeModel", "wordOfD", "()V"⟩), ("CoinTelescopeModel", 118, ⟨"CoinTelescopeModel", "much", "(ILjava/lang/String;)V"⟩), ("CoinTelescopeModel", 95, ⟨"CoinTelescopeModel", "some", "()V"⟩), ("CoinTelescopeModel", 109, ⟨"CoinTelescopeModel", "every", "()V"⟩), ("CoinTelescopeModel", 89, ⟨"CoinTelescopeModel", "factor", "()V"⟩), ("CoinTelescopeModel", 92, ⟨"CoinTelescopeModel", "emits", "(I)V"⟩), ("CoinTelescopeModel", 100, ⟨"CoinTelescopeModel", "among", "(Ljava/lang/String;)I"⟩), ("CoinTelescopeLaw", 27, ⟨"CoinTelescopeModel", "thing", "(III)I"⟩), ("CoinTelescopeModel", 145, ⟨"CoinTelescopeModel", "isCell", "(I)Z"⟩), ("CoinTelescopeLaw", 32, ⟨"CoinTelescopeModel", "of", "(II)I"⟩), ("CoinTelescopeModel", 149, ⟨"CoinTelescopeModel", "isThing", "(I)Z"⟩), ("CoinTelescopeLaw", 36, ⟨"CoinTelescopeModel", "then", "(III)I"⟩), ("CoinTelescopeModel", 153, ⟨"CoinTelescopeModel", "asItIs", "()V"⟩), ("CoinTelescopeModel", 49, ⟨"CoinTelescopeModel", "tellsOf", "(II)I"⟩), ("CoinTelescopeModel", 139, ⟨"CoinTelescopeModel", "isAt", "(II)I"⟩), ("CoinTelescopeModel", 156, ⟨"CoinTelescopeModel", "isDim", "(II)Z"⟩), ("CoinTelescopeModel", 142, ⟨"CoinTelescopeModel", "baseOf", "(II)I"⟩), ("CoinTelescopeModel", 160, ⟨"CoinTelescopeModel", "worthOf", "(II)I"⟩), ("CoinTelescopeLaw", 40, ⟨"CoinTelescopeModel", "row", "(III)I"⟩), ("CoinTelescopeModel", 163, ⟨"CoinTelescopeModel", "becomes", "(II)I"⟩), ("CoinTelescopeLaw", 44, ⟨"CoinTelescopeModel", "move", "(II)I"⟩), ("CoinTelescopeLaw", 49, ⟨"CoinTelescopeModel", "had", "(IZ)I"⟩), ("CoinTelescopeLaw", 53, ⟨"CoinTelescopeModel", "point", "(I)I"⟩), ("CoinTelescopeLaw", 57, ⟨"CoinTelescopeModel", "told", "(I)I"⟩), ("CoinTelescopeModel", 166, ⟨"CoinTelescopeModel", "coin", "()I"⟩), ("CoinTelescopeModel", 169, ⟨"CoinTelescopeModel", "hadOnes", "()I"⟩), ("CoinTelescopeModel", 172, ⟨"CoinTelescopeModel", "lost", "()I"⟩), ("CoinTelescopeLaw", 61, ⟨"CoinTelescopeModel", "pay", "()I"⟩), ("CoinTelescopeLaw", 65, ⟨"CoinTelescopeModel", "tick", "(I)I"⟩), ("CoinTelescopeModel", 178, ⟨"CoinTelescopeModel", "goes", "(I)I"⟩), ("CoinTelescopeModel", 175, ⟨"CoinTelescopeModel", "brought", "(II)I"⟩), ("CoinTelescopeLaw", 69, ⟨"CoinTelescopeModel", "pass", "(I)I"⟩), ("CoinTelescopeLaw", 73, ⟨"CoinTelescopeModel", "look", "(II)I"⟩), ("CoinTelescopeModel", 197, ⟨"CoinTelescopeModel", "looksFor", "(I)V"⟩), ("CoinTelescopeModel", 182, ⟨"CoinTelescopeModel", "keeps", "()V"⟩), ("CoinTelescopeModel", 188, ⟨"CoinTelescopeModel", "power", "(I)I"⟩), ("CoinTelescopeModel", 191, ⟨"CoinTelescopeModel", "goesBack", "()V"⟩), ("CoinTelescopeLaw", 77, ⟨"CoinTelescopeModel", "aim", "(II)I"⟩), ("CoinTelescopeLaw", 81, ⟨"CoinTelescopeModel", "soon", "(I)I"⟩), ("CoinTelescopeModel", 204, ⟨"CoinTelescopeModel", "ticksTo", "(III)I"⟩), ("CoinTelescopeModel", 200, ⟨"CoinTelescopeModel", "far", "(II)I"⟩), ("CoinTelescopeModel", 45, ⟨"CoinTelescopeModel", "size", "(I)I"⟩), ("CoinTelescopeLaw", 85, ⟨"CoinTelescopeModel", "order", "(I)I"⟩), ("CoinTelescopeModel", 211, ⟨"CoinTelescopeModel", "ordersFrom", "(IIII)V"⟩), ("CoinTelescopeLaw", 89, ⟨"CoinTelescopeModel", "stood", "(III)I"⟩), ("CoinTelescopeLaw", 93, ⟨"CoinTelescopeModel", "from", "(I)I"⟩), ("CoinTelescopeModel", 215, ⟨"CoinTelescopeModel", "areAsTold", "(I)Z"⟩), ("CoinTelescopeLaw", 97, ⟨"CoinTelescopeModel", "firm", "(II)I"⟩), ("CoinTelescopeLaw", 102, ⟨"CoinTelescopeModel", "odds", "(III)J"⟩), ("CoinTelescopeModel", 222, ⟨"CoinTelescopeModel", "lowest", "(JJI)J"⟩), ("CoinTelescopeLaw", 107, ⟨"CoinTelescopeModel", "mean", "(I)J"⟩), ("CoinTelescopeLaw", 111, ⟨"CoinTelescopeModel", "plan", "(I)I"⟩), ("CoinTelescopeLaw", 115, ⟨"CoinTelescopeModel", "done", "(I)I"⟩), ("CoinTelescopeLaw", 119, ⟨"CoinTelescopeModel", "book", "(II)I"⟩), ("CoinTelescopeLaw", 123, ⟨"CoinTelescopeModel", "looked", "()I"⟩), ("CoinTelescopeLaw", 127, ⟨"CoinTelescopeModel", "act", "(III)I"⟩), ("CoinTelescopeModel", 244, ⟨"CoinTelescopeModel", "showsActs", "(I)I"⟩), ("CoinTelescopeModel", 238, ⟨"CoinTelescopeModel", "isUnder", "(II)Z"⟩), ("CoinTelescopeModel", 229, ⟨"CoinTelescopeModel", "ranBody", "(I)V"⟩), ("CoinTelescopeModel", 241, ⟨"CoinTelescopeModel", "plainShows", "(I)I"⟩), ("CoinTelescopeModel", 253, ⟨"CoinTelescopeModel", "shakesActs", "(I)I"⟩), ("CoinTelescopeModel", 250, ⟨"CoinTelescopeModel", "plainShakes", "(I)I"⟩), ("CoinTelescopeModel", 259, ⟨"CoinTelescopeModel", "tellsActs", "(I)I"⟩), ("CoinTelescopeModel", 256, ⟨"CoinTelescopeModel", "plainTelling", "(I)I"⟩), ("CoinTelescopeLaw", 131, ⟨"CoinTelescopeModel", "trace", "(I)I"⟩), ("CoinTelescopeLaw", 135, ⟨"CoinTelescopeModel", "as", "(II)I"⟩), ("CoinTelescopeLaw", 139, ⟨"CoinTelescopeModel", "image", "()I"⟩), ("CoinTelescopeLaw", 143, ⟨"CoinTelescopeModel", "undo", "()I"⟩), ("CoinTelescopeLaw", 147, ⟨"CoinTelescopeModel", "count", "(I)I"⟩)]
def clkL : List (String × Nat × String) := [("CoinTelescopeLaw", 7, "CoinTelescope"), ("CoinTelescope", 9, "CoinTelescope$State"), ("CoinTelescope$State", 9, "CoinTelescope$Table"), ("CoinTelescope$State", 20, "CoinTelescope$View"), ("CoinTelescope$State", 27, "CoinTelescope$Thing"), ("CoinTelescope", 21, "CoinTelescope$Table"), ("CoinTelescope", 30, "CoinTelescope$Search"), ("CoinTelescope", 62, "CoinTelescope$View"), ("CoinTelescope", 263, "CoinTelescope$Boat"), ("CoinTelescope", 265, "CoinTelescope$House"), ("CoinTelescope", 267, "CoinTelescope$Bird"), ("CoinTelescope", 269, "CoinTelescope$Ship"), ("CoinTelescope", 271, "CoinTelescope$Spire"), ("CoinTelescope", 273, "CoinTelescope$Told"), ("CoinTelescope", 101, "CoinTelescope$Thing"), ("CoinTelescopeLaw", 10, "CoinTelescopeModel")]
def wIn0 (w : Cond) : Bool := decide (w ∈ lw_tbl) && goodWord w
abbrev AW : List Cond := lw_tbl.filter goodWord
theorem wIn0_mem {w : Cond} (h : wIn0 w = true) : w ∈ AW := by
  simp only [wIn0, Bool.and_eq_true, decide_eq_true_eq] at h
  exact List.mem_filter.mpr h
def clC (ci : Nat) : vw_C := vwCl.getD ci ("", fun _ => ("", "", "", false), 0)
def tyC (ci k : Nat) : FieldType := (parseFieldDescriptor ((clC ci).2.1 k).2.2.1).getD .int
def isRefT : FieldType → Bool
  | .object _ => true
  | .array _ => true
  | _ => false
def rfF (ci k : Nat) : Bool := (rfT.getD ci []).getD k false
def clChk (ci : Nat) : Bool := decide (ci < vwCl.length) && decide ((clC ci).2.2 = clN ci) && (u_ws (clC ci).1 (clC ci).2.1 (clC ci).2.2).all wIn0 &&
  ((List.range (clN ci)).all fun k => decide (parseFieldDescriptor ((clC ci).2.1 k).2.2.1 = some (tyC ci k)) && (if rfF ci k = true then isRefT (tyC ci k) else decide (tyC ci k = .int) || decide (tyC ci k = .boolean))) &&
  ((List.range (clN ci)).all fun a => (List.range (clN ci)).all fun b => decide (a = b) || decide (((clC ci).2.1 a).2.1 ≠ ((clC ci).2.1 b).2.1))
theorem clChk_all : ∀ ci, ci < 13 → clChk ci = true := by decide +kernel
theorem cl_get {ci : Nat} (h : ci < 13) : vwCl[ci]? = some (clC ci) := by
  have h1 := clChk_all ci h
  simp only [clChk, Bool.and_eq_true, decide_eq_true_eq] at h1
  unfold clC
  rw [List.getD_eq_getElem?_getD, List.getElem?_eq_getElem h1.1.1.1.1]
  rfl
theorem cl_N {ci : Nat} (h : ci < 13) : (clC ci).2.2 = clN ci := by
  have h1 := clChk_all ci h
  simp only [clChk, Bool.and_eq_true, decide_eq_true_eq] at h1
  exact h1.1.1.1.2
theorem cl_in {ci : Nat} (h : ci < 13) : ∀ w ∈ u_ws (clC ci).1 (clC ci).2.1 (clC ci).2.2, w ∈ AW := by
  have h1 := clChk_all ci h
  simp only [clChk, Bool.and_eq_true, decide_eq_true_eq] at h1
  exact fun w hw => wIn0_mem (List.all_eq_true.mp h1.1.1.2 w hw)
theorem cl_ty {ci : Nat} (h : ci < 13) : ∀ k, k < (clC ci).2.2 → parseFieldDescriptor ((clC ci).2.1 k).2.2.1 = some (tyC ci k) := by
  intro k hk
  rw [cl_N h] at hk
  have h1 := clChk_all ci h
  simp only [clChk, Bool.and_eq_true, decide_eq_true_eq] at h1
  have h2 := List.all_eq_true.mp h1.1.2 k (List.mem_range.mpr hk)
  simp only [Bool.and_eq_true, decide_eq_true_eq] at h2
  exact h2.1
theorem cl_rf {ci k : Nat} (h : ci < 13) (hk : k < clN ci) (hr : rfF ci k = true) : isRefT (tyC ci k) = true := by
  have h1 := clChk_all ci h
  simp only [clChk, Bool.and_eq_true, decide_eq_true_eq] at h1
  have h2 := List.all_eq_true.mp h1.1.2 k (List.mem_range.mpr hk)
  simp only [Bool.and_eq_true, decide_eq_true_eq] at h2
  have h3 := h2.2
  rw [if_pos hr] at h3
  exact h3
theorem cl_nrf {ci k : Nat} (h : ci < 13) (hk : k < clN ci) (hr : rfF ci k = false) : tyC ci k = .int ∨ tyC ci k = .boolean := by
  have h1 := clChk_all ci h
  simp only [clChk, Bool.and_eq_true, decide_eq_true_eq] at h1
  have h2 := List.all_eq_true.mp h1.1.2 k (List.mem_range.mpr hk)
  simp only [Bool.and_eq_true, decide_eq_true_eq] at h2
  have h3 := h2.2
  rw [if_neg (by rw [hr]; decide)] at h3
  simpa using h3
theorem cl_nm {ci : Nat} (h : ci < 13) : ∀ a, a < (clC ci).2.2 → ∀ b, b < (clC ci).2.2 → a ≠ b → ((clC ci).2.1 a).2.1 ≠ ((clC ci).2.1 b).2.1 := by
  intro a ha b hb hab
  rw [cl_N h] at ha hb
  have h1 := clChk_all ci h
  simp only [clChk, Bool.and_eq_true, decide_eq_true_eq] at h1
  have h2 := List.all_eq_true.mp (List.all_eq_true.mp h1.2 a (List.mem_range.mpr ha)) b (List.mem_range.mpr hb)
  simp only [Bool.or_eq_true, decide_eq_true_eq] at h2
  exact h2.resolve_left hab
theorem wlX_get {X : Cx} {G : Gh} {mi : Mi} {o : Nat} (h : o < gN G) : (wlX X G mi)[o]? = some (xb X + o, entX X G mi o) := by
  unfold wlX
  rw [List.getElem?_map, List.getElem?_range h]
  rfl
theorem wlX_len {X : Cx} {G : Gh} {mi : Mi} : (wlX X G mi).length = gN G := by simp [wlX]
theorem wlX_D {X : Cx} {G : Gh} {mi : Mi} : va_D (AX X) (wlX X G mi) := by
  have key : ∀ (k : Nat) (q : Nat × va_E), (wlX X G mi)[k]? = some q → q.1 = xb X + k := by
    intro k q hq
    have hk : k < gN G := by
      have := (List.getElem?_eq_some_iff.mp hq).1
      rw [wlX_len] at this
      exact this
    rw [wlX_get hk] at hq
    cases hq
    rfl
  refine ⟨fun i j p q hi hj e => ?_, fun k q hq => ?_⟩
  · have h1 := key i p hi
    have h2 := key j q hj
    omega
  · rw [key k q hq]
    exact Nat.le_add_right _ _
theorem wlX_set {X : Cx} {G G' : Gh} {mi mi' : Mi} {o : Nat} {en : va_E} (hN : gN G' = gN G) (ho : entX X G' mi' o = en) (hne : ∀ a, a ≠ o → entX X G' mi' a = entX X G mi a) : (wlX X G mi).set o (xb X + o, en) = wlX X G' mi' := by
  apply List.ext_getElem?
  intro k
  rw [List.getElem?_set]
  by_cases hk : k < gN G
  · rw [wlX_get (G := G') (by rw [hN]; exact hk)]
    by_cases h : o = k
    · subst h
      rw [if_pos rfl, if_pos (by rw [wlX_len]; exact hk), ho]
    · rw [if_neg h, wlX_get hk, hne k (fun z => h z.symm)]
  · have e1 : (wlX X G mi)[k]? = none := List.getElem?_eq_none_iff.mpr (by rw [wlX_len]; omega)
    have e2 : (wlX X G' mi')[k]? = none := List.getElem?_eq_none_iff.mpr (by rw [wlX_len, hN]; omega)
    rw [e1, e2]
    by_cases h : o = k
    · subst h
      rw [if_pos rfl, if_neg (by rw [wlX_len]; exact hk)]
    · rw [if_neg h]
theorem entX_obj {X : Cx} {G : Gh} {mi : Mi} {o ci : Nat} (h : (gK G o).1 = ci + 1) (hc : ci < 13) : entX X G mi o = .inr (ci, fvs X G mi o ci) := by
  unfold entX
  rw [if_pos (by omega), h]
  rfl
theorem up_o {mi : Mi} {o : Nat} {k v : Int} {a : Nat} (h : a ≠ o) : up mi o k v a = mi a := by
  funext j
  simp [up, h]
theorem entX_up {X : Cx} {G : Gh} {mi : Mi} {o : Nat} {k v : Int} {a : Nat} (h : a ≠ o) : entX X G (up mi o k v) a = entX X G mi a := by
  unfold entX fvs
  rw [up_o h]
theorem entX_setR {X : Cx} {G : Gh} {mi : Mi} {o : Nat} {k : Int} {v : Option Nat} {a : Nat} (h : a ≠ o) : entX X (setR G o k v) mi a = entX X G mi a := by
  have e : ∀ j, gR (setR G o k v) a j = gR G a j := fun j => by show upR (gR G) o k v a j = _; simp [upR, h]
  unfold entX fvs
  simp only [e]
  rfl
theorem fvs_up {X : Cx} {G : Gh} {mi : Mi} {o ci k : Nat} {v : Int} (hk : k < clN ci) (hr : rfF ci k = false) : fvs X G (up mi o k v) o ci = (fvs X G mi o ci).set k (.int (Int32.ofInt v)) := by
  apply List.ext_getElem?
  intro j
  rw [List.getElem?_set]
  unfold fvs
  rw [List.getElem?_map, List.getElem?_map, List.length_map, List.length_range]
  by_cases hj : j < clN ci
  · rw [List.getElem?_range hj]
    by_cases h : k = j
    · subst h
      rw [if_pos rfl, if_pos hk]
      simp only [Option.map_some]
      rw [if_neg (by show ¬ rfF ci k = true; rw [hr]; decide)]
      simp [up]
    · rw [if_neg h]
      simp only [Option.map_some]
      have : up mi o k v o j = mi o j := by
        have : ¬ ((j : Int) = (k : Int)) := by omega
        simp [up, this]
      rw [this]
  · have : (List.range (clN ci))[j]? = none := List.getElem?_eq_none_iff.mpr (by simp; omega)
    rw [this, if_neg (by omega)]
    rfl
theorem fvs_setR {X : Cx} {G : Gh} {mi : Mi} {o ci k : Nat} {v : Option Nat} (hk : k < clN ci) (hr : rfF ci k = true) : fvs X (setR G o k v) mi o ci = (fvs X G mi o ci).set k (va_rf (rfX X v)) := by
  apply List.ext_getElem?
  intro j
  rw [List.getElem?_set]
  unfold fvs
  rw [List.getElem?_map, List.getElem?_map, List.length_map, List.length_range]
  by_cases hj : j < clN ci
  · rw [List.getElem?_range hj]
    by_cases h : k = j
    · subst h
      rw [if_pos rfl, if_pos hk]
      simp only [Option.map_some]
      rw [if_pos (by exact hr)]
      show some (va_rf (rfX X (upR (gR G) o k v o k))) = _
      simp [upR]
    · rw [if_neg h]
      simp only [Option.map_some]
      have : gR (setR G o k v) o j = gR G o j := by
        have : ¬ ((j : Int) = (k : Int)) := by omega
        show upR (gR G) o k v o j = _
        simp [upR, this]
      rw [this]
  · have : (List.range (clN ci))[j]? = none := List.getElem?_eq_none_iff.mpr (by simp; omega)
    rw [this, if_neg (by omega)]
    rfl
theorem fvs_get {X : Cx} {G : Gh} {mi : Mi} {o ci k : Nat} (hk : k < clN ci) : (fvs X G mi o ci)[k]? = some (if rfF ci k = true then va_rf (rfX X (gR G o k)) else .int (Int32.ofInt (mi o k))) := by
  unfold fvs
  rw [List.getElem?_map, List.getElem?_range hk]
  rfl
theorem fvs_len {X : Cx} {G : Gh} {mi : Mi} {o ci : Nat} : (fvs X G mi o ci).length = clN ci := by simp [fvs]
theorem up_in {mi : Mi} {o : Nat} {k v : Int} (h : ∀ a j, in32 (mi a j)) (hv : in32 v) : ∀ a j, in32 (up mi o k v a j) := by
  intro a j
  unfold up
  split
  · exact hv
  · exact h a j
section ST3
variable {X : Cx} {p : Program} {l : Launch} {e : Env} {R : Room} {s : State} {m : MethodId} {args : Array Value} {below : List Frame} {meth : Method} {c : Code} {cc : ByteArray} {Q : State → Prop} {nL pc tgt i : Nat} {L : Lcs} {st : List PV} {G : Gh} {mi : Mi} {cells slots : Nat} {a b n off : Int} {o ci k : Nat} {own ref : String}
theorem st_gfi (hx : p.tables.exec = Jvm.exec) (hb : c.code = cc) (hE : EnvU X s s.heap) (hts : ∀ w ∈ AW, w.before args s = true) (hown : s.vm.findClass own = some m.cls) (hci : (gK G o).1 = ci + 1) (h13 : ci < 13) (hk : k < clN ci) (hlink : (Cond.fieldLink own i ref ((clC ci).2.1 k).2.1 ((clC ci).2.1 k).2.2.1).before args s = true) (hsame : ∀ x, s.fieldFound? ((clC ci).2.1 k).1 ((clC ci).2.1 k).2.1 ((clC ci).2.1 k).2.2.1 = some x → s.fieldFound? ref ((clC ci).2.1 k).2.1 ((clC ci).2.1 k).2.2.1 = some x) (hr : rfF ci k = false) (hd : decode cc pc = .ok (.getfield i, 3))
    (k1 : WC X p l e R s m args below meth c Q nL (pc + 3) (L) (pI (mi o k) :: st) (G) (mi) (cells) (slots)) : WC X p l e R s m args below meth c Q nL (pc) (L) (pR (some o) :: st) (G) (mi) (cells) (slots) := by
  intro ls H locs hI hL hO hS
  have ho : o < gN G := hI.1.2.2.1 o (by omega)
  have hv := fvs_get (X := X) (G := G) (mi := mi) (o := o) hk
  rw [if_neg (by rw [hr]; decide)] at hv
  have hg := wlX_get (X := X) (mi := mi) ho
  rw [entX_obj hci h13] at hg
  exact va_get (C := (clC ci).1) (T := (clC ci).2.1) (N := (clC ci).2.2) hx hb hts (cl_in h13) hown hE.1 hI.1.1 o hg (cl_get h13) k (by rw [cl_N h13]; exact hk) hlink hsame hv hd (k1 ls H locs hI hL hO (List.forall_mem_cons.mpr ⟨hI.1.2.1 o k, (List.forall_mem_cons.mp hS).2⟩))
theorem st_gfr (hx : p.tables.exec = Jvm.exec) (hb : c.code = cc) (hE : EnvU X s s.heap) (hts : ∀ w ∈ AW, w.before args s = true) (hown : s.vm.findClass own = some m.cls) (hci : (gK G o).1 = ci + 1) (h13 : ci < 13) (hk : k < clN ci) (hlink : (Cond.fieldLink own i ref ((clC ci).2.1 k).2.1 ((clC ci).2.1 k).2.2.1).before args s = true) (hsame : ∀ x, s.fieldFound? ((clC ci).2.1 k).1 ((clC ci).2.1 k).2.1 ((clC ci).2.1 k).2.2.1 = some x → s.fieldFound? ref ((clC ci).2.1 k).2.1 ((clC ci).2.1 k).2.2.1 = some x) (hr : rfF ci k = true) (hd : decode cc pc = .ok (.getfield i, 3))
    (k1 : WC X p l e R s m args below meth c Q nL (pc + 3) (L) (pR (gR G o k) :: st) (G) (mi) (cells) (slots)) : WC X p l e R s m args below meth c Q nL (pc) (L) (pR (some o) :: st) (G) (mi) (cells) (slots) := by
  intro ls H locs hI hL hO hS
  have ho : o < gN G := hI.1.2.2.1 o (by omega)
  have hv := fvs_get (X := X) (G := G) (mi := mi) (o := o) hk
  rw [if_pos hr] at hv
  have hg := wlX_get (X := X) (mi := mi) ho
  rw [entX_obj hci h13] at hg
  exact va_get (C := (clC ci).1) (T := (clC ci).2.1) (N := (clC ci).2.2) hx hb hts (cl_in h13) hown hE.1 hI.1.1 o hg (cl_get h13) k (by rw [cl_N h13]; exact hk) hlink hsame hv hd (k1 ls H locs hI hL hO (List.forall_mem_cons.mpr ⟨trivial, (List.forall_mem_cons.mp hS).2⟩))
theorem nar_bool {v : Int} (h0 : 0 ≤ v) (h1 : v ≤ 1) : narrow .boolean (.int (Int32.ofInt v)) = .int (Int32.ofInt v) ∧ fits .boolean (.int (Int32.ofInt v)) = true := by
  have : v = 0 ∨ v = 1 := by omega
  rcases this with rfl | rfl <;> exact ⟨by decide, by decide⟩
theorem nar_nrf {ci k : Nat} {v : Int} (h13 : ci < 13) (hk : k < clN ci) (hr : rfF ci k = false) (hb : tyC ci k = .boolean → 0 ≤ v ∧ v ≤ 1) : narrow (tyC ci k) (.int (Int32.ofInt v)) = .int (Int32.ofInt v) ∧ fits (tyC ci k) (.int (Int32.ofInt v)) = true := by
  rcases cl_nrf h13 hk hr with h | h
  · rw [h]; exact ⟨rfl, rfl⟩
  · obtain ⟨h0, h1⟩ := hb h
    rw [h]; exact nar_bool h0 h1
theorem nar_rf {X : Cx} {ci k : Nat} {v : Option Nat} (h13 : ci < 13) (hk : k < clN ci) (hr : rfF ci k = true) : narrow (tyC ci k) (va_rf (rfX X v)) = va_rf (rfX X v) ∧ fits (tyC ci k) (va_rf (rfX X v)) = true := by
  have h := cl_rf h13 hk hr
  cases v <;> (cases ht : tyC ci k <;> rw [ht] at h <;> first | (exact ⟨rfl, rfl⟩) | (cases h))
theorem st_pfi (hx : p.tables.exec = Jvm.exec) (hb : c.code = cc) (hE : EnvU X s s.heap) (hts : ∀ w ∈ AW, w.before args s = true) (hown : s.vm.findClass own = some m.cls) (hci : (gK G o).1 = ci + 1) (h13 : ci < 13) (hk : k < clN ci) (hlink : (Cond.fieldLink own i ref ((clC ci).2.1 k).2.1 ((clC ci).2.1 k).2.2.1).before args s = true) (hsame : ∀ x, s.fieldFound? ((clC ci).2.1 k).1 ((clC ci).2.1 k).2.1 ((clC ci).2.1 k).2.2.1 = some x → s.fieldFound? ref ((clC ci).2.1 k).2.1 ((clC ci).2.1 k).2.2.1 = some x) (hr : rfF ci k = false) (hfin : ((clC ci).2.1 k).2.2.2 = false ∨ (meth.name = "<init>" ∧ ((clC ci).2.1 k).1 = own)) (hbool : tyC ci k = .boolean → 0 ≤ a ∧ a ≤ 1) (hd : decode cc pc = .ok (.putfield i, 3))
    (k1 : WC X p l e R s m args below meth c Q nL (pc + 3) (L) (st) (G) (up mi o k a) (cells) (slots)) : WC X p l e R s m args below meth c Q nL (pc) (L) (pI a :: pR (some o) :: st) (G) (mi) (cells) (slots) := by
  intro ls H locs hI hL hO hS
  have ho : o < gN G := hI.1.2.2.1 o (by omega)
  have hg := wlX_get (X := X) (mi := mi) ho
  rw [entX_obj hci h13] at hg
  obtain ⟨hv1, hS1⟩ := List.forall_mem_cons.mp hS
  obtain ⟨-, hS2⟩ := List.forall_mem_cons.mp hS1
  have key : ∀ (H1 : Heap) (locs1 : List Loc), va_P (xD X) vwCl ((wlX X G mi).set o (xb X + o, .inr (ci, (fvs X G mi o ci).set k (.int (Int32.ofInt a))))) H1 → va_S (AX X) s.heap H1 locs1 → W p l e R s m args below meth c H1 locs1 cells slots Q (F0 m (pc + 3) ls (st.map (trV X))) := by
    intro H1 locs1 hP1 hS3
    rw [wlX_set (G := G) (mi := mi) (G' := G) (mi' := up mi o k a) rfl (by rw [entX_obj (by exact hci) h13, fvs_up hk hr]) (fun q hq => entX_up hq)] at hP1
    exact k1 ls H1 locs1 ⟨⟨hP1, up_in hI.1.2.1 hv1, hI.1.2.2⟩, hS3⟩ hL hO hS2
  by_cases hf : ((clC ci).2.1 k).2.2.2 = false
  · exact va_put (C := (clC ci).1) (T := (clC ci).2.1) (N := (clC ci).2.2) hx hb hts (cl_in h13) (tyC ci) (cl_ty h13) (cl_nm h13) hown hE.1 hI.1.1 wlX_D hI.2 o hg (cl_get h13) k (by rw [cl_N h13]; exact hk) hlink hsame hf (cl_ty h13 k (by rw [cl_N h13]; exact hk)) (nar_nrf h13 hk hr hbool).1 (nar_nrf h13 hk hr hbool).2 (by rw [fvs_len]; exact hk) hd (fun H1 locs1 h1 _ h3 => key H1 locs1 h1 h3)
  · obtain ⟨g1, g2⟩ := hfin.resolve_left hf
    exact va_putF (C := (clC ci).1) (T := (clC ci).2.1) (N := (clC ci).2.2) hx hb hts (cl_in h13) (tyC ci) (cl_ty h13) (cl_nm h13) hown hE.1 hI.1.1 wlX_D hI.2 o hg (cl_get h13) k (by rw [cl_N h13]; exact hk) hlink hsame (by simpa using hf) g1 g2 (cl_ty h13 k (by rw [cl_N h13]; exact hk)) (nar_nrf h13 hk hr hbool).1 (nar_nrf h13 hk hr hbool).2 (by rw [fvs_len]; exact hk) hd (fun H1 locs1 h1 _ h3 => key H1 locs1 h1 h3)
theorem st_pfr (hx : p.tables.exec = Jvm.exec) (hb : c.code = cc) (hE : EnvU X s s.heap) (hts : ∀ w ∈ AW, w.before args s = true) (hown : s.vm.findClass own = some m.cls) {r : Option Nat} (hci : (gK G o).1 = ci + 1) (h13 : ci < 13) (hk : k < clN ci) (hlink : (Cond.fieldLink own i ref ((clC ci).2.1 k).2.1 ((clC ci).2.1 k).2.2.1).before args s = true) (hsame : ∀ x, s.fieldFound? ((clC ci).2.1 k).1 ((clC ci).2.1 k).2.1 ((clC ci).2.1 k).2.2.1 = some x → s.fieldFound? ref ((clC ci).2.1 k).2.1 ((clC ci).2.1 k).2.2.1 = some x) (hr : rfF ci k = true) (hfin : ((clC ci).2.1 k).2.2.2 = false ∨ (meth.name = "<init>" ∧ ((clC ci).2.1 k).1 = own)) (hd : decode cc pc = .ok (.putfield i, 3))
    (k1 : WC X p l e R s m args below meth c Q nL (pc + 3) (L) (st) (setR G o k r) (mi) (cells) (slots)) : WC X p l e R s m args below meth c Q nL (pc) (L) (pR r :: pR (some o) :: st) (G) (mi) (cells) (slots) := by
  intro ls H locs hI hL hO hS
  have ho : o < gN G := hI.1.2.2.1 o (by omega)
  have hg := wlX_get (X := X) (mi := mi) ho
  rw [entX_obj hci h13] at hg
  obtain ⟨hv1, hS1⟩ := List.forall_mem_cons.mp hS
  obtain ⟨-, hS2⟩ := List.forall_mem_cons.mp hS1
  have key : ∀ (H1 : Heap) (locs1 : List Loc), va_P (xD X) vwCl ((wlX X G mi).set o (xb X + o, .inr (ci, (fvs X G mi o ci).set k (va_rf (rfX X r))))) H1 → va_S (AX X) s.heap H1 locs1 → W p l e R s m args below meth c H1 locs1 cells slots Q (F0 m (pc + 3) ls (st.map (trV X))) := by
    intro H1 locs1 hP1 hS3
    rw [wlX_set (G := G) (mi := mi) (G' := setR G o k r) (mi' := mi) rfl (by rw [entX_obj (by exact hci) h13, fvs_setR hk hr]) (fun q hq => entX_setR hq)] at hP1
    exact k1 ls H1 locs1 ⟨⟨hP1, hI.1.2.1, hI.1.2.2⟩, hS3⟩ hL hO hS2
  by_cases hf : ((clC ci).2.1 k).2.2.2 = false
  · exact va_put (C := (clC ci).1) (T := (clC ci).2.1) (N := (clC ci).2.2) hx hb hts (cl_in h13) (tyC ci) (cl_ty h13) (cl_nm h13) hown hE.1 hI.1.1 wlX_D hI.2 o hg (cl_get h13) k (by rw [cl_N h13]; exact hk) hlink hsame hf (cl_ty h13 k (by rw [cl_N h13]; exact hk)) (nar_rf h13 hk hr).1 (nar_rf h13 hk hr).2 (by rw [fvs_len]; exact hk) hd (fun H1 locs1 h1 _ h3 => key H1 locs1 h1 h3)
  · obtain ⟨g1, g2⟩ := hfin.resolve_left hf
    exact va_putF (C := (clC ci).1) (T := (clC ci).2.1) (N := (clC ci).2.2) hx hb hts (cl_in h13) (tyC ci) (cl_ty h13) (cl_nm h13) hown hE.1 hI.1.1 wlX_D hI.2 o hg (cl_get h13) k (by rw [cl_N h13]; exact hk) hlink hsame (by simpa using hf) g1 g2 (cl_ty h13 k (by rw [cl_N h13]; exact hk)) (nar_rf h13 hk hr).1 (nar_rf h13 hk hr).2 (by rw [fvs_len]; exact hk) hd (fun H1 locs1 h1 _ h3 => key H1 locs1 h1 h3)
theorem entX_i {X : Cx} {G : Gh} {mi : Mi} {o : Nat} (h : (gK G o).1 = 20) : entX X G mi o = .inl (xI X, (gK G o).2, .inl fun j => Int32.ofInt (mi o j)) := by
  unfold entX
  rw [if_neg (by omega), if_pos h]
theorem entX_z {X : Cx} {G : Gh} {mi : Mi} {o : Nat} (h : (gK G o).1 = 21) : entX X G mi o = .inl (xZ X, (gK G o).2, .inl fun j => Int32.ofInt (mi o j)) := by
  unfold entX
  rw [if_neg (by omega), if_neg (by omega), if_pos h]
theorem entX_q {X : Cx} {G : Gh} {mi : Mi} {o : Nat} (h : (gK G o).1 = 22) : entX X G mi o = .inl (xT X, (gK G o).2, .inr (.inr (.inr (.inr fun j => rfX X (gR G o j))))) := by
  unfold entX
  rw [if_neg (by omega), if_neg (by omega), if_neg (by omega)]
theorem up_arr {mi : Mi} {o : Nat} {i v : Int} (h0 : 0 ≤ i) : (fun j : Nat => Int32.ofInt (up mi o i v o j)) = upd (fun j : Nat => Int32.ofInt (mi o j)) i.toNat (Int32.ofInt v) := by
  funext j
  unfold up upd
  by_cases h : j = i.toNat
  · rw [if_pos h, if_pos ⟨rfl, by omega⟩]
  · rw [if_neg h, if_neg (fun z => h (by omega))]
theorem st_iaload (hx : p.tables.exec = Jvm.exec) (hb : c.code = cc) (hE : EnvU X s s.heap) (hts : ∀ w ∈ AW, w.before args s = true) (hown : s.vm.findClass own = some m.cls) (hk0 : (gK G o).1 = 20) (h0 : 0 ≤ a) (h1 : a < (gK G o).2) (hd : decode cc pc = .ok (.iaload, 1))
    (k1 : WC X p l e R s m args below meth c Q nL (pc + 1) (L) (pI (mi o a) :: st) (G) (mi) (cells) (slots)) : WC X p l e R s m args below meth c Q nL (pc) (L) (pI a :: pR (some o) :: st) (G) (mi) (cells) (slots) := by
  intro ls H locs hI hL hO hS
  obtain ⟨hi1, hS1⟩ := List.forall_mem_cons.mp hS
  have hS2 := (List.forall_mem_cons.mp hS1).2
  have ho : o < gN G := hI.1.2.2.1 o (by omega)
  have hg := wlX_get (X := X) (mi := mi) ho
  rw [entX_i hk0] at hg
  refine va_iald hx hb hE.1 hI.1.1 o 0 hg rfl (of_vp hi1 h0 h1) hd ?_
  have kk := k1 ls H locs hI hL hO (List.forall_mem_cons.mpr ⟨hI.1.2.1 o a, hS2⟩)
  rw [List.map_cons] at kk
  rw [of_clamp hi1, Int.toNat_of_nonneg h0]
  exact kk
theorem st_baload (hx : p.tables.exec = Jvm.exec) (hb : c.code = cc) (hE : EnvU X s s.heap) (hts : ∀ w ∈ AW, w.before args s = true) (hown : s.vm.findClass own = some m.cls) (hk0 : (gK G o).1 = 21) (h0 : 0 ≤ a) (h1 : a < (gK G o).2) (hd : decode cc pc = .ok (.baload, 1))
    (k1 : WC X p l e R s m args below meth c Q nL (pc + 1) (L) (pI (mi o a) :: st) (G) (mi) (cells) (slots)) : WC X p l e R s m args below meth c Q nL (pc) (L) (pI a :: pR (some o) :: st) (G) (mi) (cells) (slots) := by
  intro ls H locs hI hL hO hS
  obtain ⟨hi1, hS1⟩ := List.forall_mem_cons.mp hS
  have hS2 := (List.forall_mem_cons.mp hS1).2
  have ho : o < gN G := hI.1.2.2.1 o (by omega)
  have hg := wlX_get (X := X) (mi := mi) ho
  rw [entX_z hk0] at hg
  refine va_zald hx hb hE.1 hI.1.1 o 1 hg rfl (of_vp hi1 h0 h1) hd ?_
  have kk := k1 ls H locs hI hL hO (List.forall_mem_cons.mpr ⟨hI.1.2.1 o a, hS2⟩)
  rw [List.map_cons] at kk
  rw [of_clamp hi1, Int.toNat_of_nonneg h0]
  exact kk
theorem st_aaload (hx : p.tables.exec = Jvm.exec) (hb : c.code = cc) (hE : EnvU X s s.heap) (hts : ∀ w ∈ AW, w.before args s = true) (hown : s.vm.findClass own = some m.cls) (hk0 : (gK G o).1 = 22) (h0 : 0 ≤ a) (h1 : a < (gK G o).2) (hd : decode cc pc = .ok (.aaload, 1))
    (k1 : WC X p l e R s m args below meth c Q nL (pc + 1) (L) (pR (gR G o a) :: st) (G) (mi) (cells) (slots)) : WC X p l e R s m args below meth c Q nL (pc) (L) (pI a :: pR (some o) :: st) (G) (mi) (cells) (slots) := by
  intro ls H locs hI hL hO hS
  obtain ⟨hi1, hS1⟩ := List.forall_mem_cons.mp hS
  have hS2 := (List.forall_mem_cons.mp hS1).2
  have ho : o < gN G := hI.1.2.2.1 o (by omega)
  have hg := wlX_get (X := X) (mi := mi) ho
  rw [entX_q hk0] at hg
  refine va_aldq hx hb hE.1 hI.1.1 o 2 hg rfl (of_vp hi1 h0 h1) hd ?_
  have kk := k1 ls H locs hI hL hO (List.forall_mem_cons.mpr ⟨trivial, hS2⟩)
  rw [List.map_cons] at kk
  rw [of_clamp hi1, Int.toNat_of_nonneg h0]
  exact kk
theorem st_iastore (hx : p.tables.exec = Jvm.exec) (hb : c.code = cc) (hE : EnvU X s s.heap) (hts : ∀ w ∈ AW, w.before args s = true) (hown : s.vm.findClass own = some m.cls) (hk0 : (gK G o).1 = 20) (h0 : 0 ≤ a) (h1 : a < (gK G o).2) (hd : decode cc pc = .ok (.iastore, 1))
    (k1 : WC X p l e R s m args below meth c Q nL (pc + 1) (L) (st) (G) (up mi o a b) (cells) (slots)) : WC X p l e R s m args below meth c Q nL (pc) (L) (pI b :: pI a :: pR (some o) :: st) (G) (mi) (cells) (slots) := by
  intro ls H locs hI hL hO hS
  obtain ⟨hv1, hS0⟩ := List.forall_mem_cons.mp hS
  obtain ⟨hi1, hS1⟩ := List.forall_mem_cons.mp hS0
  have hS2 := (List.forall_mem_cons.mp hS1).2
  have ho : o < gN G := hI.1.2.2.1 o (by omega)
  have hg := wlX_get (X := X) (mi := mi) ho
  rw [entX_i hk0] at hg
  refine va_iast (x := Int32.ofInt b) hx hb hE.1 hI.1.1 wlX_D hI.2 o 0 hg rfl (of_vp hi1 h0 h1) hd (fun H1 locs1 hP1 _ hS3 => ?_)
  rw [wlX_set (G := G) (mi := mi) (G' := G) (mi' := up mi o a b) rfl (by rw [entX_i hk0, up_arr h0, of_clamp hi1]) (fun q hq => entX_up hq)] at hP1
  exact k1 ls H1 locs1 ⟨⟨hP1, up_in hI.1.2.1 hv1, hI.1.2.2⟩, hS3⟩ hL hO hS2
theorem st_bastore (hx : p.tables.exec = Jvm.exec) (hb : c.code = cc) (hE : EnvU X s s.heap) (hts : ∀ w ∈ AW, w.before args s = true) (hown : s.vm.findClass own = some m.cls) (hk0 : (gK G o).1 = 21) (h0 : 0 ≤ a) (h1 : a < (gK G o).2) (h2 : 0 ≤ b) (h3 : b ≤ 1) (hd : decode cc pc = .ok (.bastore, 1))
    (k1 : WC X p l e R s m args below meth c Q nL (pc + 1) (L) (st) (G) (up mi o a b) (cells) (slots)) : WC X p l e R s m args below meth c Q nL (pc) (L) (pI b :: pI a :: pR (some o) :: st) (G) (mi) (cells) (slots) := by
  intro ls H locs hI hL hO hS
  obtain ⟨hv1, hS0⟩ := List.forall_mem_cons.mp hS
  obtain ⟨hi1, hS1⟩ := List.forall_mem_cons.mp hS0
  have hS2 := (List.forall_mem_cons.mp hS1).2
  have ho : o < gN G := hI.1.2.2.1 o (by omega)
  have hg := wlX_get (X := X) (mi := mi) ho
  rw [entX_z hk0] at hg
  refine va_zast (x := Int32.ofInt b) hx hb hE.1 hI.1.1 wlX_D hI.2 o 1 hg rfl (of_vp hi1 h0 h1) hd (fun H1 locs1 hP1 _ hS3 => ?_)
  have hn : vp_nar .boolean (Int32.ofInt b) = Int32.ofInt b := by unfold vp_nar; rw [(nar_bool h2 h3).1]
  rw [wlX_set (G := G) (mi := mi) (G' := G) (mi' := up mi o a b) rfl (by rw [entX_z hk0, up_arr h0, of_clamp hi1, hn]) (fun q hq => entX_up hq)] at hP1
  exact k1 ls H1 locs1 ⟨⟨hP1, up_in hI.1.2.1 hv1, hI.1.2.2⟩, hS3⟩ hL hO hS2
theorem upR_arr {X : Cx} {G : Gh} {o v : Nat} {i : Int} (h0 : 0 ≤ i) : (fun j : Nat => rfX X (gR (setR G o i (some v)) o j)) = va_up (fun j : Nat => rfX X (gR G o j)) i.toNat (some (xb X + v)) := by
  funext j
  show rfX X (upR (gR G) o i (some v) o j) = _
  unfold upR va_up
  by_cases h : j = i.toNat
  · rw [if_pos h, if_pos ⟨rfl, by omega⟩]; rfl
  · rw [if_neg h, if_neg (fun z => h (by omega))]
theorem thg_cls : ∀ ci, ci < 13 → thg (ci + 1) = true → (clC ci).1 = "CoinTelescope$Thing" ∨ ((clC ci).1, "CoinTelescope$Thing") ∈ castL := by decide +kernel
theorem thg_lt {c : Nat} (h : thg c = true) : 1 ≤ c ∧ c ≤ 13 := by
  simp only [thg, Bool.or_eq_true, beq_iff_eq] at h
  omega
theorem st_aastore (hx : p.tables.exec = Jvm.exec) (hb : c.code = cc) (hE : EnvU X s s.heap) (hts : ∀ w ∈ AW, w.before args s = true) (hown : s.vm.findClass own = some m.cls) {v : Nat} (hk0 : (gK G o).1 = 22) (h0 : 0 ≤ a) (h1 : a < (gK G o).2) (hv : thg (gK G v).1 = true) (hd : decode cc pc = .ok (.aastore, 1))
    (k1 : WC X p l e R s m args below meth c Q nL (pc + 1) (L) (st) (setR G o a (some v)) (mi) (cells) (slots)) : WC X p l e R s m args below meth c Q nL (pc) (L) (pR (some v) :: pI a :: pR (some o) :: st) (G) (mi) (cells) (slots) := by
  intro ls H locs hI hL hO hS
  obtain ⟨hv1, hS0⟩ := List.forall_mem_cons.mp hS
  obtain ⟨hi1, hS1⟩ := List.forall_mem_cons.mp hS0
  have hS2 := (List.forall_mem_cons.mp hS1).2
  have ho : o < gN G := hI.1.2.2.1 o (by omega)
  have hg := wlX_get (X := X) (mi := mi) ho
  rw [entX_q hk0] at hg
  obtain ⟨l1, l2⟩ := thg_lt hv
  obtain ⟨cv, hcv⟩ : ∃ cv, (gK G v).1 = cv + 1 := ⟨(gK G v).1 - 1, by omega⟩
  have h13 : cv < 13 := by omega
  have hgv := wlX_get (X := X) (mi := mi) (hI.1.2.2.1 v (by omega))
  rw [entX_obj hcv h13] at hgv
  have key : ∀ (H1 : Heap) (locs1 : List Loc), va_P (xD X) vwCl ((wlX X G mi).set o (xb X + o, .inl (xT X, (gK G o).2, .inr (.inr (.inr (.inr (va_up (fun j : Nat => rfX X (gR G o j)) (Int32.ofInt a).toNatClampNeg (some (xb X + v))))))))) H1 → va_S (AX X) s.heap H1 locs1 → W p l e R s m args below meth c H1 locs1 cells slots Q (F0 m (pc + 1) ls (st.map (trV X))) := by
    intro H1 locs1 hP1 hS3
    rw [wlX_set (G := G) (mi := mi) (G' := setR G o a (some v)) (mi' := mi) rfl (by rw [entX_q (by exact hk0), upR_arr h0, of_clamp hi1]; rfl) (fun q hq => entX_setR hq)] at hP1
    exact k1 ls H1 locs1 ⟨⟨hP1, hI.1.2.1, hI.1.2.2⟩, hS3⟩ hL hO hS2
  rcases thg_cls cv h13 (by rw [← hcv]; exact hv) with h | h
  · exact va_astq (r := clC cv) hx hb hE.1 hI.1.1 wlX_D hI.2 o 2 v cv hg (by rw [h]; rfl) hgv (cl_get h13) (of_vp hi1 h0 h1) hd (fun H1 locs1 hP1 _ hS3 => key H1 locs1 hP1 hS3)
  · exact va_astqO (r := clC cv) hx hb hE.1 hI.1.1 wlX_D hI.2 o 2 v cv hg rfl (hE.2.2.2.2.2.2.2.1 _ h) hgv (cl_get h13) (of_vp hi1 h0 h1) hd (fun H1 locs1 hP1 _ hS3 => key H1 locs1 hP1 hS3)
theorem of_nat (n : Nat) : Int32.ofNat n = Int32.ofInt (n : Int) := rfl
theorem st_alen (hx : p.tables.exec = Jvm.exec) (hb : c.code = cc) (hE : EnvU X s s.heap) (hts : ∀ w ∈ AW, w.before args s = true) (hown : s.vm.findClass own = some m.cls) (hk0 : 20 ≤ (gK G o).1) (hd : decode cc pc = .ok (.arraylength, 1))
    (k1 : WC X p l e R s m args below meth c Q nL (pc + 1) (L) (pI (gK G o).2 :: st) (G) (mi) (cells) (slots)) : WC X p l e R s m args below meth c Q nL (pc) (L) (pR (some o) :: st) (G) (mi) (cells) (slots) := by
  intro ls H locs hI hL hO hS
  have hS2 := (List.forall_mem_cons.mp hS).2
  have ho : o < gN G := hI.1.2.2.1 o (by omega)
  have hg := wlX_get (X := X) (mi := mi) ho
  have hlen : in32 ((gK G o).2 : Int) := by have := hI.1.2.2.2.2.1 o; unfold in32; omega
  have kk := k1 ls H locs hI hL hO (List.forall_mem_cons.mpr ⟨hlen, hS2⟩)
  have h22 : (gK G o).1 ≤ 22 := by rcases hI.1.2.2.2.1 o with h | h <;> omega
  by_cases e1 : (gK G o).1 = 20
  · rw [entX_i e1] at hg
    exact va_alen hx hb hE.1 hI.1.1 o 0 hg rfl (of_nat _) hd kk
  · by_cases e2 : (gK G o).1 = 21
    · rw [entX_z e2] at hg
      exact va_alen hx hb hE.1 hI.1.1 o 1 hg rfl (of_nat _) hd kk
    · rw [entX_q (by omega)] at hg
      exact va_alen hx hb hE.1 hI.1.1 o 2 hg rfl (of_nat _) hd kk
theorem st_alenS (hx : p.tables.exec = Jvm.exec) (hb : c.code = cc) (hE : EnvU X s s.heap) (hts : ∀ w ∈ AW, w.before args s = true) (hown : s.vm.findClass own = some m.cls)  (hd : decode cc pc = .ok (.arraylength, 1))
    (k1 : WC X p l e R s m args below meth c Q nL (pc + 1) (L) (pI (gL G) :: st) (G) (mi) (cells) (slots)) : WC X p l e R s m args below meth c Q nL (pc) (L) (pE 0 :: st) (G) (mi) (cells) (slots) := by
  intro ls H locs hI hL hO hS
  have hS2 := (List.forall_mem_cons.mp hS).2
  have hl : gL G = (xs X).2.1 := hI.1.2.2.2.2.2.1
  have hlen : in32 ((gL G) : Int) := by have := hE.2.1.2.2; unfold in32; omega
  have kk := k1 ls H locs hI hL hO (List.forall_mem_cons.mpr ⟨hlen, hS2⟩)
  rw [hl] at kk
  have hlt : (xs X).1 < s.heap.size := (Array.getElem?_eq_some_iff.mp hE.2.1.1.choose_spec.1).1
  exact va_slen (A := AX X) hx hb hE.2.1.1 hlt (Nat.not_le.mpr hE.2.1.2.1) hI.2 hd kk
theorem st_ialdS (hx : p.tables.exec = Jvm.exec) (hb : c.code = cc) (hE : EnvU X s s.heap) (hts : ∀ w ∈ AW, w.before args s = true) (hown : s.vm.findClass own = some m.cls) (h0 : 0 ≤ a) (h1 : a < gL G) (hd : decode cc pc = .ok (.iaload, 1))
    (k1 : WC X p l e R s m args below meth c Q nL (pc + 1) (L) (pI (gX G a) :: st) (G) (mi) (cells) (slots)) : WC X p l e R s m args below meth c Q nL (pc) (L) (pI a :: pE 0 :: st) (G) (mi) (cells) (slots) := by
  intro ls H locs hI hL hO hS
  obtain ⟨hi1, hS1⟩ := List.forall_mem_cons.mp hS
  have hS2 := (List.forall_mem_cons.mp hS1).2
  have hl : gL G = (xs X).2.1 := hI.1.2.2.2.2.2.1
  have hv : gX G a = ((xs X).2.2 a.toNat).toInt := hI.1.2.2.2.2.2.2 a h0 h1
  have kk := k1 ls H locs hI hL hO (List.forall_mem_cons.mpr ⟨show in32 (gX G a) by rw [hv]; exact to_in _, hS2⟩)
  rw [List.map_cons, hv, show trV X (pI ((xs X).2.2 a.toNat).toInt) = .int ((xs X).2.2 a.toNat) from congrArg Value.int (Int32.ofInt_toInt _)] at kk
  have hlt : (xs X).1 < s.heap.size := (Array.getElem?_eq_some_iff.mp hE.2.1.1.choose_spec.1).1
  refine va_sld (A := AX X) hx hb hE.2.1.1 hlt (Nat.not_le.mpr hE.2.1.2.1) hI.2 (of_vp hi1 h0 (by rw [← hl]; exact h1)) hd ?_
  rw [of_clamp hi1]
  exact kk
theorem sb_len {q : Nat} (h : q < sTexts.length) : sLens.getD q 0 = (sBytes q).length := by
  unfold sLens sBytes
  rw [List.getD_eq_getElem?_getD, List.getElem?_map, List.getD_eq_getElem?_getD, List.getElem?_eq_getElem h]
  rfl
theorem sb_byt {q j : Nat} (h : q < sTexts.length) (hj : j < (sBytes q).length) : (sByts.getD q []).getD j 0 = Int32.ofInt ((sBytes q).getD j 0) := by
  unfold sByts
  unfold sBytes at hj ⊢
  rw [List.getD_eq_getElem?_getD (l := sTexts)] at hj ⊢
  rw [List.getElem?_eq_getElem h] at hj ⊢
  rw [List.getD_eq_getElem?_getD (l := List.map _ _), List.getElem?_map, List.getElem?_eq_getElem h]
  simp only [Option.map_some, Option.getD_some] at hj ⊢
  rw [List.getD_eq_getElem?_getD, List.getElem?_map, List.getElem?_eq_getElem hj, List.getD_eq_getElem?_getD, List.getElem?_eq_getElem hj]
  rfl
theorem sb_in : ∀ q, q < sTexts.length → (sBytes q).length < 100 ∧ ∀ v ∈ sBytes q, 0 ≤ v ∧ v < 128 := by decide +kernel
theorem evX_b {X : Cx} {q : Nat} (h : q < sTexts.length) : trV X (pE (2 * q + 2)) = .ref (xV X q) := by
  show evX X (2 * q + 2) = _
  unfold evX
  rw [if_neg (by omega), if_neg (by omega), if_pos (by omega), show (2 * q + 2) / 2 - 1 = q by omega]
theorem evX_s {X : Cx} {q : Nat} (h : q < sTexts.length) : trV X (pE (2 * q + 1)) = .ref (xK X q) := by
  show evX X (2 * q + 1) = _
  unfold evX
  rw [if_neg (by omega), if_pos (by omega), show (2 * q + 1) / 2 = q by omega]
theorem st_alenB (hx : p.tables.exec = Jvm.exec) (hb : c.code = cc) (hE : EnvU X s s.heap) (hts : ∀ w ∈ AW, w.before args s = true) (hown : s.vm.findClass own = some m.cls) {q : Nat} (hq : q < sTexts.length) (hd : decode cc pc = .ok (.arraylength, 1))
    (k1 : WC X p l e R s m args below meth c Q nL (pc + 1) (L) (pI (sBytes q).length :: st) (G) (mi) (cells) (slots)) : WC X p l e R s m args below meth c Q nL (pc) (L) (pE (2 * q + 2) :: st) (G) (mi) (cells) (slots) := by
  intro ls H locs hI hL hO hS
  have hS2 := (List.forall_mem_cons.mp hS).2
  have hlen : in32 ((sBytes q).length : Int) := by have := (sb_in q hq).1; unfold in32; omega
  have kk := k1 ls H locs hI hL hO (List.forall_mem_cons.mpr ⟨hlen, hS2⟩)
  rw [List.map_cons, evX_b hq]
  exact va_tlen hx hb (hE.2.2.1.1 q hq).2.2.2 hI.2 (by rw [sb_len hq]; rfl) hd kk
theorem st_baldB (hx : p.tables.exec = Jvm.exec) (hb : c.code = cc) (hE : EnvU X s s.heap) (hts : ∀ w ∈ AW, w.before args s = true) (hown : s.vm.findClass own = some m.cls) {q : Nat} (hq : q < sTexts.length) (h0 : 0 ≤ a) (h1 : a < (sBytes q).length) (hd : decode cc pc = .ok (.baload, 1))
    (k1 : WC X p l e R s m args below meth c Q nL (pc + 1) (L) (pI ((sBytes q).getD a.toNat 0) :: st) (G) (mi) (cells) (slots)) : WC X p l e R s m args below meth c Q nL (pc) (L) (pI a :: pE (2 * q + 2) :: st) (G) (mi) (cells) (slots) := by
  intro ls H locs hI hL hO hS
  obtain ⟨hi1, hS1⟩ := List.forall_mem_cons.mp hS
  have hS2 := (List.forall_mem_cons.mp hS1).2
  have hj : a.toNat < (sBytes q).length := by omega
  have hm : (sBytes q).getD a.toNat 0 ∈ sBytes q := by rw [List.getD_eq_getElem?_getD, List.getElem?_eq_getElem hj]; exact List.getElem_mem hj
  have hv := (sb_in q hq).2 _ hm
  have kk := k1 ls H locs hI hL hO (List.forall_mem_cons.mpr ⟨show in32 _ by unfold in32; omega, hS2⟩)
  rw [List.map_cons, List.map_cons, evX_b hq]
  refine va_tb hx hb (hE.2.2.1.1 q hq).2.2.2 hI.2 (of_vp hi1 h0 (by rw [sb_len hq]; exact h1)) (v := .int (Int32.ofInt ((sBytes q).getD a.toNat 0))) ?_ hd kk
  rw [of_clamp hi1, sb_byt hq hj]
theorem st_gfS (hx : p.tables.exec = Jvm.exec) (hb : c.code = cc) (hE : EnvU X s s.heap) (hts : ∀ w ∈ AW, w.before args s = true) (hown : s.vm.findClass own = some m.cls) {q : Nat} (hq : q < sTexts.length) (hlink : (Cond.fieldLink own i "java/lang/String" "value" "[B").before args s = true) (hd : decode cc pc = .ok (.getfield i, 3))
    (k1 : WC X p l e R s m args below meth c Q nL (pc + 3) (L) (pE (2 * q + 2) :: st) (G) (mi) (cells) (slots)) : WC X p l e R s m args below meth c Q nL (pc) (L) (pE (2 * q + 1) :: st) (G) (mi) (cells) (slots) := by
  intro ls H locs hI hL hO hS
  have hS2 := (List.forall_mem_cons.mp hS).2
  have kk := k1 ls H locs hI hL hO (List.forall_mem_cons.mpr ⟨trivial, hS2⟩)
  rw [List.map_cons, evX_b hq] at kk
  rw [List.map_cons, evX_s hq]
  exact vk_getf hx hb (hE.2.2.1.1 q hq).2.2.1 hI.2 hown hlink (fun _ h => h) hd kk
theorem st_gfC (hx : p.tables.exec = Jvm.exec) (hb : c.code = cc) (hE : EnvU X s s.heap) (hts : ∀ w ∈ AW, w.before args s = true) (hown : s.vm.findClass own = some m.cls) {q : Nat} (hq : q < sTexts.length) (hlink : (Cond.fieldLink own i "java/lang/String" "coder" "B").before args s = true) (hd : decode cc pc = .ok (.getfield i, 3))
    (k1 : WC X p l e R s m args below meth c Q nL (pc + 3) (L) (pI 0 :: st) (G) (mi) (cells) (slots)) : WC X p l e R s m args below meth c Q nL (pc) (L) (pE (2 * q + 1) :: st) (G) (mi) (cells) (slots) := by
  intro ls H locs hI hL hO hS
  have hS2 := (List.forall_mem_cons.mp hS).2
  have kk := k1 ls H locs hI hL hO (List.forall_mem_cons.mpr ⟨in_0, hS2⟩)
  rw [List.map_cons, evX_s hq]
  exact vk_getf hx hb (hE.2.2.1.1 q hq).2.1 hI.2 hown hlink (fun _ h => h) hd kk
theorem st_gs0 (hx : p.tables.exec = Jvm.exec) (hb : c.code = cc) (hE : EnvU X s s.heap) (hts : ∀ w ∈ AW, w.before args s = true) (hown : s.vm.findClass own = some m.cls) (hlink : (Cond.fieldLink own i "java/lang/String" "COMPACT_STRINGS" "Z").before args s = true) (hd : decode cc pc = .ok (.getstatic i, 3))
    (k1 : WC X p l e R s m args below meth c Q nL (pc + 3) (L) (pI 1 :: st) (G) (mi) (cells) (slots)) : WC X p l e R s m args below meth c Q nL (pc) (L) (st) (G) (mi) (cells) (slots) := by
  intro ls H locs hI hL hO hS
  exact va_gets hx hb hE.2.2.2.2.1 hI.2 hown hlink (fun _ h => h) hd (k1 ls H locs hI hL hO (List.forall_mem_cons.mpr ⟨⟨by decide, by decide⟩, hS⟩))
theorem st_gs1 (hx : p.tables.exec = Jvm.exec) (hb : c.code = cc) (hE : EnvU X s s.heap) (hts : ∀ w ∈ AW, w.before args s = true) (hown : s.vm.findClass own = some m.cls) (hlink : (Cond.fieldLink own i "jdk/internal/util/Preconditions" "SIOOBE_FORMATTER" "Ljava/util/function/BiFunction;").before args s = true) (hd : decode cc pc = .ok (.getstatic i, 3))
    (k1 : WC X p l e R s m args below meth c Q nL (pc + 3) (L) (pE 1000 :: st) (G) (mi) (cells) (slots)) : WC X p l e R s m args below meth c Q nL (pc) (L) (st) (G) (mi) (cells) (slots) := by
  intro ls H locs hI hL hO hS
  have kk := k1 ls H locs hI hL hO (List.forall_mem_cons.mpr ⟨trivial, hS⟩)
  have e1 : trV X (pE 1000) = xF X := by
    show evX X 1000 = _
    unfold evX
    rw [if_neg (by decide), if_neg (by decide), if_neg (by decide)]
  rw [List.map_cons, e1] at kk
  exact va_gets hx hb hE.2.2.2.2.2.1.1 hI.2 hown hlink (fun _ h => h) hd kk
theorem W_size {H : Heap} {locs : List Loc} {g : JFrame} (h : H.size ≤ s.heap.size + cells → W p l e R s m args below meth c H locs cells slots Q g) : W p l e R s m args below meth c H locs cells slots Q g := by
  intro T hT XX
  have h1 : (T.setVm s.vm).heap.size ≤ s.heap.size + cells := XX.same.2.2.1
  exact h (by rw [← hT]; exact h1) T hT XX
theorem size_ge {H : Heap} {locs : List Loc} (hI : Inv X G mi s H locs) (hb : xb X ≤ s.heap.size) : xb X + gN G ≤ H.size := by
  by_cases h : gN G = 0
  · have := hI.2.1
    omega
  · have hg := wlX_get (X := X) (G := G) (mi := mi) (o := gN G - 1) (by omega)
    have := (hI.1.1 _ _ hg).lt
    have e1 : xb X + (gN G - 1) < H.size := this
    omega
theorem wlX_new {kd : Nat × Nat} {sl : Nat} {en : va_E} (he : entX X (newG G kd sl) (newM G mi) (gN G) = en) : wlX X G mi ++ [(xb X + gN G, en)] = wlX X (newG G kd sl) (newM G mi) := by
  have h1 : gN (newG G kd sl) = gN G + 1 := rfl
  subst he
  unfold wlX
  rw [h1, List.range_succ, List.map_append]
  congr 1
  apply List.map_congr_left
  intro o ho
  have hlt := List.mem_range.mp ho
  have hne : ¬ o = gN G := by omega
  have e1 : gK (newG G kd sl) o = gK G o := by show (if o = gN G then kd else gK G o) = _; rw [if_neg hne]
  have e2 : ∀ j, gR (newG G kd sl) o j = gR G o j := fun j => by show (if o = gN G then none else gR G o j) = _; rw [if_neg hne]
  have e3 : newM G mi o = mi o := by funext j; show (if o = gN G then 0 else mi o j) = _; rw [if_neg hne]
  unfold entX fvs
  rw [e1, e3]
  simp only [e2]
theorem newM_in (h : ∀ a j, in32 (mi a j)) : ∀ a j, in32 (newM G mi a j) := by
  intro a j
  unfold newM
  split
  · exact in_0
  · exact h a j
theorem newG_ok {kd : Nat × Nat} {sl : Nat} (h : gOK X G) (h1 : kd.1 ≤ 13 ∨ 20 ≤ kd.1 ∧ kd.1 ≤ 22) (h2 : kd.2 < 100000) : gOK X (newG G kd sl) := by
  obtain ⟨g1, g2, g3, g4, g5⟩ := h
  refine ⟨fun o ho => ?_, fun o => ?_, fun o => ?_, g4, g5⟩
  · show o < gN G + 1
    by_cases e1 : o = gN G
    · omega
    · have e2 : gK (newG G kd sl) o = gK G o := by show (if o = gN G then kd else gK G o) = _; rw [if_neg e1]
      rw [e2] at ho
      have := g1 o ho
      omega
  · show ((if o = gN G then kd else gK G o).1 ≤ 13 ∨ _)
    show ((if o = gN G then kd else gK G o).1 ≤ 13 ∨ 20 ≤ (if o = gN G then kd else gK G o).1 ∧ (if o = gN G then kd else gK G o).1 ≤ 22)
    split
    · exact h1
    · exact g2 o
  · show (if o = gN G then kd else gK G o).2 < 100000
    split
    · exact h2
    · exact g3 o
theorem st_new (hx : p.tables.exec = Jvm.exec) (hb : c.code = cc) (hE : EnvU X s s.heap) (hts : ∀ w ∈ AW, w.before args s = true) (hown : s.vm.findClass own = some m.cls) (hxb : xb X ≤ s.heap.size) (hcs : s.heap.size + cells = xb X + gN G) (h13 : ci < 13) (hcl : (Cond.classLink own i (clC ci).1).before args s = true) (hinst : (Cond.instantiable (clC ci).1 (clC ci).2.2).before args s = true) (hini : (Cond.initialized (clC ci).1).before args s = true) (hcells : cells + 1 ≤ R.cells) (hslots : slots + clN ci ≤ R.slots) (hd : decode cc pc = .ok (.new i, 3))
    (k1 : WC X p l e R s m args below meth c Q nL (pc + 3) (L) (pR (some (gN G)) :: st) (newG G (ci + 1, 0) (clN ci)) (newM G mi) (cells + 1) (slots + clN ci)) : WC X p l e R s m args below meth c Q nL (pc) (L) (st) (G) (mi) (cells) (slots) := by
  intro ls H locs hI hL hO hS
  refine W_size fun hz => ?_
  have hsz : H.size = xb X + gN G := by have := size_ge hI hxb; omega
  have hKn := hE.1.1 ci _ (cl_get h13)
  refine W.newcK hx hb hown hcl hinst hini rfl hd hcells (by rw [cl_N h13]; exact hslots) hKn.2.1 hsz fun H1 kC hkC e1 z1 o1 => ?_
  have hborn := u_born (tyC ci) hts (cl_in h13) hKn hkC e1 (cl_ty h13)
  have hen : entX X (newG G (ci + 1, 0) (clN ci)) (newM G mi) (gN G) = .inr (ci, fvs X (newG G (ci + 1, 0) (clN ci)) (newM G mi) (gN G) ci) := entX_obj (by show (if gN G = gN G then (ci + 1, 0) else _).1 = _; rw [if_pos rfl]) h13
  have hP1 : va_P (xD X) vwCl (wlX X (newG G (ci + 1, 0) (clN ci)) (newM G mi)) H1 := by
    rw [← wlX_new hen]
    refine (hI.1.1.kept (fun k x hx => o1 x.1 (by rw [← hsz]; exact (hI.1.1 k x hx).lt))).app (fun k x hx => ?_)
    have hz : k < 1 := (List.getElem?_eq_some_iff.mp hx).1
    rw [show k = 0 by omega] at hx
    cases hx
    refine ⟨_, cl_get h13, hborn.to (fun j hj => ?_)⟩
    rw [cl_N h13] at hj
    have hv := fvs_get (X := X) (G := newG G (ci + 1, 0) (clN ci)) (mi := newM G mi) (o := gN G) hj
    show _ = (fvs X _ _ _ ci).getD j .null
    rw [List.getD_eq_getElem?_getD, hv]
    have e2 : gR (newG G (ci + 1, 0) (clN ci)) (gN G) j = none := by show (if gN G = gN G then none else _) = _; rw [if_pos rfl]
    have e3 : newM G mi (gN G) j = 0 := by show (if gN G = gN G then 0 else _) = _; rw [if_pos rfl]
    by_cases hr : rfF ci j = true
    · have h4 := cl_rf h13 hj hr
      rw [if_pos hr, e2]
      show defaultValue (tyC ci j) = Value.null
      cases ht : tyC ci j <;> rw [ht] at h4 <;> first | rfl | (cases h4)
    · have hr' : rfF ci j = false := by simpa using hr
      rw [if_neg hr, e3]
      show defaultValue (tyC ci j) = Value.int (Int32.ofInt 0)
      rcases cl_nrf h13 hj hr' with h | h <;> rw [h] <;> rfl
  have hS3 : va_S (AX X) s.heap H1 locs := ⟨Nat.le_trans hI.2.1 (by omega), fun q g1 g2 => (o1 q (by rw [← hsz]; exact Nat.lt_of_lt_of_le g1 hI.2.1)).trans (hI.2.2.1 q g1 g2), hI.2.2.2⟩
  have kk := k1 ls H1 locs ⟨⟨hP1, newM_in hI.1.2.1, newG_ok hI.1.2.2 (Or.inl (by show ci + 1 ≤ 13; omega)) (by show 0 < 100000; decide)⟩, hS3⟩ hL hO (List.forall_mem_cons.mpr ⟨trivial, hS⟩)
  rw [cl_N h13]
  exact kk
theorem st_newai (hx : p.tables.exec = Jvm.exec) (hb : c.code = cc) (hE : EnvU X s s.heap) (hts : ∀ w ∈ AW, w.before args s = true) (hown : s.vm.findClass own = some m.cls) (hxb : xb X ≤ s.heap.size) (hcs : s.heap.size + cells = xb X + gN G) (harr : (Cond.arrayClass (newarray.typeOf .int)).before args s = true) (h0 : 0 ≤ a) (h1 : a < 100000) (hcells : cells + 1 ≤ R.cells) (hslots : slots + a.toNat ≤ R.slots) (hd : decode cc pc = .ok (.newarray .int, 2))
    (k1 : WC X p l e R s m args below meth c Q nL (pc + 2) (L) (pR (some (gN G)) :: st) (newG G (20, a.toNat) a.toNat) (newM G mi) (cells + 1) (slots + a.toNat)) : WC X p l e R s m args below meth c Q nL (pc) (L) (pI a :: st) (G) (mi) (cells) (slots) := by
  intro ls H locs hI hL hO hS
  obtain ⟨hi1, hS2⟩ := List.forall_mem_cons.mp hS
  refine W_size fun hz => ?_
  have hsz : H.size = xb X + gN G := by have := size_ge hI hxb; omega
  refine va_newaK (atype := .int) hx hb harr rfl hd rfl (fun q => by have := (of_lt hi1 in_0).mp q; omega) (of_clamp hi1) (Nat.le_trans (Nat.mul_le_mul (by omega : a.toNat ≤ 100000) (Nat.le_of_ble_eq_true rfl : componentBytes (newarray.typeOf .int) ≤ 8)) (Nat.le_of_ble_eq_true rfl)) hcells hslots hsz fun H1 cA e1 z1 o1 hAr hNm => ?_
  have hA : cA = xI X := Option.some.inj (hNm.symm.trans (hE.1.2 0 _ rfl).2)
  subst hA
  have hen : entX X (newG G (20, a.toNat) a.toNat) (newM G mi) (gN G) = .inl (xI X, a.toNat, .inl fun _ => 0) := by
    have e0 : gK (newG G (20, a.toNat) a.toNat) (gN G) = (20, a.toNat) := by show (if gN G = gN G then _ else _) = _; rw [if_pos rfl]
    rw [entX_i (by rw [e0])]
    rw [e0]
    have e3 : ∀ j, newM G mi (gN G) j = 0 := fun j => by show (if gN G = gN G then 0 else _) = _; rw [if_pos rfl]
    simp only [e3]
    rfl
  have hP1 : va_P (xD X) vwCl (wlX X (newG G (20, a.toNat) a.toNat) (newM G mi)) H1 := by
    rw [← wlX_new hen]
    refine (hI.1.1.kept (fun k x hx => o1 x.1 (by rw [← hsz]; exact (hI.1.1 k x hx).lt))).app (fun k x hx => ?_)
    have hz : k < 1 := (List.getElem?_eq_some_iff.mp hx).1
    rw [show k = 0 by omega] at hx
    cases hx
    exact e1
  have hS3 : va_S (AX X) s.heap H1 locs := ⟨Nat.le_trans hI.2.1 (by omega), fun q g1 g2 => (o1 q (by rw [← hsz]; exact Nat.lt_of_lt_of_le g1 hI.2.1)).trans (hI.2.2.1 q g1 g2), hI.2.2.2⟩
  exact k1 ls H1 locs ⟨⟨hP1, newM_in hI.1.2.1, newG_ok hI.1.2.2 (Or.inr ⟨Nat.le_of_ble_eq_true rfl, Nat.le_of_ble_eq_true rfl⟩) (by show a.toNat < 100000; omega)⟩, hS3⟩ hL hO (List.forall_mem_cons.mpr ⟨trivial, hS2⟩)
theorem st_newaz (hx : p.tables.exec = Jvm.exec) (hb : c.code = cc) (hE : EnvU X s s.heap) (hts : ∀ w ∈ AW, w.before args s = true) (hown : s.vm.findClass own = some m.cls) (hxb : xb X ≤ s.heap.size) (hcs : s.heap.size + cells = xb X + gN G) (harr : (Cond.arrayClass (newarray.typeOf .boolean)).before args s = true) (h0 : 0 ≤ a) (h1 : a < 100000) (hcells : cells + 1 ≤ R.cells) (hslots : slots + a.toNat ≤ R.slots) (hd : decode cc pc = .ok (.newarray .boolean, 2))
    (k1 : WC X p l e R s m args below meth c Q nL (pc + 2) (L) (pR (some (gN G)) :: st) (newG G (21, a.toNat) a.toNat) (newM G mi) (cells + 1) (slots + a.toNat)) : WC X p l e R s m args below meth c Q nL (pc) (L) (pI a :: st) (G) (mi) (cells) (slots) := by
  intro ls H locs hI hL hO hS
  obtain ⟨hi1, hS2⟩ := List.forall_mem_cons.mp hS
  refine W_size fun hz => ?_
  have hsz : H.size = xb X + gN G := by have := size_ge hI hxb; omega
  refine va_newaK (atype := .boolean) hx hb harr rfl hd rfl (fun q => by have := (of_lt hi1 in_0).mp q; omega) (of_clamp hi1) (Nat.le_trans (Nat.mul_le_mul (by omega : a.toNat ≤ 100000) (Nat.le_of_ble_eq_true rfl : componentBytes (newarray.typeOf .boolean) ≤ 8)) (Nat.le_of_ble_eq_true rfl)) hcells hslots hsz fun H1 cA e1 z1 o1 hAr hNm => ?_
  have hA : cA = xZ X := Option.some.inj (hNm.symm.trans (hE.1.2 1 _ rfl).2)
  subst hA
  have hen : entX X (newG G (21, a.toNat) a.toNat) (newM G mi) (gN G) = .inl (xZ X, a.toNat, .inl fun _ => 0) := by
    have e0 : gK (newG G (21, a.toNat) a.toNat) (gN G) = (21, a.toNat) := by show (if gN G = gN G then _ else _) = _; rw [if_pos rfl]
    rw [entX_z (by rw [e0])]
    rw [e0]
    have e3 : ∀ j, newM G mi (gN G) j = 0 := fun j => by show (if gN G = gN G then 0 else _) = _; rw [if_pos rfl]
    simp only [e3]
    rfl
  have hP1 : va_P (xD X) vwCl (wlX X (newG G (21, a.toNat) a.toNat) (newM G mi)) H1 := by
    rw [← wlX_new hen]
    refine (hI.1.1.kept (fun k x hx => o1 x.1 (by rw [← hsz]; exact (hI.1.1 k x hx).lt))).app (fun k x hx => ?_)
    have hz : k < 1 := (List.getElem?_eq_some_iff.mp hx).1
    rw [show k = 0 by omega] at hx
    cases hx
    exact e1
  have hS3 : va_S (AX X) s.heap H1 locs := ⟨Nat.le_trans hI.2.1 (by omega), fun q g1 g2 => (o1 q (by rw [← hsz]; exact Nat.lt_of_lt_of_le g1 hI.2.1)).trans (hI.2.2.1 q g1 g2), hI.2.2.2⟩
  exact k1 ls H1 locs ⟨⟨hP1, newM_in hI.1.2.1, newG_ok hI.1.2.2 (Or.inr ⟨Nat.le_of_ble_eq_true rfl, Nat.le_of_ble_eq_true rfl⟩) (by show a.toNat < 100000; omega)⟩, hS3⟩ hL hO (List.forall_mem_cons.mpr ⟨trivial, hS2⟩)
theorem st_anewa (hx : p.tables.exec = Jvm.exec) (hb : c.code = cc) (hE : EnvU X s s.heap) (hts : ∀ w ∈ AW, w.before args s = true) (hown : s.vm.findClass own = some m.cls) (hxb : xb X ≤ s.heap.size) (hcs : s.heap.size + cells = xb X + gN G) (hclink : (Cond.classLink own i "CoinTelescope$Thing").before args s = true) (h0 : 0 ≤ a) (h1 : a < 100000) (hcells : cells + 1 ≤ R.cells) (hslots : slots + a.toNat ≤ R.slots) (hd : decode cc pc = .ok (.anewarray i, 3))
    (k1 : WC X p l e R s m args below meth c Q nL (pc + 3) (L) (pR (some (gN G)) :: st) (newG G (22, a.toNat) a.toNat) (newM G mi) (cells + 1) (slots + a.toNat)) : WC X p l e R s m args below meth c Q nL (pc) (L) (pI a :: st) (G) (mi) (cells) (slots) := by
  intro ls H locs hI hL hO hS
  obtain ⟨hi1, hS2⟩ := List.forall_mem_cons.mp hS
  refine W_size fun hz => ?_
  have hsz : H.size = xb X + gN G := by have := size_ge hI hxb; omega
  have hen : entX X (newG G (22, a.toNat) a.toNat) (newM G mi) (gN G) = .inl (xT X, a.toNat, .inr (.inr (.inr (.inr fun _ => none)))) := by
    have e0 : gK (newG G (22, a.toNat) a.toNat) (gN G) = (22, a.toNat) := by show (if gN G = gN G then _ else _) = _; rw [if_pos rfl]
    have e2 : ∀ j, gR (newG G (22, a.toNat) a.toNat) (gN G) j = none := fun j => by show (if gN G = gN G then none else _) = _; rw [if_pos rfl]
    rw [entX_q (by rw [e0])]
    rw [e0]
    simp only [e2]
    rfl
  have hclamp : (Int32.ofInt a).toNatClampNeg = a.toNat := of_clamp hi1
  refine W.anew hx hb hown hclink (va_AO.use hE.2.2.2.2.2.2.2.2.2) rfl hd rfl (fun q => by have := (of_lt hi1 in_0).mp q; omega) (by rw [hclamp]; omega) hcells (by rw [hclamp]; exact hslots) fun cA kA comp f1 f2 f3 f4 => ?_
  obtain ⟨kA', comp', q1, q2, q3, q4⟩ := (hE.1.2 2 _ rfl).2
  have hA : cA = xT X := by
    first
      | exact Option.some.inj (f1.symm.trans q4)
      | exact Option.some.inj (f4.symm.trans q4)
  subst hA
  generalize hH1 : H.push ({ cls := xT X, slots := Array.replicate (Int32.ofInt a).toNatClampNeg .null, vm := .none } : Cell) = H1
  have z1 : H1.size = H.size + 1 := by rw [← hH1, Array.size_push]
  have e1 : H1[xb X + gN G]? = some (arrV (xT X) a.toNat (fun _ => .null)) := by rw [← hH1, ← hsz, Array.getElem?_push_size, ← arrV_new, hclamp]
  have o1 : ∀ q : Nat, q < H.size → H1[q]? = H[q]? := fun q hq => by rw [← hH1, Array.getElem?_push, if_neg (Nat.ne_of_lt hq)]
  have hP1 : va_P (xD X) vwCl (wlX X (newG G (22, a.toNat) a.toNat) (newM G mi)) H1 := by
    rw [← wlX_new hen]
    refine (hI.1.1.kept (fun k x hx => o1 x.1 ((hI.1.1 k x hx).lt))).app (fun k x hx => ?_)
    have hz : k < 1 := (List.getElem?_eq_some_iff.mp hx).1
    rw [show k = 0 by omega] at hx
    cases hx
    exact e1
  have hS3 : va_S (AX X) s.heap H1 locs := ⟨Nat.le_trans hI.2.1 (by omega), fun q g1 g2 => (o1 q (Nat.lt_of_lt_of_le g1 hI.2.1)).trans (hI.2.2.1 q g1 g2), hI.2.2.2⟩
  have kk := k1 ls H1 locs ⟨⟨hP1, newM_in hI.1.2.1, newG_ok hI.1.2.2 (Or.inr ⟨Nat.le_of_ble_eq_true rfl, Nat.le_of_ble_eq_true rfl⟩) (by show a.toNat < 100000; omega)⟩, hS3⟩ hL hO (List.forall_mem_cons.mpr ⟨trivial, hS2⟩)
  rw [List.map_cons, show trV X (pR (some (gN G))) = .ref (xb X + gN G) from rfl, ← hsz] at kk
  rw [← hclamp] at kk
  exact kk
theorem st_inst (hx : p.tables.exec = Jvm.exec) (hb : c.code = cc) (hE : EnvU X s s.heap) (hts : ∀ w ∈ AW, w.before args s = true) (hown : s.vm.findClass own = some m.cls) {nm : String} {v : Int} (hci : (gK G o).1 = ci + 1) (h13 : ci < 13) (hlink : (Cond.classLink own i nm).before args s = true) (hv : (v = 1 ∧ ((clC ci).1 = nm ∨ ((clC ci).1, nm) ∈ castL)) ∨ (v = 0 ∧ ((clC ci).1, nm) ∈ ncastL)) (hd : decode cc pc = .ok (.instanceof i, 3))
    (k1 : WC X p l e R s m args below meth c Q nL (pc + 3) (L) (pI v :: st) (G) (mi) (cells) (slots)) : WC X p l e R s m args below meth c Q nL (pc) (L) (pR (some o) :: st) (G) (mi) (cells) (slots) := by
  intro ls H locs hI hL hO hS
  have hS2 := (List.forall_mem_cons.mp hS).2
  have ho : o < gN G := hI.1.2.2.1 o (by omega)
  have hg := wlX_get (X := X) (mi := mi) ho
  rw [entX_obj hci h13] at hg
  have hr := va_recv hE.1 hI.1.1 (cl_get h13) hg
  rcases hv with ⟨rfl, h | h⟩ | ⟨rfl, h⟩
  · exact va_instS (cC := (xD X).1 ci) hx hb hown hlink (by rw [← h]; exact (hE.1.1 ci _ (cl_get h13)).2) (by rw [← h]; exact hr) hd (k1 ls H locs hI hL hO (List.forall_mem_cons.mpr ⟨⟨by decide, by decide⟩, hS2⟩))
  · exact va_instY hx hb hown hlink (hE.2.2.2.2.2.2.2.1 _ h) hr hd (k1 ls H locs hI hL hO (List.forall_mem_cons.mpr ⟨⟨by decide, by decide⟩, hS2⟩))
  · exact va_instNo hx hb hown hlink (hE.2.2.2.2.2.2.2.2.1 _ h) hr hd (k1 ls H locs hI hL hO (List.forall_mem_cons.mpr ⟨⟨by decide, by decide⟩, hS2⟩))
end ST3
end
section
/-! ===== every row of the code tables is as the class file has it, and its links are words of the tables (written by wip/whole/gen/gensound4.py) ===== -/
def hI : List (Nat × Nat) := [(7, 1022), (9, 1024), (3, 1027), (9, 1030), (11, 1032), (3, 1035), (9, 1036), (11, 1038), (3, 1041), (9, 1042), (15, 1045), (21, 1046), (24, 1047), (28, 1048), (20, 1059), (22, 1061), (3, 1064), (9, 1065), (153, 1066), (15, 1067), (156, 1068), (18, 1069), (126, 1070), (107, 1071), (21, 1072), (25, 1073), (28, 1074), (31, 1075), (34, 1076), (37, 1077), (40, 1078), (27, 1100), (14, 1102), (47, 1103), (23, 1104), (77, 1105), (103, 1106), (58, 1107), (117, 1108), (52, 1109), (40, 1110), (85, 1111), (29, 1112), (33, 1113), (37, 1114), (82, 1115), (68, 1116), (147, 1117), (54, 1118), (120, 1119), (107, 1120), (118, 1121), (150, 1122), (124, 1123), (84, 1124), (159, 1125), (162, 1126), (127, 1127), (165, 1128), (130, 1129), (40, 1130), (207, 1131), (43, 1132), (220, 1133), (46, 1134), (229, 1135), (49, 1136), (21, 1172), (23, 1173), (30, 1174), (32, 1176), (3, 1179), (9, 1180), (15, 1181), (19, 1182), (22, 1183), (25, 1184), (79, 1185), (28, 1186), (31, 1187), (115, 1188), (112, 1189), (12, 1211), (18, 1212), (26, 1213), (35, 1214), (39, 1215), (13, 1227), (43, 1231), (50, 1234), (54, 1238), (18, 2002), (62, 2006), (64, 2007), (65, 2008), (31, 2012), (34, 2015), (69, 2019), (43, 2023), (55, 2027), (75, 2031), (81, 2036), (335, 2040), (38, 2044), (86, 2046), (492, 2050), (495, 2054), (9, 2057), (1053, 2060), (1059, 2062), (498, 2065), (67, 2068), (48, 2071), (414, 2074), (71, 2075), (44, 2078), (59, 2080), (63, 2082), (61, 2084), (47, 2085), (51, 2089), (58, 2093), (67, 2097), (90, 2101), (97, 2105), (102, 2110), (108, 2114), (633, 2118), (505, 2122), (637, 2123), (88, 2126), (92, 2129), (38, 2130), (95, 2131), (640, 2134), (224, 2137), (183, 2138), (227, 2139), (228, 2140), (96, 2143), (241, 2146), (1062, 2149), (244, 2152), (232, 2155), (164, 2158), (157, 2161), (110, 2164), (161, 2165), (76, 2168), (94, 2170), (71, 2177), (73, 2181), (23, 2186), (81, 2190), (88, 2193), (263, 2197), (275, 2199), (3, 2202), (1, 2205), (7, 2206), (100, 2207), (81, 2208), (13, 2209), (31, 2210), (71, 2212), (16, 2213), (9, 2214), (11, 2216), (33, 2218), (105, 2220), (74, 2221), (19, 2222), (11, 2223), (9, 2225), (17, 2227), (17, 2229), (15, 2231), (21, 2233), (265, 3004), (278, 3006), (1, 3009), (267, 3015), (279, 3017), (3, 3020), (269, 3026), (280, 3028), (1, 3031), (271, 3037), (281, 3039), (1, 3042), (273, 3048), (282, 3050), (3, 3053), (101, 3059), (283, 3061), (92, 3067), (28, 3071), (96, 3075), (108, 3079), (112, 3084), (115, 3088), (33, 3091), (119, 3095), (123, 3096), (60, 3100), (64, 3101), (77, 3105), (7, 3119), (9, 3124), (129, 3126), (133, 3142), (87, 3146), (115, 3150), (119, 3154), (137, 3158), (91, 3162), (95, 3163), (7, 3176), (11, 3180), (7, 3187), (13, 3191), (98, 3193), (37, 3194), (140, 3198), (41, 3202), (143, 3206), (45, 3210), (50, 3214), (54, 3218), (168, 3222), (189, 3226), (58, 3227), (171, 3231), (62, 3232), (176, 3236), (34, 4000), (46, 4003), (50, 4004), (57, 4005), (61, 4006), (71, 4008), (179, 4009), (254, 4012), (260, 4013), (182, 4014), (75, 4018), (185, 4022), (188, 4023), (66, 4024), (70, 4028), (192, 4032), (85, 4036), (248, 4043), (96, 4047), (195, 4048), (74, 4052), (78, 4056), (198, 4060), (257, 4067), (82, 4070), (201, 4074), (121, 4078), (125, 4082), (204, 4083), (86, 4087), (90, 4091), (210, 4095), (103, 4099), (110, 4103), (94, 4104), (98, 4108), (214, 4112), (216, 4113), (103, 4116), (108, 4120), (112, 4124), (223, 4128), (226, 4129), (116, 4130), (120, 4134), (124, 4138), (232, 4142), (15, 4150), (21, 4151), (21, 4157), (27, 4158), (29, 4163), (235, 4164), (17, 4173), (23, 4174), (23, 4180), (29, 4181), (35, 4185), (238, 4186), (19, 4193), (25, 4194), (27, 4200), (33, 4201), (36, 4204), (38, 4211), (128, 4212), (132, 4216), (241, 4220), (136, 4223), (245, 4227), (113, 4231), (140, 4237), (144, 5001), (10, 5005), (12, 5007), (3, 5010), (9, 5011), (15, 5012), (18, 5013), (262, 5014), (53, 5015), (83, 5016), (56, 5017), (59, 5018), (62, 5019), (86, 5020), (21, 5021), (24, 5022), (194, 5023), (185, 5024), (28, 5025), (31, 5026), (208, 5027), (34, 5028), (226, 5029), (235, 5030), (232, 5031), (247, 5032), (17, 5081), (41, 5085), (22, 5088), (136, 5092), (66, 5096), (126, 5101), (112, 5105), (70, 5109), (75, 5110), (79, 5111), (106, 5115), (133, 5121), (118, 5126), (95, 5130), (109, 5134), (89, 5138), (92, 5142), (100, 5147), (27, 5153), (145, 5157), (32, 5160), (149, 5164), (36, 5168), (152, 5172), (153, 5173), (49, 5177), (139, 5181), (156, 5185), (142, 5189), (160, 5193), (40, 5197), (163, 5201), (44, 5205), (49, 5209), (53, 5213), (57, 5217), (166, 5221), (169, 5225), (172, 5229), (61, 5233), (65, 5237), (178, 6001), (175, 6005), (181, 6008), (69, 6009), (73, 6013), (197, 6017), (182, 6021), (188, 6025), (191, 6028), (77, 6032), (81, 6036), (204, 6040), (200, 6044), (45, 6047), (203, 6050), (85, 6051), (211, 6055), (89, 6059), (93, 6063), (215, 6067), (97, 6071), (102, 6075), (218, 6079), (220, 6080), (222, 6081), (107, 6084), (111, 6088), (115, 6092), (119, 6096), (123, 6100), (127, 6104), (244, 6108), (238, 6112), (229, 6115), (241, 6119), (253, 6123), (250, 6127), (259, 6131), (256, 6135), (131, 6139), (135, 6143), (139, 6147), (143, 6151), (147, 6155), (9, 6173), (15, 6174)]
def tblO : List (Nat × Nat) := [(6, 1000), (6, 1001), (6, 1002), (6, 1003), (6, 1004), (6, 1005), (6, 1006), (6, 1007), (6, 1008), (6, 1009), (6, 1010), (6, 1011), (6, 1012), (6, 1013), (6, 1014), (6, 1015), (6, 1016), (6, 1017), (6, 1018), (6, 1019), (6, 1020), (6, 1021), (5, 1023), (9, 1028), (8, 1029), (5, 1031), (5, 1037), (10, 1043), (8, 1044), (4, 1057), (1, 1058), (5, 1060), (4, 1099), (4, 1171), (5, 1175), (4, 1210), (4, 1226), (10, 2013), (8, 2014), (10, 2066), (8, 2067), (10, 2069), (8, 2070), (10, 2072), (8, 2073), (10, 2076), (8, 2077), (10, 2135), (8, 2136), (10, 2141), (8, 2142), (10, 2144), (8, 2145), (10, 2147), (8, 2148), (10, 2150), (8, 2151), (10, 2153), (8, 2154), (10, 2156), (8, 2157), (10, 2159), (8, 2160), (10, 2162), (8, 2163), (10, 2166), (8, 2167), (1, 2185), (5, 2198), (2, 2211), (2, 2215), (2, 2217), (2, 2219), (2, 2224), (2, 2226), (2, 2228), (2, 2230), (2, 2232), (2, 2234), (4, 3003), (5, 3005), (4, 3014), (5, 3016), (4, 3025), (5, 3027), (4, 3036), (5, 3038), (4, 3047), (5, 3049), (4, 3058), (5, 3060), (4, 3066), (3, 3108), (7, 3109), (7, 3112), (7, 3115), (7, 3116), (7, 3120), (7, 3121), (3, 3129), (7, 3130), (7, 3131), (7, 3132), (7, 3133), (7, 3134), (7, 3137), (3, 3166), (7, 3167), (7, 3170), (7, 3173), (7, 3177), (7, 3184), (7, 3188), (10, 4044), (11, 4045), (10, 4068), (8, 4069), (3, 4145), (7, 4146), (7, 4147), (7, 4152), (7, 4153), (7, 4154), (3, 4159), (7, 4161), (3, 4167), (7, 4168), (7, 4169), (7, 4170), (7, 4175), (7, 4176), (7, 4177), (3, 4182), (3, 4189), (7, 4190), (7, 4195), (7, 4196), (7, 4197), (3, 4202), (3, 4205), (7, 4207), (7, 4208), (7, 4209), (5, 5006), (4, 5079), (1, 5080), (3, 6159), (3, 6160), (3, 6161), (3, 6162), (3, 6163)]
def hY : List (List Nat) := [[5010, 1008, 5009, 0, 0], [5088, 1008, 0, 5087, 0], [6050, 1008, 0, 6049, 0], [5160, 1008, 0, 5159, 0], [6047, 1008, 0, 6046, 0], [5168, 1008, 5167, 0, 31], [5177, 1008, 5176, 0, 32], [6025, 1008, 6024, 0, 44], [6032, 1008, 6031, 0, 45], [5085, 1008, 5083, 0, 5084], [5100, 1008, 5099, 0, 19], [5115, 1008, 5114, 0, 22], [5109, 1008, 5108, 0, 21], [5119, 1008, 5118, 0, 23], [5151, 1008, 5150, 0, 30], [5146, 1008, 5145, 0, 29], [5142, 1008, 5141, 0, 28], [5138, 1008, 5137, 0, 27], [5134, 1008, 5133, 0, 26], [5130, 1008, 5129, 0, 25], [5105, 1008, 5104, 0, 20], [5125, 1008, 5124, 0, 24], [5096, 1008, 5095, 0, 18], [5092, 1008, 5090, 0, 5091], [5181, 1008, 5180, 0, 33], [5225, 1008, 5224, 0, 39], [5185, 1008, 5184, 0, 34], [5189, 1008, 5188, 0, 35], [5193, 1008, 5192, 0, 36], [5197, 1008, 5196, 0, 37], [5157, 1008, 5155, 0, 5156], [5164, 1008, 5162, 0, 5163], [5172, 1008, 5170, 0, 5171], [5205, 1008, 5204, 0, 38], [5201, 1008, 5199, 0, 5200], [5209, 1008, 5207, 0, 5208], [5213, 1008, 5211, 0, 5212], [5217, 1008, 5215, 0, 5216], [5229, 1008, 5228, 0, 40], [5233, 1008, 5232, 0, 41], [5221, 1008, 5219, 0, 5220], [5237, 1008, 5235, 0, 5236], [6008, 1008, 0, 6007, 0], [6005, 1008, 6004, 0, 42], [6001, 1008, 5239, 0, 5240], [6013, 1008, 6011, 0, 6012], [6028, 1008, 0, 6027, 0], [6021, 1008, 6020, 0, 43], [6017, 1008, 6015, 0, 6016], [6036, 1008, 6034, 0, 6035], [6044, 1008, 6043, 0, 46], [6040, 1008, 6038, 0, 6039], [6059, 1008, 6058, 0, 47], [6055, 1008, 6053, 0, 6054], [6063, 1008, 6061, 0, 6062], [6071, 1008, 6070, 0, 48], [6067, 1008, 6065, 0, 6066], [6075, 1008, 6073, 0, 6074], [6084, 1008, 0, 6083, 0], [6079, 1008, 6077, 0, 6078], [6088, 1008, 6086, 0, 6087], [6092, 1008, 6090, 0, 6091], [6096, 1008, 6094, 0, 6095], [6100, 1008, 6098, 0, 6099], [6104, 1008, 6102, 0, 6103], [6119, 1008, 6118, 0, 50], [6115, 1008, 0, 6114, 0], [6123, 1008, 6122, 0, 51], [6112, 1008, 6111, 0, 49], [6131, 1008, 6130, 0, 53], [6127, 1008, 6126, 0, 52], [6139, 1008, 6138, 0, 55], [6135, 1008, 6134, 0, 54], [6108, 1008, 6106, 0, 6107], [6143, 1008, 6141, 0, 6142], [6147, 1008, 6145, 0, 6146], [6151, 1008, 6149, 0, 6150], [6155, 1008, 6153, 0, 6154], [6159, 1008, 6157, 0, 6158], [1041, 1004, 1040, 0, 0], [4103, 1004, 4101, 0, 4102], [1238, 1004, 1236, 0, 1237], [2185, 1004, 2183, 0, 2184], [2002, 1004, 1240, 0, 2001], [2019, 1004, 2017, 0, 2018], [2012, 1004, 2010, 0, 2011], [4235, 1004, 4233, 0, 4234], [2205, 1014, 2204, 0, 0], [3126, 1014, 3107, 0, 3108], [3139, 1014, 3128, 0, 3129], [3193, 1014, 3165, 0, 3166], [4163, 1014, 4144, 0, 4145], [4185, 1014, 4166, 0, 4167], [4211, 1014, 4188, 0, 4189], [3020, 1017, 3019, 0, 0], [3112, 1017, 3111, 0, 0], [3170, 1017, 3169, 0, 0], [4193, 1017, 4192, 0, 0], [2202, 1015, 2201, 0, 0], [3115, 1015, 3114, 0, 0], [3173, 1015, 3172, 0, 0], [4150, 1015, 4149, 0, 0], [3009, 1016, 3008, 0, 0], [3176, 1016, 3175, 0, 0], [4173, 1016, 4172, 0, 0], [3031, 1018, 3030, 0, 0], [3119, 1018, 3118, 0, 0], [3180, 1018, 3179, 0, 0], [4200, 1018, 4199, 0, 0], [3042, 1019, 3041, 0, 0], [3137, 1019, 3136, 0, 0], [3187, 1019, 3186, 0, 0], [4157, 1019, 4156, 0, 0], [3053, 1020, 3052, 0, 0], [3124, 1020, 3123, 0, 0], [3191, 1020, 3190, 0, 0], [4180, 1020, 4179, 0, 0], [1064, 1006, 1063, 0, 0], [2023, 1006, 2021, 0, 2022], [2027, 1006, 2026, 0, 1], [2031, 1006, 2030, 0, 2], [2035, 1006, 2034, 0, 3], [2097, 1006, 2096, 0, 6], [2101, 1006, 2100, 0, 7], [2105, 1006, 2104, 0, 8], [2109, 1006, 2108, 0, 9], [2114, 1006, 2113, 0, 10], [2089, 1006, 2088, 0, 4], [2093, 1006, 2092, 0, 5], [2174, 1006, 2173, 0, 11], [2181, 1006, 2180, 0, 12], [3150, 1006, 3148, 0, 3149], [3154, 1006, 3153, 0, 14], [3157, 1006, 0, 3156, 0], [1035, 1003, 1034, 0, 0], [3079, 1003, 3077, 0, 3078], [3071, 1003, 3069, 0, 3070], [3083, 1003, 3081, 0, 3082], [3210, 1003, 3208, 0, 3209], [3105, 1003, 3103, 0, 3104], [3202, 1003, 3200, 0, 3201], [3088, 1003, 3086, 0, 3087], [3100, 1003, 3098, 0, 3099], [3146, 1003, 3144, 0, 3145], [3162, 1003, 3160, 0, 3161], [4099, 1003, 4097, 0, 4098], [4231, 1003, 4229, 0, 4230], [1179, 1007, 1178, 0, 0], [3240, 1007, 3238, 0, 3239], [4022, 1007, 4020, 0, 4021], [4018, 1007, 4016, 0, 4017], [4036, 1007, 4034, 0, 4035], [4040, 1007, 4039, 0, 16], [4052, 1007, 4050, 0, 4051], [4064, 1007, 4062, 0, 4063], [4078, 1007, 4076, 0, 4077], [4082, 1007, 4081, 0, 17], [4087, 1007, 4085, 0, 4086], [1027, 1002, 1026, 0, 0], [1231, 1002, 1229, 0, 1230], [2006, 1002, 2004, 0, 2005], [2190, 1002, 2188, 0, 2189], [3075, 1002, 3073, 0, 3074], [3095, 1002, 3093, 0, 3094], [3198, 1002, 3196, 0, 3197], [3206, 1002, 3204, 0, 3205], [3214, 1002, 3212, 0, 3213], [3218, 1002, 3216, 0, 3217], [3222, 1002, 3220, 0, 3221], [3231, 1002, 3229, 0, 3230], [3236, 1002, 3234, 0, 3235], [4028, 1002, 4026, 0, 4027], [4032, 1002, 4030, 0, 4031], [4056, 1002, 4054, 0, 4055], [4060, 1002, 4058, 0, 4059], [4074, 1002, 4072, 0, 4073], [4091, 1002, 4089, 0, 4090], [4095, 1002, 4093, 0, 4094], [4108, 1002, 4106, 0, 4107], [4112, 1002, 4110, 0, 4111], [4120, 1002, 4118, 0, 4119], [4124, 1002, 4122, 0, 4123], [4128, 1002, 4126, 0, 4127], [4134, 1002, 4132, 0, 4133], [4138, 1002, 4136, 0, 4137], [4142, 1002, 4140, 0, 4141], [4216, 1002, 4214, 0, 4215], [4220, 1002, 4218, 0, 4219], [4227, 1002, 4225, 0, 4226], [5001, 1002, 4239, 0, 4240], [5005, 1002, 5003, 0, 5004], [1234, 1002, 0, 1233, 0], [2177, 1002, 0, 2176, 0], [4043, 1002, 0, 4042, 0], [2193, 1002, 0, 2192, 0], [3091, 1002, 0, 3090, 0], [3142, 1002, 0, 3141, 0], [3184, 1002, 0, 3183, 0], [4067, 1002, 0, 4066, 0], [4012, 1002, 0, 4011, 0], [4116, 1002, 0, 4115, 0], [4223, 1002, 0, 4222, 0], [2197, 1002, 2196, 0, 13], [3226, 1002, 3225, 0, 15], [4003, 1021, 0, 4002, 0], [2040, 1009, 2038, 0, 2039], [2050, 1009, 2048, 0, 2049], [2118, 1009, 2116, 0, 2117], [2122, 1009, 2120, 0, 2121], [2044, 1009, 2042, 0, 2043], [2054, 1009, 2052, 0, 2053], [2060, 1009, 0, 2059, 0], [2057, 1010, 0, 2056, 0], [2129, 1010, 0, 2128, 0], [2126, 1010, 0, 2125, 0], [2134, 1010, 0, 2133, 0], [2065, 1011, 0, 2064, 0]]
def chunk (c : Nat) : List Cond := match c with
  | 0 => k2_sels lw_privs
  | 1 => tables_1_1
  | 2 => tables_1_2
  | 3 => tables_1_3
  | 4 => tables_1_4
  | 5 => tables_1_5
  | 6 => tables_1_6
  | _ => []
theorem chunk_in {c : Nat} {w : Cond} (h : w ∈ chunk c) : w ∈ lw_tbl := by
  unfold chunk at h
  split at h
  · exact List.mem_append_left _ h
  · exact List.mem_append_right _ (List.mem_append_left _ h)
  · exact List.mem_append_right _ (List.mem_append_right _ (List.mem_append_left _ h))
  · exact List.mem_append_right _ (List.mem_append_right _ (List.mem_append_right _ (List.mem_append_left _ h)))
  · exact List.mem_append_right _ (List.mem_append_right _ (List.mem_append_right _ (List.mem_append_right _ (List.mem_append_left _ h))))
  · exact List.mem_append_right _ (List.mem_append_right _ (List.mem_append_right _ (List.mem_append_right _ (List.mem_append_right _ (List.mem_append_left _ h)))))
  · exact List.mem_append_right _ (List.mem_append_right _ (List.mem_append_right _ (List.mem_append_right _ (List.mem_append_right _ (List.mem_append_right _ (h))))))
  · cases h
def atW (i : Nat) (w : Cond) : Bool := decide ((chunk (i / 1000))[i % 1000]? = some w) && goodWord w
def wTag (w : Cond) : Nat := match w with
  | .arrayClass _ => 1
  | .sameField _ _ _ _ => 2
  | .sameMethod _ _ _ _ => 3
  | .superclass _ _ => 4
  | .instantiable _ _ => 5
  | .initialized _ => 6
  | .selects _ _ _ => 7
  | .code _ _ _ _ => 8
  | .instanceMethod _ => 9
  | .static _ => 10
  | .native _ => 11
  | _ => 0
def wIn (w : Cond) : Bool := match w with
  | .fieldLink _ i _ _ _ => hI.any fun q => decide (q.1 = i) && atW q.2 w
  | .methodLink _ i _ => hI.any fun q => decide (q.1 = i) && atW q.2 w
  | .classLink _ i _ => hI.any fun q => decide (q.1 = i) && atW q.2 w
  | .constant _ i _ => hI.any fun q => decide (q.1 = i) && atW q.2 w
  | .constantLong _ i _ => hI.any fun q => decide (q.1 = i) && atW q.2 w
  | w => tblO.any fun q => decide (q.1 = wTag w) && atW q.2 w
theorem atW_mem {i : Nat} {w : Cond} (h : atW i w = true) : w ∈ AW := by
  simp only [atW, Bool.and_eq_true, decide_eq_true_eq] at h
  exact List.mem_filter.mpr ⟨chunk_in (List.mem_of_getElem? h.1), h.2⟩
theorem wIn_mem {w : Cond} (h : wIn w = true) : w ∈ AW := by
  unfold wIn at h
  split at h
  all_goals (
    simp only [List.any_eq_true, Bool.and_eq_true] at h
    obtain ⟨q, -, -, h⟩ := h
    exact atW_mem h)
def wordY (k y : Nat) : Cond := match k with
  | 0 => .code (mY y).1 (mY y).2.1 (mY y).2.2.1 (mY y).2.2.2
  | 1 => .initialized (mY y).1.cls
  | 2 => .instanceMethod (mY y).1
  | 3 => .static (mY y).1
  | _ => .selects (mY y).1.cls (mY y).1 (mY y).1
def wYi (k y : Nat) : Nat := (hY.getD y []).getD k 0
def wY (k y : Nat) : Bool := decide (wYi k y ≠ 0)
def wYok (k y : Nat) : Bool := decide (wYi k y = 0) || atW (wYi k y - 1) (wordY k y)
def ownY (y : Nat) : String := (mY y).1.cls
def in32B (n : Int) : Bool := decide (-2147483648 ≤ n) && decide (n ≤ 2147483647)
def in64B (n : Int) : Bool := decide (-9223372036854775808 ≤ n) && decide (n ≤ 9223372036854775807)
def tgtB (pc : Nat) (off : Int) (aux : List Int) : Bool := decide ((pc : Int) + off = ((ia aux : Nat) : Int))
def swT (pc : Int) : Int → List Int → List Int
  | _, [] => []
  | lo, o :: r => lo :: (pc + o) :: swT pc (lo + 1) r
def lkT (pc : Int) : List (Int × Int) → List Int
  | [] => []
  | (v, o) :: r => v :: (pc + o) :: lkT pc r
def fldB (own : String) (i : Nat) (k kind c : Int) : Bool :=
  decide (1 ≤ c) && decide (c ≤ 13) && decide (0 ≤ k) && decide (k.toNat < clN (c.toNat - 1)) && decide (rfF (c.toNat - 1) k.toNat = decide (kind = 1)) && decide (kind = 0 → tyC (c.toNat - 1) k.toNat = .int) && decide (kind = 0 ∨ kind = 1 ∨ kind = 2) &&
  refL.any fun q => decide (q.1 = own) && decide (q.2.1 = i) && wIn (.fieldLink own i q.2.2 ((clC (c.toNat - 1)).2.1 k.toNat).2.1 ((clC (c.toNat - 1)).2.1 k.toNat).2.2.1) &&
    (decide (q.2.2 = ((clC (c.toNat - 1)).2.1 k.toNat).1) || wIn (.sameField q.2.2 ((clC (c.toNat - 1)).2.1 k.toNat).1 ((clC (c.toNat - 1)).2.1 k.toNat).2.1 ((clC (c.toNat - 1)).2.1 k.toNat).2.2.1))
def getB (own : String) (i : Nat) (aux : List Int) : Bool := (decide (a1 aux ≠ 3) || wIn (.fieldLink own i "java/lang/String" "value" "[B")) && (decide (a1 aux ≠ 4) || wIn (.fieldLink own i "java/lang/String" "coder" "B")) && (aux.drop 2).all fun c => decide (c = 500) || fldB own i (a0 aux) (a1 aux) c
def putB (y : Nat) (i : Nat) (aux : List Int) : Bool := (aux.drop 2).all fun c => fldB (ownY y) i (a0 aux) (a1 aux) c && (decide (((clC (c.toNat - 1)).2.1 (a0 aux).toNat).2.2.2 = false) || (decide ((mY y).1.name = "<init>") && decide (((clC (c.toNat - 1)).2.1 (a0 aux).toNat).1 = ownY y)))
def newB (own : String) (i : Nat) (aux : List Int) : Bool := decide (1 ≤ a0 aux) && decide (a0 aux ≤ 13) && decide (a1 aux = (clN ((a0 aux).toNat - 1) : Int)) && wIn (.classLink own i (clC ((a0 aux).toNat - 1)).1) && wIn (.instantiable (clC ((a0 aux).toNat - 1)).1 (clC ((a0 aux).toNat - 1)).2.2) && wIn (.initialized (clC ((a0 aux).toNat - 1)).1)
def instB (own : String) (i : Nat) (aux : List Int) : Bool := clkL.any fun q => decide (q.1 = own) && decide (q.2.1 = i) && wIn (.classLink own i q.2.2) && (List.range 13).all fun ci => !thg (ci + 1) || (if ((ci + 1 : Nat) : Int) ∈ aux then decide ((clC ci).1 = q.2.2) || decide (((clC ci).1, q.2.2) ∈ castL) else decide (((clC ci).1, q.2.2) ∈ ncastL))
def pcN (desc : String) : Option Nat := (parseMethodDescriptor desc).map fun d => d.parameters.length
def plB (c : String) : Bool := decide (c ≠ "java/lang/invoke/MethodHandle") && decide (c ≠ "java/lang/invoke/VarHandle")
def ownNames : List String := ["CoinTelescope$Bird", "CoinTelescope$Boat", "CoinTelescope$House", "CoinTelescope$Search", "CoinTelescope$Ship", "CoinTelescope$Spire", "CoinTelescope$State", "CoinTelescope$Table", "CoinTelescope$Thing", "CoinTelescope$Told", "CoinTelescope$View", "CoinTelescope", "CoinTelescopeModel"]
theorem ownNames_plain : ∀ c ∈ ownNames, plainName c = true := by decide +kernel
def mB (y : Nat) : Bool := wYok 0 y && wYok 1 y && wYok 2 y && wYok 3 y && wYok 4 y && wY 0 y && wY 1 y && decide ((mY y).2.2.1 ≤ 40) && (decide ((mY y).1.cls ∈ ownNames) || plainFor (mY y).1) && plB (mY y).1.cls
def virB (own : String) (i na : Nat) (c y mode : Int) : Bool := decide (0 ≤ y) && decide (y.toNat < 217) && (
  if mode = 0 then decide ((mY y.toNat).1.cls = (if c = 500 then "java/lang/String" else (clC (c.toNat - 1)).1)) && decide (c = 500 ∨ (1 ≤ c ∧ c ≤ 13)) && decide (pcN (mY y.toNat).1.desc = some na) && wIn (.methodLink own i (mY y.toNat).1) && wY 2 y.toNat && wY 4 y.toNat
  else decide (1 ≤ c) && decide (c ≤ 13) && wY 2 y.toNat && mrL.any fun q => decide (q.1 = own) && decide (q.2.1 = i) && decide (pcN q.2.2.desc = some na) && wIn (.methodLink own i q.2.2) && wIn (.selects (clC (c.toNat - 1)).1 q.2.2 (mY y.toNat).1) &&
    (if mode = 1 then decide ((mY y.toNat).1.name = q.2.2.name) && decide ((mY y.toNat).1.desc = q.2.2.desc) && wIn (.sameMethod q.2.2.cls (mY y.toNat).1.cls q.2.2.name q.2.2.desc)
     else (List.range 217).any fun yo => decide ((mY yo).1.name = q.2.2.name) && decide ((mY yo).1.desc = q.2.2.desc) && plB (mY yo).1.cls && wIn (.sameMethod q.2.2.cls (mY yo).1.cls q.2.2.name q.2.2.desc) && wY 2 yo && wY 0 yo))
def virA (own : String) (i na : Nat) : List Int → Bool
  | c :: y :: mode :: r => virB own i na c y mode && virA own i na r
  | [] => true
  | _ => false
def supB (own : String) (i na y : Nat) : Bool := decide (y < 217) && decide ((mY y).1.name ≠ "<init>") && decide (pcN (mY y).1.desc = some na) && wY 2 y && mrL.any fun q => decide (q.1 = own) && decide (q.2.1 = i) && decide ((mY y).1.name = q.2.2.name) && decide ((mY y).1.desc = q.2.2.desc) && wIn (.methodLink own i q.2.2) && wIn (.sameMethod q.2.2.cls (mY y).1.cls q.2.2.name q.2.2.desc) && wIn (.superclass own q.2.2.cls) && (decide (q.2.2.cls = (mY y).1.cls) || wIn (.superclass q.2.2.cls (mY y).1.cls))
def spcB (own : String) (i na y : Nat) : Bool := decide (y < 217) && decide ((mY y).1.name = "<init>") && decide ((mY y).2.2.2 = none) && decide (pcN (mY y).1.desc = some na) && wIn (.methodLink own i (mY y).1) && wY 2 y
def staB (own : String) (i na y : Nat) : Bool := decide (y < 217) && decide (pcN (mY y).1.desc = some na) && wIn (.methodLink own i (mY y).1) && wY 3 y
def nstB (own : String) (i na y : Nat) : Bool := decide (y < 217) && decide (pcN (mY y).1.desc = some na) && wY 3 y && nestL.any fun q => decide (q.1 = own) && decide (q.2.1 = i) && decide (q.2.2.1 = (mY y).1)
def matB (own : String) (i : Nat) (z : MethodName) (b : ByteArray) (k : Nat) : Bool := wIn (.methodLink own i z) && wIn (.static z) && wIn (.initialized "java/lang/Math") && wIn (.code z b k (some .int))
def chkI (y pc : Nat) (ins : ClassFile.Instr) (aux : List Int) : Bool := match ins with
  | .iconst n => in32B n
  | .bipush n => in32B n && decide ((Int8.ofInt n).toInt32 = Int32.ofInt n)
  | .sipush n => in32B n && decide ((Int16.ofInt n).toInt32 = Int32.ofInt n)
  | .lconst z => decide (Int64.ofNat z.val = Int64.ofInt z.val)
  | .ldc i => if a0 aux = 0 then in32B (a1 aux) && wIn (.constant (ownY y) i (Int32.ofInt (a1 aux))) else decide ((a1 aux).toNat < sTexts.length) && strL.any (fun q => decide (q.1 = ownY y) && decide (q.2.1 = i) && decide (q.2.2.2 = (a1 aux).toNat))
  | .ldc2_w i => in64B (a0 aux) && wIn (.constantLong (ownY y) i (Int64.ofInt (a0 aux)))
  | .iload_n z => decide (z.val = ia aux)
  | .lload_n z => decide (z.val = ia aux)
  | .aload_n z => decide (z.val = ia aux)
  | .istore_n z => decide (z.val = ia aux)
  | .lstore_n z => decide (z.val = ia aux)
  | .astore_n z => decide (z.val = ia aux)
  | .iload i => decide (i = ia aux)
  | .lload i => decide (i = ia aux)
  | .aload i => decide (i = ia aux)
  | .istore i => decide (i = ia aux)
  | .lstore i => decide (i = ia aux)
  | .astore i => decide (i = ia aux)
  | .iinc i n => decide (i = ia aux) && decide (n = a1 aux)
  | .goto off => tgtB pc off aux
  | .ifCond _ off => tgtB pc off aux
  | .if_icmp _ off => tgtB pc off aux
  | .ifnull off => tgtB pc off aux
  | .ifnonnull off => tgtB pc off aux
  | .tableswitch d lo hi offs => decide (aux = ((pc : Int) + d) :: swT pc lo offs.toList) && decide (lo + offs.size = hi + 1) && decide (0 ≤ (pc : Int) + d) && offs.toList.all (fun o => decide (0 ≤ (pc : Int) + o))
  | .lookupswitch d ps => decide (aux = ((pc : Int) + d) :: lkT pc ps.toList) && (ps.toList.zip (ps.toList.drop 1)).all (fun (a, next) => a.1 < next.1) && decide (0 ≤ (pc : Int) + d) && ps.toList.all (fun o => decide (0 ≤ (pc : Int) + o.2))
  | .getfield i => getB (ownY y) i aux
  | .putfield i => putB y i aux
  | .getstatic i => if a0 aux = 0 then wIn (.fieldLink (ownY y) i "java/lang/String" "COMPACT_STRINGS" "Z") else wIn (.fieldLink (ownY y) i "jdk/internal/util/Preconditions" "SIOOBE_FORMATTER" "Ljava/util/function/BiFunction;")
  | .new i => newB (ownY y) i aux
  | .newarray t => (decide (t = .int ∧ a0 aux = 20) || decide (t = .boolean ∧ a0 aux = 21)) && wIn (.arrayClass (newarray.typeOf t))
  | .anewarray i => wIn (.classLink (ownY y) i "CoinTelescope$Thing")
  | .instanceof i => instB (ownY y) i aux
  | .invokevirtual i => virA (ownY y) i (ia aux) (aux.drop 1)
  | .invokespecial i => if a0 aux = 0 then wIn (.methodLink (ownY y) i Lib.objectInit) && wIn (.instanceMethod Lib.objectInit) && wIn (.code Lib.objectInit ⟨#[0xb1]⟩ 1 none) else if a0 aux = 1 then spcB (ownY y) i (a1 aux).toNat (a2 aux).toNat else supB (ownY y) i (a1 aux).toNat (a2 aux).toNat && (aux.drop 3).all (fun c => decide (1 ≤ c) && decide (c ≤ 13))
  | .invokestatic i => if a0 aux = 0 then staB (ownY y) i (a1 aux).toNat (a2 aux).toNat else if a0 aux = 1 then nstB (ownY y) i (a1 aux).toNat (a2 aux).toNat else if a0 aux = 2 then matB (ownY y) i Lib.Math.max.name Lib.Math.max.code 2 else if a0 aux = 3 then matB (ownY y) i Lib.Math.min.name Lib.Math.min.code 2 else if a0 aux = 4 then matB (ownY y) i Lib.Math.abs.name Lib.Math.abs.code 1
    else if a0 aux = 5 then wIn (.methodLink (ownY y) i arraycopyName) && wIn (.native arraycopyName) && wIn (.static arraycopyName) && wIn (.initialized "java/lang/System") else true
  | .lreturn => decide ((mY y).2.2.2 = some .long)
  | .areturn => match (mY y).2.2.2 with
    | some t => isRefT t
    | none => false
  | .return_ => decide ((mY y).2.2.2 = none)
  | _ => true
def ilen (ins : ClassFile.Instr) (d : Nat) : Nat := match ins with
  | .bipush _ | .iload _ | .lload _ | .aload _ | .istore _ | .lstore _ | .astore _ | .ldc _ | .newarray _ => 2
  | .sipush _ | .iinc _ _ | .ldc2_w _ | .goto _ | .ifCond _ _ | .if_icmp _ _ | .ifnull _ | .ifnonnull _ | .getfield _ | .putfield _ | .getstatic _ | .new _ | .anewarray _ | .instanceof _ | .invokevirtual _ | .invokespecial _ | .invokestatic _ => 3
  | .tableswitch _ _ _ _ | .lookupswitch _ _ => d
  | _ => 1
def chkE (y : Nat) (e : Nat × Nat × ClassFile.Instr × List Int) : Bool := decide (e.2.1 = e.1 + ilen e.2.2.1 (e.2.1 - e.1)) && decide (decode (mY y).2.1 e.1 = .ok (e.2.2.1, ilen e.2.2.1 (e.2.1 - e.1))) && chkI y e.1 e.2.2.1 e.2.2.2

abbrev chkP (y : Nat) : Prop := (cT.getD y []).all (chkE y) = true
abbrev mBP (y : Nat) : Prop := mB y = true
theorem wY_mem {k y : Nat} (hy : mB y = true) (hk : k < 5) (h : wY k y = true) : wordY k y ∈ AW := by
  simp only [mB, Bool.and_eq_true, decide_eq_true_eq] at hy
  obtain ⟨⟨⟨⟨⟨⟨⟨⟨⟨h0, h1⟩, h2⟩, h3⟩, h4⟩, -⟩, -⟩, -⟩, -⟩, -⟩ := hy
  have key : ∀ k, wYok k y = true → wY k y = true → wordY k y ∈ AW := by
    intro k g1 g2
    simp only [wYok, Bool.or_eq_true, decide_eq_true_eq] at g1
    simp only [wY, decide_eq_true_eq] at g2
    exact atW_mem (g1.resolve_left g2)
  match k, hk, h with
  | 0, _, h => exact key 0 h0 h
  | 1, _, h => exact key 1 h1 h
  | 2, _, h => exact key 2 h2 h
  | 3, _, h => exact key 3 h3 h
  | 4, _, h => exact key 4 h4 h
theorem all_split {α : Type} {l : List α} {f : α → Bool} (n : Nat) (h1 : (l.take n).all f = true) (h2 : (l.drop n).all f = true) : l.all f = true := by
  rw [← List.take_append_drop n l, List.all_append, h1, h2]
  rfl
theorem all_nil {α : Type} {l : List α} {f : α → Bool} (h : l.isEmpty = true) : l.all f = true := by
  cases l with
  | nil => rfl
  | cons a r => cases h
end
section
theorem mB_all : ∀ y, y < 217 → mB y = true := sorry
theorem cd_chk {y pc npc : Nat} {ins : ClassFile.Instr} {aux : List Int} (hy : y < 218) (h : cd y pc = some (npc, ins, aux)) : npc = pc + ilen ins (npc - pc) ∧ decode (mY y).2.1 pc = .ok (ins, ilen ins (npc - pc)) ∧ chkI y pc ins aux = true := sorry
end
section
/-! ===== one step of the pure machine that is no call is a step of the machine (written by wip/whole/gen/gensound5.py) ===== -/
theorem nx_inv {pc pc' : Nat} {ls ls' : Lcs} {st st' : List PV} {G G' : Gh} {mi mi' : Mi} (h : nx pc ls st G mi = some (.inl (pc', ls', st', G', mi'))) : pc = pc' ∧ ls = ls' ∧ st = st' ∧ G = G' ∧ mi = mi' := by
  have h1 := Sum.inl.inj (Option.some.inj h)
  simp only [Prod.mk.injEq] at h1
  obtain ⟨h1, h2, h3, h4⟩ := h1
  exact ⟨h1, h2, h3, h4.1, h4.2⟩
theorem op2_inv {st : List PV} {k : Int → Int → List PV → Option Out} {q : Out} (h : op2 st k = some q) : ∃ a b r, st = pI b :: pI a :: r ∧ k a b r = some q := by
  unfold op2 at h
  split at h
  · exact ⟨_, _, _, rfl, h⟩
  · cases h
theorem op1_inv {st : List PV} {k : Int → List PV → Option Out} {q : Out} (h : op1 st k = some q) : ∃ a r, st = pI a :: r ∧ k a r = some q := by
  unfold op1 at h
  split at h
  · exact ⟨_, _, rfl, h⟩
  · cases h
theorem opL_inv {st : List PV} {k : Int → Int → List PV → Option Out} {q : Out} (h : opL st k = some q) : ∃ a b r, st = pL b :: pL a :: r ∧ k a b r = some q := by
  unfold opL at h
  split at h
  · exact ⟨_, _, _, rfl, h⟩
  · cases h
theorem ite_inv {c : Prop} [Decidable c] {α : Type} {a : Option α} {q : α} (h : (if c then a else none) = some q) : c ∧ a = some q := by
  by_cases hc : c
  · rw [if_pos hc] at h; exact ⟨hc, h⟩
  · rw [if_neg hc] at h; cases h
theorem in32_of {n : Int} (h : in32B n = true) : in32 n := by
  simp only [in32B, Bool.and_eq_true, decide_eq_true_eq] at h
  exact h
theorem in64_of {n : Int} (h : in64B n = true) : in64 n := by
  simp only [in64B, Bool.and_eq_true, decide_eq_true_eq] at h
  exact h
theorem swT_spec (pc : Int) (d : Int) : ∀ (offs : List Int) (lo x : Int), swL x d (swT pc lo offs) = if lo ≤ x ∧ x < lo + offs.length then pc + offs.getD (x - lo).toNat 0 else d := by
  intro offs
  induction offs with
  | nil => intro lo x; rw [if_neg (by intro h; simp at h; omega)]; rfl
  | cons a r ih =>
    intro lo x
    simp only [swT, swL]
    by_cases h : x = lo
    · subst h
      rw [if_pos rfl, if_pos (by simp; omega), Int.sub_self]
      rfl
    · rw [if_neg h, ih]
      by_cases h2 : lo + 1 ≤ x ∧ x < lo + 1 + r.length
      · rw [if_pos h2, if_pos (by simp; omega)]
        have e : (x - lo).toNat = (x - (lo + 1)).toNat + 1 := by omega
        rw [e, List.getD_cons_succ]
      · rw [if_neg h2, if_neg (by simp; omega)]
theorem lkT_spec (pc d : Int) : ∀ (ps : List (Int × Int)) (x : Int), swL x (pc + d) (lkT pc ps) = pc + Op.lookupswitch.offset ps d x := by
  intro ps
  induction ps with
  | nil => intro x; rfl
  | cons a r ih =>
    intro x
    obtain ⟨v, t⟩ := a
    rw [Op.lookupswitch.offset_cons]
    simp only [lkT, swL]
    by_cases h : x = v
    · subst h
      rw [if_pos rfl, if_pos rfl]
    · rw [if_neg h, if_neg (fun z => h z.symm), ih]
/-- what a method's walk stands on -/
def Mch (X : Cx) (p : Program) (s : State) (m : MethodId) (args : Array Value) (meth : Method) (c : Code) (y : Nat) : Prop :=
  p.tables.exec = Jvm.exec ∧ c.code = (mY y).2.1 ∧ c.maxLocals = maxLY y ∧ s.vm.findClass (ownY y) = some m.cls ∧ (∀ w ∈ AW, w.before args s = true) ∧ meth.name = (mY y).1.name ∧ EnvU X s s.heap ∧ xb X ≤ s.heap.size
theorem rOK_sum {X : Cx} {U : State} {H : Heap} (hE : EnvU X U H) {r : List PV} (h : rOK r = true) : ((r.map (trV X)).map fun v => v.category).sum ≤ 8 := by
  have c2 : ∀ v : PV, (trV X v).category ≤ 2 := by
    intro v
    by_cases h : isL (some v) = false
    · rw [tr_cat1 hE h]; decide
    · match v, h with
      | .inl i, h => exact absurd rfl h
      | .inr (.inl l), _ => exact Nat.le_refl 2
      | .inr (.inr q), h => exact absurd rfl h
  have s2 : ∀ r : List PV, ((r.map (trV X)).map fun v => v.category).sum ≤ 2 * r.length := by
    intro r
    induction r with
    | nil => exact Nat.le_refl _
    | cons a r ih =>
      simp only [List.map_cons, List.sum_cons, List.length_cons]
      have := c2 a
      omega
  simp only [rOK, Bool.or_eq_true, decide_eq_true_eq, Bool.and_eq_true] at h
  rcases h with h | ⟨h1, h2⟩
  · have := s2 r
    omega
  · have s1 : ∀ r : List PV, r.all (fun v => !isL (some v)) = true → ((r.map (trV X)).map fun v => v.category).sum ≤ r.length := by
      intro r
      induction r with
      | nil => intro _; exact Nat.le_refl _
      | cons a r ih =>
        intro h
        simp only [List.all_cons, Bool.and_eq_true, Bool.not_eq_true'] at h
        simp only [List.map_cons, List.sum_cons, List.length_cons]
        have := ih h.2
        rw [tr_cat1 hE h.1]
        omega
    have := s1 r h2
    omega
theorem fldB_spec {s : State} {args : Array Value} (hts : ∀ w ∈ AW, w.before args s = true) {own : String} {i : Nat} {k kind : Int} {c : Nat} (h : fldB own i k kind (c : Int) = true) :
    ∃ (ci kk : Nat) (ref : String), c = ci + 1 ∧ ci < 13 ∧ k = (kk : Int) ∧ kk < clN ci ∧ rfF ci kk = decide (kind = 1) ∧ (kind = 0 → tyC ci kk = .int) ∧ (kind = 0 ∨ kind = 1 ∨ kind = 2) ∧ (Cond.fieldLink own i ref ((clC ci).2.1 kk).2.1 ((clC ci).2.1 kk).2.2.1).before args s = true ∧
      ∀ x, s.fieldFound? ((clC ci).2.1 kk).1 ((clC ci).2.1 kk).2.1 ((clC ci).2.1 kk).2.2.1 = some x → s.fieldFound? ref ((clC ci).2.1 kk).2.1 ((clC ci).2.1 kk).2.2.1 = some x := by
  unfold fldB at h
  simp only [Bool.and_eq_true, decide_eq_true_eq, List.any_eq_true, Bool.or_eq_true] at h
  obtain ⟨⟨⟨⟨⟨⟨⟨h1, h2⟩, h3⟩, h4⟩, h5⟩, h6⟩, h7⟩, q, hq, ⟨⟨q1, q2⟩, q3⟩, q4⟩ := h
  have e1 : (c : Int).toNat - 1 = c - 1 := by omega
  rw [e1] at h4 h5 h6 q3 q4
  refine ⟨c - 1, k.toNat, q.2.2, by omega, by omega, by omega, h4, h5, h6, h7, hts _ (wIn_mem q3), ?_⟩
  rcases q4 with q4 | q4
  · intro x hx
    rw [q4]
    exact hx
  · exact fun x hx => u_same (hts _ (wIn_mem q4)) x hx
section DI
variable {X : Cx} {p : Program} {l : Launch} {e : Env} {R : Room} {s : State} {m : MethodId} {args : Array Value} {below : List Frame} {meth : Method} {c : Code} {Q : State → Prop} {y d nL pc npc pc' : Nat} {L L' : Lcs} {st st' : List PV} {G G' : Gh} {mi mi' : Mi} {cells slots : Nat} {ins : ClassFile.Instr} {aux : List Int}
set_option maxRecDepth 100000 in
set_option maxHeartbeats 4000000 in
theorem step_ok (Mh : Mch X p s m args meth c y) (hn : npc = pc + ilen ins (npc - pc)) (hdec : decode (mY y).2.1 pc = .ok (ins, ilen ins (npc - pc))) (hc : chkI y pc ins aux = true) (hnL : nL = maxLY y) (hd1 : d ≤ R.frames) (hd2 : 64 * d ≤ R.locals) (hcs : s.heap.size + cells = xb X + gN G)
    (hs : sI d pc npc ins aux L st G mi = some (.inl (pc', L', st', G', mi'))) (hcell : cells + (gN G' - gN G) ≤ R.cells) (hslot : slots + (gS G' - gS G) ≤ R.slots)
    (k : WC X p l e R s m args below meth c Q nL (pc') (L') (st') (G') (mi') (cells + (gN G' - gN G)) (slots + (gS G' - gS G))) : WC X p l e R s m args below meth c Q nL (pc) (L) (st) (G) (mi) (cells) (slots) := by
  obtain ⟨hx, hb, hml, hown, hts, hnm, hE, hxb⟩ := Mh
  cases ins
  all_goals try (exfalso; exact nomatch (show (none : Option Out) = some _ from hs))
  case iconst n =>
    replace hs : nx npc L (pI n :: st) G mi = _ := hs
    obtain ⟨rfl, rfl, rfl, rfl, rfl⟩ := nx_inv hs
    simp only [Nat.sub_self, Nat.add_zero] at k
    rw [hn] at k
    exact st_iconst hx hb hE (in32_of hc) hdec k
  case bipush n =>
    simp only [chkI, Bool.and_eq_true, decide_eq_true_eq] at hc
    replace hs : nx npc L (pI n :: st) G mi = _ := hs
    obtain ⟨rfl, rfl, rfl, rfl, rfl⟩ := nx_inv hs
    simp only [Nat.sub_self, Nat.add_zero] at k
    rw [hn] at k
    exact st_bipush hx hb hE (in32_of hc.1) hc.2 hdec k
  case sipush n =>
    simp only [chkI, Bool.and_eq_true, decide_eq_true_eq] at hc
    replace hs : nx npc L (pI n :: st) G mi = _ := hs
    obtain ⟨rfl, rfl, rfl, rfl, rfl⟩ := nx_inv hs
    simp only [Nat.sub_self, Nat.add_zero] at k
    rw [hn] at k
    exact st_sipush hx hb hE (in32_of hc.1) hc.2 hdec k
  case lconst z =>
    simp only [chkI, decide_eq_true_eq] at hc
    replace hs : nx npc L (pL z.val :: st) G mi = _ := hs
    obtain ⟨rfl, rfl, rfl, rfl, rfl⟩ := nx_inv hs
    simp only [Nat.sub_self, Nat.add_zero] at k
    rw [hn] at k
    exact st_lconst hx hb hE hc ⟨by have := z.isLt; omega, by have := z.isLt; omega⟩ hdec k
  case aconst_null =>
    replace hs : nx npc L (pR none :: st) G mi = _ := hs
    obtain ⟨rfl, rfl, rfl, rfl, rfl⟩ := nx_inv hs
    simp only [Nat.sub_self, Nat.add_zero] at k
    rw [hn] at k
    exact st_null hx hb hE hdec k
  case ldc i =>
    replace hs : (if a0 aux = 0 then nx npc L (pI (a1 aux) :: st) G mi else nx npc L (pE (2 * (a1 aux).toNat + 1) :: st) G mi) = _ := hs
    simp only [chkI] at hc
    by_cases h0 : a0 aux = 0
    · rw [if_pos h0] at hs hc
      simp only [Bool.and_eq_true] at hc
      obtain ⟨rfl, rfl, rfl, rfl, rfl⟩ := nx_inv hs
      simp only [Nat.sub_self, Nat.add_zero] at k
      rw [hn] at k
      exact st_ldci hx hb hE hown (hts _ (wIn_mem hc.2)) (in32_of hc.1) hdec k
    · rw [if_neg h0] at hs hc
      simp only [Bool.and_eq_true, decide_eq_true_eq, List.any_eq_true] at hc
      obtain ⟨hl, q, hq, ⟨q1, q2⟩, q3⟩ := hc
      obtain ⟨rfl, rfl, rfl, rfl, rfl⟩ := nx_inv hs
      simp only [Nat.sub_self, Nat.add_zero] at k
      rw [hn] at k
      obtain ⟨z1, z2, z3, z4⟩ := q
      dsimp only at q1 q2 q3
      subst q1 q2 q3
      exact st_ldcs hx hb hE hown hq hl hdec k
  case ldc2_w i =>
    simp only [chkI, Bool.and_eq_true] at hc
    replace hs : nx npc L (pL (a0 aux) :: st) G mi = _ := hs
    obtain ⟨rfl, rfl, rfl, rfl, rfl⟩ := nx_inv hs
    simp only [Nat.sub_self, Nat.add_zero] at k
    rw [hn] at k
    exact st_ldc2 hx hb hE hown (hts _ (wIn_mem hc.2)) (in64_of hc.1) hdec k
  case iload_n z =>
    simp only [chkI, decide_eq_true_eq] at hc
    replace hs : (match lg L (ia aux) with | some (.inl v) => nx npc L (pI v :: st) G mi | _ => none) = _ := hs
    split at hs
    · rename_i v hv
      obtain ⟨rfl, rfl, rfl, rfl, rfl⟩ := nx_inv hs
      simp only [Nat.sub_self, Nat.add_zero] at k
      rw [hn] at k
      exact st_iload_n hx hb hE hc hv hdec k
    · cases hs
  case iload i =>
    simp only [chkI, decide_eq_true_eq] at hc
    replace hs : (match lg L (ia aux) with | some (.inl v) => nx npc L (pI v :: st) G mi | _ => none) = _ := hs
    split at hs
    · rename_i v hv
      obtain ⟨rfl, rfl, rfl, rfl, rfl⟩ := nx_inv hs
      simp only [Nat.sub_self, Nat.add_zero] at k
      rw [hn] at k
      rw [← hc] at hv
      exact st_iload hx hb hE hv hdec k
    · cases hs
  case lload_n z =>
    simp only [chkI, decide_eq_true_eq] at hc
    replace hs : (match lg L (ia aux) with | some (.inr (.inl v)) => nx npc L (pL v :: st) G mi | _ => none) = _ := hs
    split at hs
    · rename_i v hv
      obtain ⟨rfl, rfl, rfl, rfl, rfl⟩ := nx_inv hs
      simp only [Nat.sub_self, Nat.add_zero] at k
      rw [hn] at k
      exact st_lload_n hx hb hE hc hv hdec k
    · cases hs
  case lload i =>
    simp only [chkI, decide_eq_true_eq] at hc
    replace hs : (match lg L (ia aux) with | some (.inr (.inl v)) => nx npc L (pL v :: st) G mi | _ => none) = _ := hs
    split at hs
    · rename_i v hv
      obtain ⟨rfl, rfl, rfl, rfl, rfl⟩ := nx_inv hs
      simp only [Nat.sub_self, Nat.add_zero] at k
      rw [hn] at k
      rw [← hc] at hv
      exact st_lload hx hb hE hv hdec k
    · cases hs
  case aload_n z =>
    simp only [chkI, decide_eq_true_eq] at hc
    replace hs : (match lg L (ia aux) with | some (.inr (.inr v)) => nx npc L (.inr (.inr v) :: st) G mi | _ => none) = _ := hs
    split at hs
    · rename_i v hv
      obtain ⟨rfl, rfl, rfl, rfl, rfl⟩ := nx_inv hs
      simp only [Nat.sub_self, Nat.add_zero] at k
      rw [hn] at k
      exact st_aload_n hx hb hE hc hv hdec k
    · cases hs
  case aload i =>
    simp only [chkI, decide_eq_true_eq] at hc
    replace hs : (match lg L (ia aux) with | some (.inr (.inr v)) => nx npc L (.inr (.inr v) :: st) G mi | _ => none) = _ := hs
    split at hs
    · rename_i v hv
      obtain ⟨rfl, rfl, rfl, rfl, rfl⟩ := nx_inv hs
      simp only [Nat.sub_self, Nat.add_zero] at k
      rw [hn] at k
      rw [← hc] at hv
      exact st_aload hx hb hE hv hdec k
    · cases hs
  case istore_n z =>
    simp only [chkI, decide_eq_true_eq] at hc
    replace hs : (match st with | .inl v :: r => (if okSt L (ia aux) = true ∧ ia aux < L.length then nx npc (L.set (ia aux) (some (pI v))) r G mi else none) | _ => none) = _ := hs
    split at hs
    · rename_i v r
      obtain ⟨⟨h1, h2⟩, hs⟩ := ite_inv hs
      obtain ⟨rfl, rfl, rfl, rfl, rfl⟩ := nx_inv hs
      simp only [Nat.sub_self, Nat.add_zero] at k
      rw [hn] at k
      exact st_istore_n hx hb hE hc h1 h2 hdec k
    · cases hs
  case istore i =>
    simp only [chkI, decide_eq_true_eq] at hc
    replace hs : (match st with | .inl v :: r => (if okSt L (ia aux) = true ∧ ia aux < L.length then nx npc (L.set (ia aux) (some (pI v))) r G mi else none) | _ => none) = _ := hs
    split at hs
    · rename_i v r
      obtain ⟨⟨h1, h2⟩, hs⟩ := ite_inv hs
      obtain ⟨rfl, rfl, rfl, rfl, rfl⟩ := nx_inv hs
      simp only [Nat.sub_self, Nat.add_zero] at k
      rw [hn] at k
      rw [← hc] at h1 h2 k
      exact st_istore hx hb hE h1 h2 hdec k
    · cases hs
  case lstore_n z =>
    simp only [chkI, decide_eq_true_eq] at hc
    replace hs : (match st with | .inr (.inl v) :: r => (if okSt L (ia aux) = true ∧ ia aux + 1 < L.length then nx npc ((L.set (ia aux) (some (pL v))).set (ia aux + 1) none) r G mi else none) | _ => none) = _ := hs
    split at hs
    · rename_i v r
      obtain ⟨⟨h1, h2⟩, hs⟩ := ite_inv hs
      obtain ⟨rfl, rfl, rfl, rfl, rfl⟩ := nx_inv hs
      simp only [Nat.sub_self, Nat.add_zero] at k
      rw [hn] at k
      exact st_lstore_n hx hb hE hc h1 h2 hdec k
    · cases hs
  case lstore i =>
    simp only [chkI, decide_eq_true_eq] at hc
    replace hs : (match st with | .inr (.inl v) :: r => (if okSt L (ia aux) = true ∧ ia aux + 1 < L.length then nx npc ((L.set (ia aux) (some (pL v))).set (ia aux + 1) none) r G mi else none) | _ => none) = _ := hs
    split at hs
    · rename_i v r
      obtain ⟨⟨h1, h2⟩, hs⟩ := ite_inv hs
      obtain ⟨rfl, rfl, rfl, rfl, rfl⟩ := nx_inv hs
      simp only [Nat.sub_self, Nat.add_zero] at k
      rw [hn] at k
      rw [← hc] at h1 h2 k
      exact st_lstore hx hb hE h1 h2 hdec k
    · cases hs
  case astore_n z =>
    simp only [chkI, decide_eq_true_eq] at hc
    replace hs : (match st with | .inr (.inr v) :: r => (if okSt L (ia aux) = true ∧ ia aux < L.length then nx npc (L.set (ia aux) (some (.inr (.inr v)))) r G mi else none) | _ => none) = _ := hs
    split at hs
    · rename_i v r
      obtain ⟨⟨h1, h2⟩, hs⟩ := ite_inv hs
      obtain ⟨rfl, rfl, rfl, rfl, rfl⟩ := nx_inv hs
      simp only [Nat.sub_self, Nat.add_zero] at k
      rw [hn] at k
      exact st_astore_n hx hb hE hc h1 h2 hdec k
    · cases hs
  case astore i =>
    simp only [chkI, decide_eq_true_eq] at hc
    replace hs : (match st with | .inr (.inr v) :: r => (if okSt L (ia aux) = true ∧ ia aux < L.length then nx npc (L.set (ia aux) (some (.inr (.inr v)))) r G mi else none) | _ => none) = _ := hs
    split at hs
    · rename_i v r
      obtain ⟨⟨h1, h2⟩, hs⟩ := ite_inv hs
      obtain ⟨rfl, rfl, rfl, rfl, rfl⟩ := nx_inv hs
      simp only [Nat.sub_self, Nat.add_zero] at k
      rw [hn] at k
      rw [← hc] at h1 h2 k
      exact st_astore hx hb hE h1 h2 hdec k
    · cases hs
  case iinc i n =>
    simp only [chkI, Bool.and_eq_true, decide_eq_true_eq] at hc
    obtain ⟨hc1, hc2⟩ := hc
    replace hs : (match lg L (ia aux) with | some (.inl v) => (if okSt L (ia aux) = true ∧ ia aux < L.length then nx npc (L.set (ia aux) (some (pI (wr (v + a1 aux))))) st G mi else none) | _ => none) = _ := hs
    split at hs
    · rename_i v hv
      obtain ⟨⟨h1, h2⟩, hs⟩ := ite_inv hs
      obtain ⟨rfl, rfl, rfl, rfl, rfl⟩ := nx_inv hs
      simp only [Nat.sub_self, Nat.add_zero] at k
      rw [hn] at k
      rw [← hc1] at hv h1 h2 k
      rw [← hc2] at k
      exact st_iinc hx hb hE hv h1 h2 hdec k
    · cases hs
  case iadd =>
    replace hs : op2 st (fun a b r => nx npc L (pI (wr (a + b)) :: r) G mi) = _ := hs
    obtain ⟨a, b, r, rfl, hs⟩ := op2_inv hs
    obtain ⟨rfl, rfl, rfl, rfl, rfl⟩ := nx_inv hs
    simp only [Nat.sub_self, Nat.add_zero] at k
    rw [hn] at k
    exact st_iadd hx hb hE hdec k
  case isub =>
    replace hs : op2 st (fun a b r => nx npc L (pI (wr (a - b)) :: r) G mi) = _ := hs
    obtain ⟨a, b, r, rfl, hs⟩ := op2_inv hs
    obtain ⟨rfl, rfl, rfl, rfl, rfl⟩ := nx_inv hs
    simp only [Nat.sub_self, Nat.add_zero] at k
    rw [hn] at k
    exact st_isub hx hb hE hdec k
  case imul =>
    replace hs : op2 st (fun a b r => nx npc L (pI (wr (a * b)) :: r) G mi) = _ := hs
    obtain ⟨a, b, r, rfl, hs⟩ := op2_inv hs
    obtain ⟨rfl, rfl, rfl, rfl, rfl⟩ := nx_inv hs
    simp only [Nat.sub_self, Nat.add_zero] at k
    rw [hn] at k
    exact st_imul hx hb hE hdec k
  case iand =>
    replace hs : op2 st (fun a b r => nx npc L (pI (iAnd a b) :: r) G mi) = _ := hs
    obtain ⟨a, b, r, rfl, hs⟩ := op2_inv hs
    obtain ⟨rfl, rfl, rfl, rfl, rfl⟩ := nx_inv hs
    simp only [Nat.sub_self, Nat.add_zero] at k
    rw [hn] at k
    exact st_iand hx hb hE hdec k
  case ior =>
    replace hs : op2 st (fun a b r => nx npc L (pI (iOr a b) :: r) G mi) = _ := hs
    obtain ⟨a, b, r, rfl, hs⟩ := op2_inv hs
    obtain ⟨rfl, rfl, rfl, rfl, rfl⟩ := nx_inv hs
    simp only [Nat.sub_self, Nat.add_zero] at k
    rw [hn] at k
    exact st_ior hx hb hE hdec k
  case ixor =>
    replace hs : op2 st (fun a b r => nx npc L (pI (iXor a b) :: r) G mi) = _ := hs
    obtain ⟨a, b, r, rfl, hs⟩ := op2_inv hs
    obtain ⟨rfl, rfl, rfl, rfl, rfl⟩ := nx_inv hs
    simp only [Nat.sub_self, Nat.add_zero] at k
    rw [hn] at k
    exact st_ixor hx hb hE hdec k
  case ishl =>
    replace hs : op2 st (fun a b r => nx npc L (pI (iShl a b) :: r) G mi) = _ := hs
    obtain ⟨a, b, r, rfl, hs⟩ := op2_inv hs
    obtain ⟨rfl, rfl, rfl, rfl, rfl⟩ := nx_inv hs
    simp only [Nat.sub_self, Nat.add_zero] at k
    rw [hn] at k
    exact st_ishl hx hb hE hdec k
  case ishr =>
    replace hs : op2 st (fun a b r => nx npc L (pI (iShr a b) :: r) G mi) = _ := hs
    obtain ⟨a, b, r, rfl, hs⟩ := op2_inv hs
    obtain ⟨rfl, rfl, rfl, rfl, rfl⟩ := nx_inv hs
    simp only [Nat.sub_self, Nat.add_zero] at k
    rw [hn] at k
    exact st_ishr hx hb hE hdec k
  case iushr =>
    replace hs : op2 st (fun a b r => nx npc L (pI (iUshr a b) :: r) G mi) = _ := hs
    obtain ⟨a, b, r, rfl, hs⟩ := op2_inv hs
    obtain ⟨rfl, rfl, rfl, rfl, rfl⟩ := nx_inv hs
    simp only [Nat.sub_self, Nat.add_zero] at k
    rw [hn] at k
    exact st_iushr hx hb hE hdec k
  case idiv =>
    replace hs : op2 st (fun a b r => if 0 < b then nx npc L (pI (a.tdiv b) :: r) G mi else none) = _ := hs
    obtain ⟨a, b, r, rfl, hs⟩ := op2_inv hs
    obtain ⟨h0, hs⟩ := ite_inv hs
    obtain ⟨rfl, rfl, rfl, rfl, rfl⟩ := nx_inv hs
    simp only [Nat.sub_self, Nat.add_zero] at k
    rw [hn] at k
    exact st_idiv hx hb hE h0 hdec k
  case irem =>
    replace hs : op2 st (fun a b r => if 0 < b then nx npc L (pI (a.tmod b) :: r) G mi else none) = _ := hs
    obtain ⟨a, b, r, rfl, hs⟩ := op2_inv hs
    obtain ⟨h0, hs⟩ := ite_inv hs
    obtain ⟨rfl, rfl, rfl, rfl, rfl⟩ := nx_inv hs
    simp only [Nat.sub_self, Nat.add_zero] at k
    rw [hn] at k
    exact st_irem hx hb hE h0 hdec k
  case ldiv =>
    replace hs : opL st (fun a b r => if 0 < b then nx npc L (pL (a.tdiv b) :: r) G mi else none) = _ := hs
    obtain ⟨a, b, r, rfl, hs⟩ := opL_inv hs
    obtain ⟨h0, hs⟩ := ite_inv hs
    obtain ⟨rfl, rfl, rfl, rfl, rfl⟩ := nx_inv hs
    simp only [Nat.sub_self, Nat.add_zero] at k
    rw [hn] at k
    exact st_ldiv hx hb hE h0 hdec k
  case lrem =>
    replace hs : opL st (fun a b r => if 0 < b then nx npc L (pL (a.tmod b) :: r) G mi else none) = _ := hs
    obtain ⟨a, b, r, rfl, hs⟩ := opL_inv hs
    obtain ⟨h0, hs⟩ := ite_inv hs
    obtain ⟨rfl, rfl, rfl, rfl, rfl⟩ := nx_inv hs
    simp only [Nat.sub_self, Nat.add_zero] at k
    rw [hn] at k
    exact st_lrem hx hb hE h0 hdec k
  case ladd =>
    replace hs : opL st (fun a b r => nx npc L (pL (wl (a + b)) :: r) G mi) = _ := hs
    obtain ⟨a, b, r, rfl, hs⟩ := opL_inv hs
    obtain ⟨rfl, rfl, rfl, rfl, rfl⟩ := nx_inv hs
    simp only [Nat.sub_self, Nat.add_zero] at k
    rw [hn] at k
    exact st_ladd hx hb hE hdec k
  case lcmp =>
    replace hs : opL st (fun a b r => nx npc L (pI (cmpL a b) :: r) G mi) = _ := hs
    obtain ⟨a, b, r, rfl, hs⟩ := opL_inv hs
    obtain ⟨rfl, rfl, rfl, rfl, rfl⟩ := nx_inv hs
    simp only [Nat.sub_self, Nat.add_zero] at k
    rw [hn] at k
    exact st_lcmp hx hb hE hdec k
  case ineg =>
    replace hs : op1 st (fun a r => nx npc L (pI (wr (-a)) :: r) G mi) = _ := hs
    obtain ⟨a, r, rfl, hs⟩ := op1_inv hs
    obtain ⟨rfl, rfl, rfl, rfl, rfl⟩ := nx_inv hs
    simp only [Nat.sub_self, Nat.add_zero] at k
    rw [hn] at k
    exact st_ineg hx hb hE hdec k
  case i2l =>
    replace hs : op1 st (fun a r => nx npc L (pL a :: r) G mi) = _ := hs
    obtain ⟨a, r, rfl, hs⟩ := op1_inv hs
    obtain ⟨rfl, rfl, rfl, rfl, rfl⟩ := nx_inv hs
    simp only [Nat.sub_self, Nat.add_zero] at k
    rw [hn] at k
    exact st_i2l hx hb hE hdec k
  case i2b =>
    replace hs : op1 st (fun a r => nx npc L (pI (iB a) :: r) G mi) = _ := hs
    obtain ⟨a, r, rfl, hs⟩ := op1_inv hs
    obtain ⟨rfl, rfl, rfl, rfl, rfl⟩ := nx_inv hs
    simp only [Nat.sub_self, Nat.add_zero] at k
    rw [hn] at k
    exact st_i2b hx hb hE hdec k
  case i2c =>
    replace hs : op1 st (fun a r => if 0 ≤ a ∧ a < 65536 then nx npc L (pI a :: r) G mi else none) = _ := hs
    obtain ⟨a, r, rfl, hs⟩ := op1_inv hs
    obtain ⟨⟨h0, h1⟩, hs⟩ := ite_inv hs
    obtain ⟨rfl, rfl, rfl, rfl, rfl⟩ := nx_inv hs
    simp only [Nat.sub_self, Nat.add_zero] at k
    rw [hn] at k
    exact st_i2c hx hb hE h0 h1 hdec k
  case lneg =>
    replace hs : (match st with | .inr (.inl a) :: r => nx npc L (pL (wl (-a)) :: r) G mi | _ => none) = _ := hs
    split at hs
    · rename_i a r
      obtain ⟨rfl, rfl, rfl, rfl, rfl⟩ := nx_inv hs
      simp only [Nat.sub_self, Nat.add_zero] at k
      rw [hn] at k
      exact st_lneg hx hb hE hdec k
    · cases hs
  case dup =>
    replace hs : (match st with | .inr (.inl _) :: _ => none | v :: r => nx npc L (v :: v :: r) G mi | _ => none) = _ := hs
    split at hs
    · cases hs
    · rename_i v r hv
      obtain ⟨rfl, rfl, rfl, rfl, rfl⟩ := nx_inv hs
      simp only [Nat.sub_self, Nat.add_zero] at k
      rw [hn] at k
      exact st_dup hx hb hE (by match v, hv with | .inl _, _ => rfl | .inr (.inl q), hv => exact (hv q rfl).elim | .inr (.inr _), _ => rfl) hdec k
    · cases hs
  case pop =>
    replace hs : (match st with | .inr (.inl _) :: _ => none | _ :: r => nx npc L r G mi | _ => none) = _ := hs
    split at hs
    · cases hs
    · rename_i v r hv
      obtain ⟨rfl, rfl, rfl, rfl, rfl⟩ := nx_inv hs
      simp only [Nat.sub_self, Nat.add_zero] at k
      rw [hn] at k
      exact st_pop hx hb hE (by match v, hv with | .inl _, _ => rfl | .inr (.inl q), hv => exact (hv q rfl).elim | .inr (.inr _), _ => rfl) hdec k
    · cases hs
  case dup2 =>
    replace hs : (match st with | .inl b :: .inr (.inr a) :: r => nx npc L (.inl b :: .inr (.inr a) :: .inl b :: .inr (.inr a) :: r) G mi | _ => none) = _ := hs
    split at hs
    · rename_i b a r
      obtain ⟨rfl, rfl, rfl, rfl, rfl⟩ := nx_inv hs
      simp only [Nat.sub_self, Nat.add_zero] at k
      rw [hn] at k
      exact st_dup2 hx hb hE rfl rfl hdec k
    · cases hs
  case goto off =>
    simp only [chkI, tgtB, decide_eq_true_eq] at hc
    replace hs : nx (ia aux) L st G mi = _ := hs
    obtain ⟨rfl, rfl, rfl, rfl, rfl⟩ := nx_inv hs
    simp only [Nat.sub_self, Nat.add_zero] at k
    exact st_goto hx hb hE hc hdec k
  case if_icmp cc off =>
    simp only [chkI, tgtB, decide_eq_true_eq] at hc
    replace hs : op2 st (fun a b r => nx (if cmpC cc a b = true then ia aux else npc) L r G mi) = _ := hs
    obtain ⟨a, b, r, rfl, hs⟩ := op2_inv hs
    obtain ⟨rfl, rfl, rfl, rfl, rfl⟩ := nx_inv hs
    simp only [Nat.sub_self, Nat.add_zero] at k
    rw [hn] at k
    cases cc
    · exact st_icmp_eq hx hb hE hc hdec k
    · exact st_icmp_ne hx hb hE hc hdec k
    · exact st_icmp_lt hx hb hE hc hdec k
    · exact st_icmp_ge hx hb hE hc hdec k
    · exact st_icmp_gt hx hb hE hc hdec k
    · exact st_icmp_le hx hb hE hc hdec k
  case ifCond cc off =>
    simp only [chkI, tgtB, decide_eq_true_eq] at hc
    replace hs : op1 st (fun a r => nx (if cmpC cc a 0 = true then ia aux else npc) L r G mi) = _ := hs
    obtain ⟨a, r, rfl, hs⟩ := op1_inv hs
    obtain ⟨rfl, rfl, rfl, rfl, rfl⟩ := nx_inv hs
    simp only [Nat.sub_self, Nat.add_zero] at k
    rw [hn] at k
    cases cc
    · exact st_if_eq hx hb hE hc hdec k
    · exact st_if_ne hx hb hE hc hdec k
    · exact st_if_lt hx hb hE hc hdec k
    · exact st_if_ge hx hb hE hc hdec k
    · exact st_if_gt hx hb hE hc hdec k
    · exact st_if_le hx hb hE hc hdec k
  case ifnull off =>
    simp only [chkI, tgtB, decide_eq_true_eq] at hc
    replace hs : (match st with | .inr (.inr (.inl ro)) :: r => nx (if ro = none then ia aux else npc) L r G mi | _ => none) = _ := hs
    split at hs
    · rename_i ro r
      obtain ⟨rfl, rfl, rfl, rfl, rfl⟩ := nx_inv hs
      simp only [Nat.sub_self, Nat.add_zero] at k
      rw [hn] at k
      exact st_ifnull hx hb hE hc hdec k
    · cases hs
  case ifnonnull off =>
    simp only [chkI, tgtB, decide_eq_true_eq] at hc
    replace hs : (match st with | .inr (.inr (.inl ro)) :: r => nx (if ro = none then npc else ia aux) L r G mi | _ => none) = _ := hs
    split at hs
    · rename_i ro r
      obtain ⟨rfl, rfl, rfl, rfl, rfl⟩ := nx_inv hs
      simp only [Nat.sub_self, Nat.add_zero] at k
      rw [hn] at k
      exact st_ifnonnull hx hb hE hc hdec k
    · cases hs
  case tableswitch dd lo hi offs =>
    simp only [chkI, Bool.and_eq_true, decide_eq_true_eq, List.all_eq_true] at hc
    obtain ⟨⟨⟨hc1, hc2⟩, hc3⟩, hc4⟩ := hc
    replace hs : op1 st (fun a r => nx (swL a (a0 aux) (aux.drop 1)).toNat L r G mi) = _ := hs
    obtain ⟨a, r, rfl, hs⟩ := op1_inv hs
    obtain ⟨rfl, rfl, rfl, rfl, rfl⟩ := nx_inv hs
    simp only [Nat.sub_self, Nat.add_zero] at k
    rw [hc1] at k
    rw [show a0 (((pc : Int) + dd) :: swT pc lo offs.toList) = (pc : Int) + dd from rfl, show (((pc : Int) + dd) :: swT pc lo offs.toList).drop 1 = swT pc lo offs.toList from rfl, swT_spec] at k
    intro ls H locs hI hL hO hS
    obtain ⟨h1, hS2⟩ := List.forall_mem_cons.mp hS
    have hto := of_to h1
    have hlen : (offs.toList.length : Int) = offs.size := by simp
    by_cases hin : lo ≤ a ∧ a < lo + offs.toList.length
    · rw [if_pos hin] at k
      have hlt : (a - lo).toNat < offs.toList.length := by omega
      have hm : offs.toList.getD (a - lo).toNat 0 ∈ offs.toList := by rw [List.getD_eq_getElem?_getD, List.getElem?_eq_getElem hlt]; exact List.getElem_mem hlt
      have hnn := hc4 _ hm
      refine lv_tableIn (off := offs.toList.getD (a - lo).toNat 0) hx hb hdec (by rw [hto]; omega) (by rw [hto]; omega) ?_ ?_ (k ls H locs hI hL hO hS2)
      · rw [hto, ← Array.getElem?_toList, List.getD_eq_getElem?_getD, List.getElem?_eq_getElem hlt]
        rfl
      · exact (Int.toNat_of_nonneg hnn).symm
    · rw [if_neg hin] at k
      refine lv_tableOut hx hb hdec (by rw [hto]; omega) ?_ (k ls H locs hI hL hO hS2)
      exact (Int.toNat_of_nonneg hc3).symm
  case lookupswitch dd ps =>
    simp only [chkI, Bool.and_eq_true, decide_eq_true_eq] at hc
    obtain ⟨⟨⟨hc1, hc2⟩, hc3⟩, hc4⟩ := hc
    replace hs : op1 st (fun a r => nx (swL a (a0 aux) (aux.drop 1)).toNat L r G mi) = _ := hs
    obtain ⟨a, r, rfl, hs⟩ := op1_inv hs
    obtain ⟨rfl, rfl, rfl, rfl, rfl⟩ := nx_inv hs
    simp only [Nat.sub_self, Nat.add_zero] at k
    rw [hc1] at k
    rw [show a0 (((pc : Int) + dd) :: lkT pc ps.toList) = (pc : Int) + dd from rfl, show (((pc : Int) + dd) :: lkT pc ps.toList).drop 1 = lkT pc ps.toList from rfl, lkT_spec] at k
    intro ls H locs hI hL hO hS
    obtain ⟨h1, hS2⟩ := List.forall_mem_cons.mp hS
    have hto := of_to h1
    have key : ∀ (l : List (Int × Int)), (∀ q ∈ l, (0 : Int) ≤ (pc : Int) + q.2) → 0 ≤ (pc : Int) + Op.lookupswitch.offset l dd a := by
      intro l
      induction l with
      | nil => intro _; exact hc3
      | cons q l ih =>
        intro hq
        obtain ⟨v, t⟩ := q
        rw [Op.lookupswitch.offset_cons]
        split
        · exact hq (v, t) List.mem_cons_self
        · exact ih fun z hz => hq z (List.mem_cons_of_mem _ hz)
    have hnn := key ps.toList (fun q hq => by simpa using List.all_eq_true.mp hc4 q hq)
    exact lv_lookup hx hb hdec hc2 (by rw [hto]) (Int.toNat_of_nonneg hnn).symm (k ls H locs hI hL hO hS2)
  case getfield i =>
    simp only [chkI, getB, Bool.and_eq_true, List.all_eq_true, Bool.or_eq_true, decide_eq_true_eq] at hc
    obtain ⟨⟨g3, g4⟩, g5⟩ := hc
    replace hs : (match st with
        | .inr (.inr (.inl (some o))) :: r => if ((gK G o).1 : Int) ∈ aux.drop 2 then (if a1 aux = 1 then nx npc L (pR (gR G o (a0 aux)) :: r) G mi else nx npc L (pI (mi o (a0 aux)) :: r) G mi) else none
        | .inr (.inr (.inr e)) :: r => if rcv G (pE e) = 500 ∧ a1 aux = 3 then nx npc L (pE (e + 1) :: r) G mi else if rcv G (pE e) = 500 ∧ a1 aux = 4 then nx npc L (pI 0 :: r) G mi else none
        | _ => none) = _ := hs
    split at hs
    · rename_i o r
      obtain ⟨hmem, hs⟩ := ite_inv hs
      intro ls H locs hI hL hO hS
      have hk22 := hI.1.2.2.2.1 o
      obtain ⟨ci, kk, ref, f1, f2, f3, f4, f5, f6, f7, f8, f9⟩ := fldB_spec hts ((g5 _ hmem).resolve_left (by omega))
      by_cases h1 : a1 aux = 1
      · rw [if_pos h1] at hs
        obtain ⟨rfl, rfl, rfl, rfl, rfl⟩ := nx_inv hs
        simp only [Nat.sub_self, Nat.add_zero] at k
        rw [hn, f3] at k
        exact st_gfr hx hb hE hts hown f1 f2 f4 f8 f9 (by rw [f5]; exact decide_eq_true h1) hdec k ls H locs hI hL hO hS
      · rw [if_neg h1] at hs
        obtain ⟨rfl, rfl, rfl, rfl, rfl⟩ := nx_inv hs
        simp only [Nat.sub_self, Nat.add_zero] at k
        rw [hn, f3] at k
        exact st_gfi hx hb hE hts hown f1 f2 f4 f8 f9 (by rw [f5]; exact decide_eq_false h1) hdec k ls H locs hI hL hO hS
    · rename_i e0 r
      have hr : ∀ z, rcv G (pE e0) = 500 ∧ z → ∃ q, q < sTexts.length ∧ e0 = 2 * q + 1 := by
        rintro z ⟨h1, -⟩
        have h1 : (if e0 % 2 = 1 ∧ e0 < 2 * sTexts.length then (500 : Int) else -1) = 500 := h1
        by_cases h2 : e0 % 2 = 1 ∧ e0 < 2 * sTexts.length
        · exact ⟨e0 / 2, by omega, by omega⟩
        · rw [if_neg h2] at h1; omega
      by_cases h3 : rcv G (pE e0) = 500 ∧ a1 aux = 3
      · rw [if_pos h3] at hs
        obtain ⟨q, hq, rfl⟩ := hr _ h3
        obtain ⟨rfl, rfl, rfl, rfl, rfl⟩ := nx_inv hs
        simp only [Nat.sub_self, Nat.add_zero] at k
        rw [hn] at k
        exact st_gfS hx hb hE hts hown hq (hts _ (wIn_mem (g3.resolve_left (fun z => z h3.2)))) hdec k
      · rw [if_neg h3] at hs
        have h5 := ite_inv hs
        clear hs
        obtain ⟨h4, hs⟩ := h5
        obtain ⟨q, hq, rfl⟩ := hr _ h4
        obtain ⟨rfl, rfl, rfl, rfl, rfl⟩ := nx_inv hs
        simp only [Nat.sub_self, Nat.add_zero] at k
        rw [hn] at k
        exact st_gfC hx hb hE hts hown hq (hts _ (wIn_mem (g4.resolve_left (fun z => z h4.2)))) hdec k
    · cases hs
  case putfield i =>
    simp only [chkI, putB, List.all_eq_true, Bool.and_eq_true, Bool.or_eq_true, decide_eq_true_eq] at hc
    replace hs : (match st with
        | .inl v :: .inr (.inr (.inl (some o))) :: r => if ((gK G o).1 : Int) ∈ aux.drop 2 ∧ (a1 aux = 0 ∨ a1 aux = 2 ∧ 0 ≤ v ∧ v ≤ 1) then nx npc L r G (up mi o (a0 aux) v) else none
        | .inr (.inr (.inl v)) :: .inr (.inr (.inl (some o))) :: r => if ((gK G o).1 : Int) ∈ aux.drop 2 ∧ a1 aux = 1 then nx npc L r (setR G o (a0 aux) v) mi else none
        | _ => none) = _ := hs
    split at hs
    · rename_i v o r
      obtain ⟨⟨hmem, hbo⟩, hs⟩ := ite_inv hs
      obtain ⟨h5, h6⟩ := hc _ hmem
      obtain ⟨ci, kk, ref, f1, f2, f3, f4, f5, f6, f7, f8, f9⟩ := fldB_spec hts h5
      have e1 : (((gK G o).1 : Nat) : Int).toNat - 1 = ci := by omega
      have e2 : (a0 aux).toNat = kk := by omega
      rw [e1, e2] at h6
      obtain ⟨rfl, rfl, rfl, rfl, rfl⟩ := nx_inv hs
      simp only [Nat.sub_self, Nat.add_zero] at k
      rw [hn, f3] at k
      refine st_pfi hx hb hE hts hown f1 f2 f4 f8 f9 (by rw [f5]; exact decide_eq_false (by omega)) (by rw [hnm]; exact h6) (fun hty => ?_) hdec k
      rcases hbo with h0 | h2
      · have := f6 h0
        rw [this] at hty
        cases hty
      · exact h2.2
    · rename_i v o r
      obtain ⟨⟨hmem, hbo⟩, hs⟩ := ite_inv hs
      obtain ⟨h5, h6⟩ := hc _ hmem
      obtain ⟨ci, kk, ref, f1, f2, f3, f4, f5, f6, f7, f8, f9⟩ := fldB_spec hts h5
      have e1 : (((gK G o).1 : Nat) : Int).toNat - 1 = ci := by omega
      have e2 : (a0 aux).toNat = kk := by omega
      rw [e1, e2] at h6
      obtain ⟨rfl, rfl, rfl, rfl, rfl⟩ := nx_inv hs
      have k : WC X p l e R s m args below meth c Q nL (npc) (L) (r) (setR G o (a0 aux) v) (mi) (cells) (slots) := by
        have q1 : gN (setR G o (a0 aux) v) - gN G = 0 := Nat.sub_self _
        have q2 : gS (setR G o (a0 aux) v) - gS G = 0 := Nat.sub_self _
        rw [q1, q2] at k
        exact k
      rw [hn, f3] at k
      exact st_pfr hx hb hE hts hown f1 f2 f4 f8 f9 (by rw [f5]; exact decide_eq_true hbo) (by rw [hnm]; exact h6) hdec k
    · cases hs
  case getstatic i =>
    simp only [chkI] at hc
    replace hs : (if a0 aux = 0 then nx npc L (pI 1 :: st) G mi else nx npc L (pE 1000 :: st) G mi) = _ := hs
    by_cases h0 : a0 aux = 0
    · rw [if_pos h0] at hs hc
      obtain ⟨rfl, rfl, rfl, rfl, rfl⟩ := nx_inv hs
      simp only [Nat.sub_self, Nat.add_zero] at k
      rw [hn] at k
      exact st_gs0 hx hb hE hts hown (hts _ (wIn_mem hc)) hdec k
    · rw [if_neg h0] at hs hc
      obtain ⟨rfl, rfl, rfl, rfl, rfl⟩ := nx_inv hs
      simp only [Nat.sub_self, Nat.add_zero] at k
      rw [hn] at k
      exact st_gs1 hx hb hE hts hown (hts _ (wIn_mem hc)) hdec k
  case arraylength =>
    replace hs : (match st with
        | .inr (.inr (.inl (some o))) :: r => if 20 ≤ (gK G o).1 then nx npc L (pI (gK G o).2 :: r) G mi else none
        | .inr (.inr (.inr e)) :: r => if e = 0 then nx npc L (pI (gL G) :: r) G mi else if e % 2 = 0 ∧ e ≤ 2 * sTexts.length then nx npc L (pI (sBytes (e / 2 - 1)).length :: r) G mi else none
        | _ => none) = _ := hs
    split at hs
    · rename_i o r
      obtain ⟨h1, hs⟩ := ite_inv hs
      obtain ⟨rfl, rfl, rfl, rfl, rfl⟩ := nx_inv hs
      simp only [Nat.sub_self, Nat.add_zero] at k
      rw [hn] at k
      exact st_alen hx hb hE hts hown h1 hdec k
    · rename_i e0 r
      by_cases h0 : e0 = 0
      · rw [if_pos h0] at hs
        subst h0
        obtain ⟨rfl, rfl, rfl, rfl, rfl⟩ := nx_inv hs
        simp only [Nat.sub_self, Nat.add_zero] at k
        rw [hn] at k
        exact st_alenS hx hb hE hts hown hdec k
      · rw [if_neg h0] at hs
        obtain ⟨⟨h1, h2⟩, hs⟩ := ite_inv hs
        obtain ⟨q, rfl⟩ : ∃ q, e0 = 2 * q + 2 := ⟨e0 / 2 - 1, by omega⟩
        obtain ⟨rfl, rfl, rfl, rfl, rfl⟩ := nx_inv hs
        simp only [Nat.sub_self, Nat.add_zero] at k
        rw [hn, show (2 * q + 2) / 2 - 1 = q by omega] at k
        exact st_alenB hx hb hE hts hown (by omega) hdec k
    · cases hs
  case iaload =>
    replace hs : (match st with
        | .inl i :: .inr (.inr (.inl (some o))) :: r => if (gK G o).1 = 20 ∧ 0 ≤ i ∧ i < (gK G o).2 then nx npc L (pI (mi o i) :: r) G mi else none
        | .inl i :: .inr (.inr (.inr 0)) :: r => if 0 ≤ i ∧ i < gL G then nx npc L (pI (gX G i) :: r) G mi else none
        | _ => none) = _ := hs
    split at hs
    · rename_i i o r
      obtain ⟨⟨h1, h2, h3⟩, hs⟩ := ite_inv hs
      obtain ⟨rfl, rfl, rfl, rfl, rfl⟩ := nx_inv hs
      simp only [Nat.sub_self, Nat.add_zero] at k
      rw [hn] at k
      exact st_iaload hx hb hE hts hown h1 h2 h3 hdec k
    · rename_i i r
      obtain ⟨⟨h2, h3⟩, hs⟩ := ite_inv hs
      obtain ⟨rfl, rfl, rfl, rfl, rfl⟩ := nx_inv hs
      simp only [Nat.sub_self, Nat.add_zero] at k
      rw [hn] at k
      exact st_ialdS hx hb hE hts hown h2 h3 hdec k
    · cases hs
  case baload =>
    replace hs : (match st with
        | .inl i :: .inr (.inr (.inl (some o))) :: r => if (gK G o).1 = 21 ∧ 0 ≤ i ∧ i < (gK G o).2 then nx npc L (pI (mi o i) :: r) G mi else none
        | .inl i :: .inr (.inr (.inr e)) :: r => if e % 2 = 0 ∧ 0 < e ∧ e ≤ 2 * sTexts.length ∧ 0 ≤ i ∧ i < (sBytes (e / 2 - 1)).length then nx npc L (pI ((sBytes (e / 2 - 1)).getD i.toNat 0) :: r) G mi else none
        | _ => none) = _ := hs
    split at hs
    · rename_i i o r
      obtain ⟨⟨h1, h2, h3⟩, hs⟩ := ite_inv hs
      obtain ⟨rfl, rfl, rfl, rfl, rfl⟩ := nx_inv hs
      simp only [Nat.sub_self, Nat.add_zero] at k
      rw [hn] at k
      exact st_baload hx hb hE hts hown h1 h2 h3 hdec k
    · rename_i i e0 r
      obtain ⟨⟨g1, g2, g3, h2, h3⟩, hs⟩ := ite_inv hs
      obtain ⟨rfl, rfl, rfl, rfl, rfl⟩ := nx_inv hs
      simp only [Nat.sub_self, Nat.add_zero] at k
      rw [hn] at k
      obtain ⟨q, rfl⟩ : ∃ q, e0 = 2 * q + 2 := ⟨e0 / 2 - 1, by omega⟩
      rw [show (2 * q + 2) / 2 - 1 = q by omega] at k h3
      exact st_baldB hx hb hE hts hown (by omega) h2 h3 hdec k
    · cases hs
  case aaload =>
    replace hs : (match st with | .inl i :: .inr (.inr (.inl (some o))) :: r => if (gK G o).1 = 22 ∧ 0 ≤ i ∧ i < (gK G o).2 then nx npc L (pR (gR G o i) :: r) G mi else none | _ => none) = _ := hs
    split at hs
    · rename_i i o r
      obtain ⟨⟨h1, h2, h3⟩, hs⟩ := ite_inv hs
      obtain ⟨rfl, rfl, rfl, rfl, rfl⟩ := nx_inv hs
      simp only [Nat.sub_self, Nat.add_zero] at k
      rw [hn] at k
      exact st_aaload hx hb hE hts hown h1 h2 h3 hdec k
    · cases hs
  case iastore =>
    replace hs : (match st with | .inl v :: .inl i :: .inr (.inr (.inl (some o))) :: r => if (gK G o).1 = 20 ∧ 0 ≤ i ∧ i < (gK G o).2 then nx npc L r G (up mi o i v) else none | _ => none) = _ := hs
    split at hs
    · rename_i v i o r
      obtain ⟨⟨h1, h2, h3⟩, hs⟩ := ite_inv hs
      obtain ⟨rfl, rfl, rfl, rfl, rfl⟩ := nx_inv hs
      simp only [Nat.sub_self, Nat.add_zero] at k
      rw [hn] at k
      exact st_iastore hx hb hE hts hown h1 h2 h3 hdec k
    · cases hs
  case bastore =>
    replace hs : (match st with | .inl v :: .inl i :: .inr (.inr (.inl (some o))) :: r => if (gK G o).1 = 21 ∧ 0 ≤ i ∧ i < (gK G o).2 ∧ 0 ≤ v ∧ v ≤ 1 then nx npc L r G (up mi o i v) else none | _ => none) = _ := hs
    split at hs
    · rename_i v i o r
      obtain ⟨⟨h1, h2, h3, h4, h5⟩, hs⟩ := ite_inv hs
      obtain ⟨rfl, rfl, rfl, rfl, rfl⟩ := nx_inv hs
      simp only [Nat.sub_self, Nat.add_zero] at k
      rw [hn] at k
      exact st_bastore hx hb hE hts hown h1 h2 h3 h4 h5 hdec k
    · cases hs
  case aastore =>
    replace hs : (match st with | .inr (.inr (.inl v)) :: .inl i :: .inr (.inr (.inl (some o))) :: r => if (gK G o).1 = 22 ∧ 0 ≤ i ∧ i < (gK G o).2 ∧ thgO G v = true then nx npc L r (setR G o i v) mi else none | _ => none) = _ := hs
    split at hs
    · rename_i v i o r
      obtain ⟨⟨h1, h2, h3, h4⟩, hs⟩ := ite_inv hs
      cases v with
      | none => cases h4
      | some v =>
        obtain ⟨rfl, rfl, rfl, rfl, rfl⟩ := nx_inv hs
        have k : WC X p l e R s m args below meth c Q nL (npc) (L) (r) (setR G o i (some v)) (mi) (cells) (slots) := by
          have q1 : gN (setR G o i (some v)) - gN G = 0 := Nat.sub_self _
          have q2 : gS (setR G o i (some v)) - gS G = 0 := Nat.sub_self _
          rw [q1, q2] at k
          exact k
        rw [hn] at k
        exact st_aastore hx hb hE hts hown h1 h2 h3 h4 hdec k
    · cases hs
  case new i =>
    simp only [chkI, newB, Bool.and_eq_true, decide_eq_true_eq] at hc
    obtain ⟨⟨⟨⟨⟨c1, c2⟩, c3⟩, c4⟩, c5⟩, c6⟩ := hc
    replace hs : nx npc L (pR (some (gN G)) :: st) (newG G ((a0 aux).toNat, 0) (a1 aux).toNat) (newM G mi) = _ := hs
    obtain ⟨ci, hci⟩ : ∃ ci, (a0 aux).toNat = ci + 1 := ⟨(a0 aux).toNat - 1, by omega⟩
    rw [hci, Nat.add_sub_cancel] at c3 c4 c5 c6
    rw [hci, c3, Int.toNat_natCast] at hs
    obtain ⟨rfl, rfl, rfl, rfl, rfl⟩ := nx_inv hs
    have q1 : gN (newG G (ci + 1, 0) (clN ci)) - gN G = 1 := Nat.add_sub_cancel_left ..
    have q2 : gS (newG G (ci + 1, 0) (clN ci)) - gS G = clN ci := Nat.add_sub_cancel_left ..
    rw [q1, q2] at k
    rw [q1] at hcell
    rw [q2] at hslot
    rw [hn] at k
    exact st_new hx hb hE hts hown hxb hcs (by omega) (hts _ (wIn_mem c4)) (hts _ (wIn_mem c5)) (hts _ (wIn_mem c6)) hcell hslot hdec k
  case newarray t =>
    simp only [chkI, Bool.and_eq_true, Bool.or_eq_true, decide_eq_true_eq] at hc
    replace hs : op1 st (fun n r => if 0 ≤ n ∧ n < 100000 then nx npc L (pR (some (gN G)) :: r) (newG G ((a0 aux).toNat, n.toNat) n.toNat) (newM G mi) else none) = _ := hs
    obtain ⟨a, r, rfl, hs⟩ := op1_inv hs
    obtain ⟨⟨h1, h2⟩, hs⟩ := ite_inv hs
    obtain ⟨(⟨rfl, e1⟩ | ⟨rfl, e1⟩), c2⟩ := hc
    · rw [e1] at hs
      obtain ⟨rfl, rfl, rfl, rfl, rfl⟩ := nx_inv hs
      have q1 : gN (newG G ((20 : Int).toNat, a.toNat) a.toNat) - gN G = 1 := Nat.add_sub_cancel_left ..
      have q2 : gS (newG G ((20 : Int).toNat, a.toNat) a.toNat) - gS G = a.toNat := Nat.add_sub_cancel_left ..
      rw [q1, q2] at k
      rw [q1] at hcell
      rw [q2] at hslot
      rw [hn] at k
      exact st_newai hx hb hE hts hown hxb hcs (hts _ (wIn_mem c2)) h1 h2 hcell hslot hdec k
    · rw [e1] at hs
      obtain ⟨rfl, rfl, rfl, rfl, rfl⟩ := nx_inv hs
      have q1 : gN (newG G ((21 : Int).toNat, a.toNat) a.toNat) - gN G = 1 := Nat.add_sub_cancel_left ..
      have q2 : gS (newG G ((21 : Int).toNat, a.toNat) a.toNat) - gS G = a.toNat := Nat.add_sub_cancel_left ..
      rw [q1, q2] at k
      rw [q1] at hcell
      rw [q2] at hslot
      rw [hn] at k
      exact st_newaz hx hb hE hts hown hxb hcs (hts _ (wIn_mem c2)) h1 h2 hcell hslot hdec k
  case anewarray i =>
    simp only [chkI] at hc
    replace hs : op1 st (fun n r => if 0 ≤ n ∧ n < 100000 then nx npc L (pR (some (gN G)) :: r) (newG G (22, n.toNat) n.toNat) (newM G mi) else none) = _ := hs
    obtain ⟨a, r, rfl, hs⟩ := op1_inv hs
    obtain ⟨⟨h1, h2⟩, hs⟩ := ite_inv hs
    obtain ⟨rfl, rfl, rfl, rfl, rfl⟩ := nx_inv hs
    have q1 : gN (newG G (22, a.toNat) a.toNat) - gN G = 1 := Nat.add_sub_cancel_left ..
    have q2 : gS (newG G (22, a.toNat) a.toNat) - gS G = a.toNat := Nat.add_sub_cancel_left ..
    rw [q1, q2] at k
    rw [q1] at hcell
    rw [q2] at hslot
    rw [hn] at k
    exact st_anewa hx hb hE hts hown hxb hcs (hts _ (wIn_mem hc)) h1 h2 hcell hslot hdec k
  case instanceof i =>
    simp only [chkI, instB, List.any_eq_true, Bool.and_eq_true, decide_eq_true_eq, List.all_eq_true, Bool.or_eq_true] at hc
    obtain ⟨q, hq, ⟨⟨q1, q2⟩, q3⟩, q4⟩ := hc
    replace hs : (match st with | .inr (.inr (.inl (some o))) :: r => if thg (gK G o).1 = true then nx npc L (pI (if ((gK G o).1 : Int) ∈ aux then 1 else 0) :: r) G mi else none | _ => none) = _ := hs
    split at hs
    · rename_i o r
      obtain ⟨h1, hs⟩ := ite_inv hs
      obtain ⟨rfl, rfl, rfl, rfl, rfl⟩ := nx_inv hs
      simp only [Nat.sub_self, Nat.add_zero] at k
      rw [hn] at k
      obtain ⟨l1, l2⟩ := thg_lt h1
      obtain ⟨ci, hci⟩ : ∃ ci, (gK G o).1 = ci + 1 := ⟨(gK G o).1 - 1, by omega⟩
      have h4 := (q4 ci (List.mem_range.mpr (by omega))).resolve_left (by rw [← hci, h1]; decide)
      rw [← hci] at h4
      refine st_inst hx hb hE hts hown hci (by omega) (hts _ (wIn_mem q3)) ?_ hdec k
      by_cases hm : ((gK G o).1 : Int) ∈ aux
      · rw [if_pos hm] at h4 ⊢
        simp only [Bool.or_eq_true, decide_eq_true_eq] at h4
        exact Or.inl ⟨rfl, h4⟩
      · rw [if_neg hm] at h4 ⊢
        simp only [decide_eq_true_eq] at h4
        exact Or.inr ⟨rfl, h4⟩
    · cases hs
  case invokevirtual i =>
    exfalso
    replace hs : (match (takeA (ia aux) st).2 with
        | v :: r => (match dsp (rcv G v) (aux.drop 1) with
          | some y => if rOK r = true then some (.inr (y.toNat, v :: (takeA (ia aux) st).1, r)) else none
          | none => none)
        | [] => none) = some (Sum.inl _) := hs
    split at hs
    · split at hs
      · obtain ⟨-, hs⟩ := ite_inv hs
        cases hs
      · cases hs
    · cases hs
  case invokespecial i =>
    simp only [chkI] at hc
    replace hs : (if a0 aux = 0 then (match st with
          | .inr (.inr (.inl (some _))) :: r => if 1 ≤ d ∧ rOK r = true then nx npc L r G mi else none
          | _ => none) else (match (takeA (a1 aux).toNat st).2 with
        | v :: r => if (a0 aux = 1 ∨ rcv G v ∈ aux.drop 3) ∧ isR v = true ∧ rOK r = true then some (.inr ((a2 aux).toNat, v :: (takeA (a1 aux).toNat st).1, r)) else none
        | [] => none)) = some (Sum.inl _) := hs
    by_cases h0 : a0 aux = 0
    · rw [if_pos h0] at hs hc
      simp only [Bool.and_eq_true] at hc
      split at hs
      · rename_i o r
        obtain ⟨⟨h1, h2⟩, hs⟩ := ite_inv hs
        obtain ⟨rfl, rfl, rfl, rfl, rfl⟩ := nx_inv hs
        simp only [Nat.sub_self, Nat.add_zero] at k
        rw [hn] at k
        intro ls H locs hI hL hO hS
        have hsum := rOK_sum hE h2
        exact W.objInit hx hb hown (hts _ (wIn_mem hc.1.1)) (hts _ (wIn_mem hc.1.2)) (hts _ (wIn_mem hc.2)) rfl (by rw [hml, ← hnL]; exact hL.1.1) rfl hdec (by omega) (by show 2 * 0 + _ + 12 ≤ _; omega) (k ls H locs hI hL hO (List.forall_mem_cons.mp hS).2)
      · cases hs
    · rw [if_neg h0] at hs
      exfalso
      split at hs
      · obtain ⟨-, hs⟩ := ite_inv hs
        cases hs
      · cases hs
  case invokestatic i =>
    simp only [chkI] at hc
    simp only [sI] at hs
    by_cases hz0 : a0 aux = 0
    · exfalso
      rw [if_neg (by omega), if_neg (by omega), if_neg (by omega), if_neg (by omega)] at hs
      obtain ⟨-, hs⟩ := ite_inv hs
      cases hs
    rw [if_neg hz0] at hc
    by_cases hz1 : a0 aux = 1
    · exfalso
      rw [if_neg (by omega), if_neg (by omega), if_neg (by omega), if_neg (by omega)] at hs
      obtain ⟨-, hs⟩ := ite_inv hs
      cases hs
    rw [if_neg hz1] at hc
    by_cases h2 : a0 aux = 2
    · rw [if_pos h2] at hs hc
      simp only [matB, Bool.and_eq_true] at hc
      obtain ⟨⟨⟨c1, c2⟩, c3⟩, c4⟩ := hc
      obtain ⟨a, b, r, rfl, hs⟩ := op2_inv hs
      obtain ⟨⟨h8, h9⟩, hs⟩ := ite_inv hs
      obtain ⟨rfl, rfl, rfl, rfl, rfl⟩ := nx_inv hs
      simp only [Nat.sub_self, Nat.add_zero] at k
      rw [hn] at k
      intro ls H locs hI hL hO hS
      obtain ⟨b1, hS1⟩ := List.forall_mem_cons.mp hS
      obtain ⟨b2, hS2⟩ := List.forall_mem_cons.mp hS1
      have hsum := rOK_sum hE h9
      refine va_mmax hx hb (by rw [hml, ← hnL]; exact hL.1.1.symm) hown (hts _ (wIn_mem c1)) (hts _ (wIn_mem c2)) (hts _ (wIn_mem c3)) (hts _ (wIn_mem c4)) (by omega) (by omega) (by simpa using hcell) (by simpa using hslot) hdec ?_
      have kk := k ls H locs hI hL hO (List.forall_mem_cons.mpr ⟨by show in32 (if _ then _ else _); split; exact b1; exact b2, hS2⟩)
      rw [List.map_cons] at kk
      have e1 : trV X (pI (if a < b then b else a)) = .int (if Int32.ofInt a < Int32.ofInt b then Int32.ofInt b else Int32.ofInt a) := by
        show Value.int _ = _
        by_cases hab : a < b
        · rw [if_pos hab, if_pos ((of_lt b2 b1).mpr hab)]
        · rw [if_neg hab, if_neg (fun z => hab ((of_lt b2 b1).mp z))]
      rw [e1] at kk
      exact kk
    rw [if_neg h2] at hs hc
    by_cases h3 : a0 aux = 3
    · rw [if_pos h3] at hs hc
      simp only [matB, Bool.and_eq_true] at hc
      obtain ⟨⟨⟨c1, c2⟩, c3⟩, c4⟩ := hc
      obtain ⟨a, b, r, rfl, hs⟩ := op2_inv hs
      obtain ⟨⟨h8, h9⟩, hs⟩ := ite_inv hs
      obtain ⟨rfl, rfl, rfl, rfl, rfl⟩ := nx_inv hs
      simp only [Nat.sub_self, Nat.add_zero] at k
      rw [hn] at k
      intro ls H locs hI hL hO hS
      obtain ⟨b1, hS1⟩ := List.forall_mem_cons.mp hS
      obtain ⟨b2, hS2⟩ := List.forall_mem_cons.mp hS1
      have hsum := rOK_sum hE h9
      refine va_mmin hx hb (by rw [hml, ← hnL]; exact hL.1.1.symm) hown (hts _ (wIn_mem c1)) (hts _ (wIn_mem c2)) (hts _ (wIn_mem c3)) (hts _ (wIn_mem c4)) (by omega) (by omega) (by simpa using hcell) (by simpa using hslot) hdec ?_
      have kk := k ls H locs hI hL hO (List.forall_mem_cons.mpr ⟨by show in32 (if _ then _ else _); split; exact b1; exact b2, hS2⟩)
      rw [List.map_cons] at kk
      have e1 : trV X (pI (if b < a then b else a)) = .int (if Int32.ofInt b < Int32.ofInt a then Int32.ofInt b else Int32.ofInt a) := by
        show Value.int _ = _
        by_cases hab : b < a
        · rw [if_pos hab, if_pos ((of_lt b1 b2).mpr hab)]
        · rw [if_neg hab, if_neg (fun z => hab ((of_lt b1 b2).mp z))]
      rw [e1] at kk
      exact kk
    rw [if_neg h3] at hs hc
    by_cases h4 : a0 aux = 4
    · rw [if_pos h4] at hs hc
      simp only [matB, Bool.and_eq_true] at hc
      obtain ⟨⟨⟨c1, c2⟩, c3⟩, c4⟩ := hc
      obtain ⟨a, r, rfl, hs⟩ := op1_inv hs
      obtain ⟨⟨h8, h9⟩, hs⟩ := ite_inv hs
      obtain ⟨rfl, rfl, rfl, rfl, rfl⟩ := nx_inv hs
      simp only [Nat.sub_self, Nat.add_zero] at k
      rw [hn] at k
      intro ls H locs hI hL hO hS
      obtain ⟨b1, hS2⟩ := List.forall_mem_cons.mp hS
      have hsum := rOK_sum hE h9
      refine va_mabs hx hb (by rw [hml, ← hnL]; exact hL.1.1.symm) hown (hts _ (wIn_mem c1)) (hts _ (wIn_mem c2)) (hts _ (wIn_mem c3)) (hts _ (wIn_mem c4)) (by omega) (by omega) (by simpa using hcell) (by simpa using hslot) hdec ?_
      have kk := k ls H locs hI hL hO (List.forall_mem_cons.mpr ⟨by show in32 (if _ then _ else _); split; exact b1; exact wr_in _, hS2⟩)
      rw [List.map_cons] at kk
      have e1 : trV X (pI (if 0 ≤ a then a else wr (0 - a))) = .int (if 0 ≤ Int32.ofInt a then Int32.ofInt a else 0 - Int32.ofInt a) := by
        show Value.int _ = _
        have hle : (0 ≤ Int32.ofInt a) ↔ 0 ≤ a := of_le in_0 b1
        by_cases hab : 0 ≤ a
        · rw [if_pos hab, if_pos (hle.mpr hab)]
        · rw [if_neg hab, if_neg (fun z => hab (hle.mp z)), wr_of, Int32.ofInt_sub]
          rfl
      rw [e1] at kk
      exact kk
    rw [if_neg h4] at hs hc
    by_cases h5 : a0 aux = 5
    · rw [if_pos h5] at hs hc
      simp only [Bool.and_eq_true] at hc
      obtain ⟨⟨⟨c1, c2⟩, c3⟩, c4⟩ := hc
      split at hs
      · rename_i n dp b sp a r
        obtain ⟨⟨h8, h9, k1, k2, k3, k4, k5, k6, k7, k8⟩, hs⟩ := ite_inv hs
        obtain ⟨rfl, rfl, rfl, rfl, rfl⟩ := nx_inv hs
        simp only [Nat.sub_self, Nat.add_zero] at k
        rw [hn] at k
        intro ls H locs hI hL hO hS
        obtain ⟨b1, hS1⟩ := List.forall_mem_cons.mp hS
        obtain ⟨b2, hS2⟩ := List.forall_mem_cons.mp hS1
        obtain ⟨-, hS3⟩ := List.forall_mem_cons.mp hS2
        obtain ⟨b4, hS4⟩ := List.forall_mem_cons.mp hS3
        obtain ⟨-, hS5⟩ := List.forall_mem_cons.mp hS4
        have hsum := rOK_sum hE h9
        have ga := wlX_get (X := X) (mi := mi) (hI.1.2.2.1 a (by omega))
        have gb := wlX_get (X := X) (mi := mi) (hI.1.2.2.1 b (by omega))
        rw [entX_i k1] at ga
        rw [entX_i k2] at gb
        refine va_copyi hx hb (by rw [hml, ← hnL]; exact hL.1.1.symm) hown (hts _ (wIn_mem c1)) (hts _ (wIn_mem c2)) (hts _ (wIn_mem c3)) (hts _ (wIn_mem c4)) hE.1 hI.1.1 wlX_D hI.2 a b 0 0 ga gb rfl rfl rfl (fun z => by have := (of_lt b4 in_0).mp z; omega) (fun z => by have := (of_lt b2 in_0).mp z; omega) (fun z => by have := (of_lt b1 in_0).mp z; omega) (by rw [of_clamp b4, of_clamp b1]; omega) (by rw [of_clamp b2, of_clamp b1]; omega) (fun _ _ => rfl) (by omega) (Nat.le_trans (Nat.add_le_add hsum (by decide +kernel : nativeFrameWords "java/lang/System" "arraycopy" 5 + 11 ≤ 56)) (by omega)) hdec (fun H1 locs1 hP1 _ hS6 => ?_)
        have hin : ∀ z j, in32 (cpy mi a sp b dp n z j) := by
          intro z j
          unfold cpy
          split
          · exact hI.1.2.1 _ _
          · exact hI.1.2.1 _ _
        rw [wlX_set (G := G) (mi := mi) (G' := G) (mi' := cpy mi a sp b dp n) rfl (by
          rw [entX_i k2]
          refine congrArg (fun f => (Sum.inl (xI X, (gK G b).2, Sum.inl f) : va_E)) (funext fun j => ?_)
          rw [of_clamp b4, of_clamp b2, of_clamp b1]
          unfold va_cpy cpy
          by_cases hj : dp.toNat ≤ j ∧ j < dp.toNat + n.toNat
          · rw [if_pos hj, if_pos ⟨rfl, by omega, by omega⟩]
            congr 2
            omega
          · rw [if_neg hj, if_neg (fun z => hj ⟨by omega, by omega⟩)]) (fun q hq => by
          have e1 : cpy mi a sp b dp n q = mi q := by
            funext j
            unfold cpy
            rw [if_neg (fun z => hq z.1)]
          unfold entX fvs
          rw [e1])] at hP1
        exact k ls H1 locs1 ⟨⟨hP1, hin, hI.1.2.2⟩, hS6⟩ hL hO hS5
      · cases hs
    · exfalso
      rw [if_neg h5] at hs
      obtain ⟨⟨h6, -⟩, hs⟩ := ite_inv hs
      cases hs
end DI
end
section
/-! ===== entry, returns, calls; a run of the pure machine is a run of the machine (written by wip/whole/gen/gensound6.py) ===== -/
def Ws (y : Nat) : List Cond := Cond.code (mY y).1 (mY y).2.1 (mY y).2.2.1 (mY y).2.2.2 :: AW
theorem goodAW {ws : List Cond} (h : ∀ w ∈ ws, w ∈ AW) : GoodIn AW ws := fun w hw => ⟨h w hw, good_of_word (List.mem_filter.mp (h w hw)).2⟩
theorem mB_spec {y : Nat} (h : y < 217) : Cond.code (mY y).1 (mY y).2.1 (mY y).2.2.1 (mY y).2.2.2 ∈ AW ∧ Cond.initialized (mY y).1.cls ∈ AW ∧ (mY y).2.2.1 ≤ 40 ∧ plainFor (mY y).1 = true ∧ (mY y).1.cls ≠ "java/lang/invoke/MethodHandle" ∧ (mY y).1.cls ≠ "java/lang/invoke/VarHandle" := by
  have h1 := mB_all y h
  simp only [mB, plB, Bool.and_eq_true, decide_eq_true_eq, Bool.or_eq_true] at h1
  obtain ⟨⟨⟨⟨⟨-, h1⟩, h2⟩, h3⟩, h4⟩, h5, h6⟩ := h1
  refine ⟨wY_mem (mB_all y h) (k := 0) (by decide) h1, wY_mem (mB_all y h) (k := 1) (by decide) h2, h3, ?_, h5, h6⟩
  rcases h4 with h4 | h4
  · exact plainFor_of_name (ownNames_plain _ h4)
  · exact h4
theorem wInst {y : Nat} (h : y < 217) (h2 : wY 2 y = true) : Cond.instanceMethod (mY y).1 ∈ AW := wY_mem (mB_all y h) (k := 2) (by decide) h2
theorem wStat {y : Nat} (h : y < 217) (h2 : wY 3 y = true) : Cond.static (mY y).1 ∈ AW := wY_mem (mB_all y h) (k := 3) (by decide) h2
theorem wSel {y : Nat} (h : y < 217) (h2 : wY 4 y = true) : Cond.selects (mY y).1.cls (mY y).1 (mY y).1 ∈ AW := wY_mem (mB_all y h) (k := 4) (by decide) h2
theorem wCode {y : Nat} (h : y < 217) (h2 : wY 0 y = true) : Cond.code (mY y).1 (mY y).2.1 (mY y).2.2.1 (mY y).2.2.2 ∈ AW := wY_mem (mB_all y h) (k := 0) (by decide) h2
theorem Ws_in {y : Nat} (h : y < 217) : ∀ w ∈ Ws y, w ∈ AW := by
  intro w hw
  rcases List.mem_cons.mp hw with rfl | hw
  · exact (mB_spec h).1
  · exact hw
def rmY (d mc ms : Nat) : Room := { frames := d, cells := mc, slots := ms, locals := 64 * d }
def PcF (X : Cx) (as : List PV) (G : Gh) (mi : Mi) : Array Value → State → Prop := fun v U => v = (as.map (trV X)).toArray ∧ EnvU X U U.heap ∧ InvS X G mi U.heap ∧ U.heap.size = xb X + gN G ∧ ∀ a ∈ as, okV a
def QcF (X : Cx) (r : Option PV) (G : Gh) (mi : Mi) : Array Value → State → Outcome → State → Prop := fun _ st oc t => oc = .returned (r.map (trV X)) ∧ InvS X G mi t.heap ∧ (∀ v, r = some v → okV v) ∧ va_F (AX X) st t
theorem EnvU.warm {X : Cx} {s U : State} {H : Heap} {locs : List Loc} (h : EnvU X s s.heap) (hS : va_S (AX X) s.heap H locs) (hU : U.heap = H) (hW : s.WarmedH U.vm) : EnvU X U U.heap := by
  obtain ⟨h1, ⟨h2, h2b, h2c⟩, h3, h4, h5, ⟨h6, h6b⟩, h7, h8, h9, h10⟩ := h
  have hvm := hW.alike
  have hq : ∀ a : Nat, a < s.heap.size → ¬ AX X a → U.heap[a]? = s.heap[a]? := by rw [hU]; exact hS.2.1
  have hlt : (xs X).1 < s.heap.size := (Array.getElem?_eq_some_iff.mp h2.choose_spec.1).1
  exact ⟨va_K.moved hvm h1, ⟨(va_X.moved hvm h2).kept (hq _ hlt (Nat.not_le.mpr h2b)), h2b, h2c⟩, (vk_S.moved hvm h3).kept hq, fun q hm => vk_R.warm hW (h4 q hm), (va_Z.moved hvm h5).kept hq, ⟨(va_Z.moved hvm h6).kept hq, h6b⟩,
    fun q hm => va_Nw.warmM hW (h7 q hm), fun q hm => va_Nw.warmC hW (h8 q hm), fun q hm => va_Nc.moved hvm (h9 q hm), va_AO.moved hvm h10⟩
theorem PcF_blind {X : Cx} {as : List PV} {G : Gh} {mi : Mi} : FrameBlind (PcF X as G mi) := fun a U g mk ⟨h1, h2, h3, h4, h5⟩ => ⟨h1, EnvU.warm (U := U.calling g mk a) h2 va_S.rf rfl (State.WarmedH.refl U), h3, h4, h5⟩
theorem ent_args {X : Cx} {U : State} {H : Heap} (hE : EnvU X U H) : ∀ (as : List PV) (k i : Nat) (v : PV), lg (ent as) i = some v → (k + i, trV X v) ∈ lv_args k (as.map (trV X)) := by
  intro as
  induction as with
  | nil => intro k i v h; have := (lg_some h).1; simp [ent] at this
  | cons a r ih =>
    intro k i v h
    by_cases ha : isL (some a) = false
    · have e1 : ent (a :: r) = some a :: ent r := by
        match a, ha with
        | .inl _, _ => rfl
        | .inr (.inl _), ha => cases ha
        | .inr (.inr _), _ => rfl
      rw [e1] at h
      rw [List.map_cons]
      unfold lv_args
      rw [if_neg (by rw [tr_cat1 hE ha]; decide)]
      cases i with
      | zero =>
        have : some a = some v := h
        cases this
        exact List.mem_cons_self
      | succ i =>
        have h2 := ih (k + 1) i v h
        rw [show k + (i + 1) = k + 1 + i by omega]
        exact List.mem_cons_of_mem _ h2
    · match a, ha with
      | .inl _, ha => exact absurd rfl ha
      | .inr (.inr _), ha => exact absurd rfl ha
      | .inr (.inl z), _ =>
        have h : lg (some (pL z) :: none :: ent r) i = some v := h
        rw [List.map_cons]
        unfold lv_args
        rw [if_pos (by rfl)]
        match i, h with
        | 0, h =>
          have : some (pL z) = some v := h
          cases this
          exact List.mem_cons_self
        | 1, h => have h : (none : Option PV) = some v := h; cases h
        | i + 2, h =>
          have h2 := ih (k + 2) i v h
          rw [show k + (i + 2) = k + 2 + i by omega]
          exact List.mem_cons_of_mem _ h2
theorem ent_len {X : Cx} {U : State} {H : Heap} (hE : EnvU X U H) : ∀ as : List PV, (lg_sl (as.map (trV X))).length = (ent as).length := by
  intro as
  induction as with
  | nil => rfl
  | cons a r ih =>
    unfold lg_sl at ih ⊢
    rw [List.map_cons, List.flatMap_cons, List.length_append, ih]
    match a with
    | .inl _ => show 1 + _ = _; simp [ent]; omega
    | .inr (.inl _) => show 2 + _ = _; simp [ent]; omega
    | .inr (.inr q) =>
      have hc : (trV X (.inr (.inr q))).category = 1 := tr_cat1 hE rfl
      rw [if_neg (by rw [hc]; decide)]
      show 1 + _ = _
      simp [ent]
      omega
theorem iniL_lg {y i : Nat} {as : List PV} {v : PV} (h : lg (iniL y as) i = some v) : lg (ent as) i = some v := by
  unfold iniL at h
  unfold lg at h ⊢
  rw [List.getD_eq_getElem?_getD] at h ⊢
  by_cases hi : i < (ent as).length
  · rw [List.getElem?_append_left hi] at h
    exact h
  · rw [List.getElem?_append_right (by omega)] at h
    cases hx : (List.replicate (maxLY y - (ent as).length) (none : Option PV))[i - (ent as).length]? with
    | none => rw [hx] at h; cases h
    | some w =>
      rw [hx] at h
      have := List.mem_of_getElem? hx
      rw [List.eq_of_mem_replicate this] at h
      cases h
theorem ent_ok {as : List PV} (h : ∀ a ∈ as, okV a) : okL (ent as) := by
  intro i v hv
  have key : ∀ (as : List PV) (i : Nat), lg (ent as) i = some v → v ∈ as := by
    intro as
    induction as with
    | nil => intro i hv; have := (lg_some hv).1; simp [ent] at this
    | cons a r ih =>
      intro i hv
      match a with
      | .inl z =>
        have hv : lg (some (.inl z) :: ent r) i = some v := hv
        cases i with
        | zero => have : some (Sum.inl z) = some v := hv; cases this; exact List.mem_cons_self
        | succ i => exact List.mem_cons_of_mem _ (ih i hv)
      | .inr (.inr z) =>
        have hv : lg (some (.inr (.inr z)) :: ent r) i = some v := hv
        cases i with
        | zero => have : some (Sum.inr (Sum.inr z)) = some v := hv; cases this; exact List.mem_cons_self
        | succ i => exact List.mem_cons_of_mem _ (ih i hv)
      | .inr (.inl z) =>
        have hv : lg (some (pL z) :: none :: ent r) i = some v := hv
        match i, hv with
        | 0, hv => have : some (pL z) = some v := hv; cases this; exact List.mem_cons_self
        | 1, hv => have hv : (none : Option PV) = some v := hv; cases hv
        | i + 2, hv => exact List.mem_cons_of_mem _ (ih i hv)
  exact h v (key as i hv)
theorem iniL_len {y : Nat} {as : List PV} (h : (ent as).length ≤ maxLY y) : (iniL y as).length = maxLY y := by
  unfold iniL
  rw [List.length_append, List.length_replicate]
  omega
section CA
variable {X : Cx} {p : Program} {l : Launch} {e : Env} {R : Room} {s : State} {m : MethodId} {args : Array Value} {below : List Frame} {meth : Method} {c : Code} {Q : State → Prop} {y d nL pc npc : Nat} {L : Lcs} {st rest : List PV} {G G1 : Gh} {mi mi1 : Mi} {cells slots mc ms : Nat} {ins : ClassFile.Instr} {aux : List Int} {r : Option PV}
theorem nar_bz {v : Int} (h : 0 ≤ v ∧ v ≤ 1) : narrow .boolean (.int (Int32.ofInt v)) = .int (Int32.ofInt v) := (nar_bool h.1 h.2).1
theorem nar_ch {v : Int} (h : 0 ≤ v ∧ v < 65536) : narrow .char (.int (Int32.ofInt v)) = .int (Int32.ofInt v) := by
  obtain ⟨j, rfl⟩ : ∃ j : Nat, v = j := ⟨v.toNat, by omega⟩
  exact (pk_charN (q := j) (by omega)).1
theorem wc_ret (Mh : Mch X p s m args meth c y) (hy : y < 218) (hcd : cd y pc = some (npc, ins, aux)) (hr : isRet ins = true) (hrv : retv y (pc, L, st, G, mi) = some r) (hret : meth.sig.returnType = (mY y).2.2.2) (hlocks : meth.locks = false) :
    WC X p l e R s m args below meth c (MQ below (QcF X r G mi) args s cells slots (AX X)) nL pc L st G mi cells slots := by
  obtain ⟨hx, hb, hml, hown, hts, hnm, hE, hxb⟩ := Mh
  obtain ⟨-, hdec, hchk⟩ := cd_chk hy hcd
  unfold retv at hrv
  simp only [hcd] at hrv
  intro ls H locs hI hL hO hS
  cases ins
  all_goals try (exfalso; exact nomatch (show false = true from hr))
  case ireturn =>
    simp only at hrv
    split at hrv
    · rename_i v
      obtain ⟨h1, h2⟩ := ite_inv hrv
      cases h2
      have hv : okV (pI v) := hS _ List.mem_cons_self
      have hq : ∀ t : State, t.heap = H → s.WarmedH t.vm → QcF X (some (pI v)) G mi args s (.returned (some (.int (Int32.ofInt v)))) t := fun t ht _ => ⟨rfl, by rw [ht]; exact hI.1, fun w hw => by cases hw; exact hv, hI.2.F ht⟩
      cases ht : (mY y).2.2.2 with
      | none => rw [ht] at h1; cases h1
      | some ty =>
        rw [ht] at h1
        rw [ht] at hret
        cases ty
        all_goals try (exfalso; exact nomatch (show false = true from h1))
        case int => exact W.iret hx hb hret hq hI.2.2.2 hdec hlocks
        case boolean => exact W.zret hx hb hret (nar_bz (of_decide_eq_true h1)) hq hI.2.2.2 hdec hlocks
        case char => exact W.zret hx hb hret (nar_ch (of_decide_eq_true h1)) hq hI.2.2.2 hdec hlocks
        case byte =>
          have h0 : v = 0 := of_decide_eq_true h1
          subst h0
          exact W.zret hx hb hret (by decide) hq hI.2.2.2 hdec hlocks
    · cases hrv
  case lreturn =>
    simp only [chkI, decide_eq_true_eq] at hchk
    simp only at hrv
    split at hrv
    · rename_i v
      cases hrv
      have hv : okV (pL v) := hS _ List.mem_cons_self
      exact W.lret hx hb (hret.trans hchk) (fun t ht _ => ⟨rfl, by rw [ht]; exact hI.1, fun w hw => by cases hw; exact hv, hI.2.F ht⟩) hI.2.2.2 hdec hlocks
    · cases hrv
  case areturn =>
    simp only [chkI] at hchk
    simp only at hrv
    split at hrv
    · rename_i v
      cases hrv
      cases ht : (mY y).2.2.2 with
      | none => rw [ht] at hchk; cases hchk
      | some ty =>
        rw [ht] at hchk
        rw [ht] at hret
        refine W.aret hx hb hret ?_ (va_rf_or _) (fun t ht _ => ⟨rfl, by rw [ht]; exact hI.1, fun w hw => by cases hw; exact trivial, hI.2.F ht⟩) hI.2.2.2 hdec hlocks
        cases ty
        all_goals try (exfalso; exact nomatch (show false = true from hchk))
        case object n => exact Or.inl ⟨n, rfl⟩
        case array t => exact Or.inr ⟨t, rfl⟩
    · cases hrv
  case return_ =>
    simp only [chkI, decide_eq_true_eq] at hchk
    simp only at hrv
    split at hrv
    · cases hrv
      exact W.vret hx hb (hret.trans hchk) (fun t ht _ => ⟨rfl, by rw [ht]; exact hI.1, fun w hw => (by cases hw), hI.2.F ht⟩) hI.2.2.2 hdec hlocks
    · cases hrv
theorem wc_call {H : Heap} {locs : List Loc} {ls : Array Slot} {st0 : List Value} {a : Array Value} (hrun : va_Run p l e R s m args below meth c H locs cells slots mc ms (F0 m pc ls st0) (rest.map (trV X)) (QcF X r G1 mi1 a) (AX X)) (hI : Inv X G mi s H locs) (hL : LR X nL ls L) (hO : okL L) (hSr : ∀ v ∈ rest, okV v)
    (k : WC X p l e R s m args below meth c Q nL (pc + 3) (L) (pu r rest) (G1) (mi1) (cells + mc) (slots + ms)) : W p l e R s m args below meth c H locs cells slots Q (F0 m pc ls st0) := by
  intro T hT XX
  obtain ⟨v, st₀, t, T', L', h0, X', hL', e1, e2, ⟨hv, hInv, hok, hz, hk⟩, hst⟩ := hrun T hT XX
  have hv : v = r.map (trV X) := Outcome.returned.inj hv
  subst hv
  rw [h0] at hz hk
  have hS3 : va_S (AX X) s.heap T'.heap (locs ++ L') := ⟨Nat.le_trans hI.2.1 (by rw [e1]; exact hz), fun q h1 h2 => by rw [e1, hk q (Nat.lt_of_lt_of_le h1 hI.2.1) h2]; exact hI.2.2.1 q h1 h2, fun q hq => by
      rcases List.mem_append.mp hq with h | h
      · exact hI.2.2.2 q h
      · exact hL' q h⟩
  have hSp : ∀ v ∈ pu r rest, okV v := by
    cases r with
    | none => exact hSr
    | some w => exact List.forall_mem_cons.mpr ⟨hok w rfl, hSr⟩
  obtain ⟨t2, a1, b1⟩ := k ls T'.heap (locs ++ L') ⟨by rw [e1]; exact hInv, hS3⟩ hL hO hSp T' rfl X'
  refine ⟨t2, hst t2 ?_, b1⟩
  have e3 : (r.map (trV X)).toList ++ rest.map (trV X) = (pu r rest).map (trV X) := by cases r <;> rfl
  show Steps _ _ _ (T'.setTop { F0 m pc ls st0 with pc := pc + 3, stack := (r.map (trV X)).toList ++ rest.map (trV X) }) t2
  rw [e3]
  exact a1
theorem dsp_virA {own : String} {i na : Nat} {c z : Int} : ∀ (n : Nat) (l : List Int), l.length ≤ n → virA own i na l = true → dsp c l = some z → ∃ mode, virB own i na c z mode = true := by
  intro n
  induction n with
  | zero =>
    intro l hl _ h
    cases l with
    | nil => cases h
    | cons a l => simp at hl
  | succ n ih =>
    intro l hl hv h
    match l, hl, hv, h with
    | [], _, _, h => cases h
    | [_], _, _, h => cases h
    | [_, _], _, _, h => cases h
    | c' :: y' :: mode :: r, hl, hv, h =>
      simp only [virA, Bool.and_eq_true] at hv
      simp only [dsp] at h
      by_cases hc : c = c'
      · rw [if_pos hc] at h
        cases h
        exact ⟨mode, by rw [hc]; exact hv.1⟩
      · rw [if_neg hc] at h
        exact ih r (by simp at hl; omega) hv.2 h
theorem takeA_spec {n : Nat} {v : PV} {r : List PV} (h : (takeA n st).2 = v :: r) : st = (takeA n st).1.reverse ++ v :: r ∧ (takeA n st).1.length = n := by
  have h : st.drop n = v :: r := h
  have h1 : n < st.length := by
    rcases Nat.lt_or_ge n st.length with q | q
    · exact q
    · rw [List.drop_eq_nil_of_le q] at h; cases h
  refine ⟨?_, ?_⟩
  · show st = (st.take n).reverse.reverse ++ v :: r
    rw [List.reverse_reverse, ← h, List.take_append_drop]
  · show (st.take n).reverse.length = n
    rw [List.length_reverse, List.length_take]
    omega
theorem pcN_len {desc : String} {n : Nat} (h : pcN desc = some n) : ∀ sig, parseMethodDescriptor desc = some sig → n = sig.parameters.length := by
  intro sig hs
  unfold pcN at h
  rw [hs] at h
  exact (Option.some.inj h).symm
theorem sub_refl (vm : Vm) (a : ClassId) : vm.isSubclass a a = true := by simp [Vm.isSubclass, Vm.isSubclassAux]
theorem sub_one {vm : Vm} {a b : ClassId} {k : Class} (hk : vm.classes[a]? = some k) (hs : k.super = some b) : vm.isSubclass a b = true := by
  have hpos : 0 < vm.classes.size := Nat.lt_of_le_of_lt (Nat.zero_le _) (Array.getElem?_eq_some_iff.mp hk).1
  obtain ⟨n, hn⟩ : ∃ n, vm.classes.size = n + 1 := ⟨vm.classes.size - 1, by omega⟩
  unfold Vm.isSubclass
  rw [hn]
  simp [Vm.isSubclassAux, hk, hs]
/-- super.m(..), also where the superclass inherits m -/
theorem runSU {x z : MethodName} {index n maxL : Nat} {bytes cc : ByteArray} {ret : Option FieldType} {ws : List Cond} {rm : Room} {Pc : Array Value → State → Prop} {Qc : Array Value → State → Outcome → State → Prop} {free : Addr → Prop} {own C : String} {cC : ClassId} {b : Addr} {As restV : List Value} {g : JFrame} {H : Heap} {locs : List Loc}
    (hat : ClassAt s C cC) (hx : p.tables.exec = Jvm.exec) (hb : c.code = cc) (hml : c.maxLocals = nL) (ho : s.vm.findClass own = some m.cls) (hM : Met l z ws rm Pc Qc mc ms free) (hrc : rm.cells = mc) (hrs : rm.slots = ms) (hfr : rm.frames + 1 ≤ R.frames) (hlo : 8 + (maxL + 11) + rm.locals ≤ R.locals)
    (hws : ∀ w ∈ ws, ∀ (a' : Array Value) (U : State), s.WarmedH U.vm → w.before a' U = true) (hcw : Cond.code z bytes maxL ret ∈ ws) (hl1 : (Cond.methodLink own index x).before args s = true) (hl2 : (Cond.sameMethod x.cls z.cls x.name x.desc).before args s = true) (hl3 : (Cond.superclass own x.cls).before args s = true) (hl4 : x.cls = z.cls ∨ (Cond.superclass x.cls z.cls).before args s = true)
    (hz1 : z.name = x.name) (hz2 : z.desc = x.desc) (hl5 : (Cond.instanceMethod z).before args s = true) (hini : (Cond.initialized z.cls).before args s = true) (hcode : (Cond.code z bytes maxL ret).before args s = true) (hno : z.name ≠ "<init>") (hlen : ∀ sig, parseMethodDescriptor z.desc = some sig → n = sig.parameters.length)
    (hp : PreV s H C b Pc As) (hg : g.method = m) (hn : As.length = n) (hsize : g.locals.size = nL) (hstack : g.stack = As.reverse ++ .ref b :: restV) (hW : 2 * g.monitorRoom + (restV.map fun v => v.category).sum ≤ 8) (hdg : decode cc g.pc = .ok (.invokespecial index, 3)) (hf : cells + mc ≤ R.cells ∧ slots + ms ≤ R.slots) :
    va_Run p l e R s m args below meth c H locs cells slots mc ms g restV (Qc (Value.ref b :: As).toArray) (free) := by
  have hK : Back l R p e below s args z 3 8 (PreOf R mc ms Pc) (PostOf Qc mc ms free) := back_of (bytes := bytes) (maxL := maxL) (ret := ret) hM hp.1 hrc hrs hfr hlo hws hcw (fun a' U hW => word_at hW (Or.inl (by first | rfl | simp [Cond.onTables, Cond.keeps, Cond.steady])) hini)
  obtain ⟨-, ⟨cellB, hcB, hoB, hclB⟩, hPc⟩ := hp
  obtain ⟨hfc, kB, hkB, -⟩ := hat
  cases hfc.symm.trans hclB
  obtain ⟨mk, methM, hnamed, hmethM, hstM, habM⟩ := Cond.instanceMethod_spec hl5
  obtain ⟨methM', cM, hmethM', -, -, -, -, -, -, hsigM⟩ := Cond.code_spec hnamed hcode
  cases hmethM.symm.trans hmethM'
  obtain ⟨ps, dk, kp, hps, hdk, hkp, hsuper, -, -, hnid⟩ := Cond.superclass_spec ho hl3
  have hzc : s.vm.findClass z.cls = some mk.cls := findClass_of_methodNamed hnamed
  have hsub : s.vm.isSubclass ps mk.cls = true := by
    rcases hl4 with h | h
    · have : ps = mk.cls := by rw [h] at hps; exact Option.some.inj (hps.symm.trans hzc)
      rw [this]
      exact sub_refl _ _
    · obtain ⟨q, k2, k3, g1, g2, -, g4, -, -, -⟩ := Cond.superclass_spec hps h
      have : q = mk.cls := Option.some.inj (g1.symm.trans hzc)
      subst this
      exact sub_one g2 g4
  have hn0 : s.methodNamed? ⟨z.cls, x.name, x.desc⟩ = some mk := by rw [← hz1, ← hz2]; exact hnamed
  intro T hT XX
  obtain ⟨vm₁, X₁, hstep₁⟩ := XX.invokespecialUp hx ho hl1 hl2 hn0 hmethM hstM habM (by rw [← hz1]; exact hno) hdk hnid hps hsuper hsub (a := b) (cell := cellB) (by rw [hT]; exact hcB)
    (fun z h => by rw [h] at hoB; cases hoB) hkB (g := g) hg (argsL := As) (rest := restV) (hn.trans (hlen _ hsigM)) hstack (by rw [hb]; exact hdg)
  obtain ⟨v, B, X', hpost, hsteps⟩ := hK m meth c ⟨T.setVm vm₁, locs, cells, slots⟩ { g with stack := restV } (.invokespecial index) mk (Value.ref b :: As).toArray X₁ hg (hsize.trans hml.symm) (by rw [hb]; exact hdg) hW (X₁.named hnamed) ⟨hf.1, hf.2, hPc (T.setVm vm₁) hT X₁.warmed⟩
  obtain ⟨g', mk', t, L', e1, e2, hq, h1, hL', h2, h3⟩ := hpost
  obtain ⟨U', l2, c2, s2⟩ := B
  dsimp only [Pt.U, Pt.locs, Pt.cells, Pt.slots] at X' e1 e2 h1 h2 h3 hsteps
  subst h1; subst h2; subst h3
  exact ⟨v, (T.setVm vm₁).calling g' mk' (Value.ref b :: As).toArray, t, U', L', hT, X', hL', e1, e2, hq, fun target h => hstep₁ _ (by rw [doInvoke_state]; exact hsteps.trans h)⟩
def isCall (ins : ClassFile.Instr) : Bool := match ins with
  | .invokevirtual _ | .invokespecial _ | .invokestatic _ => true
  | _ => false
theorem sI_nocall {d pc npc : Nat} {ins : ClassFile.Instr} {aux : List Int} {L : Lcs} {st : List PV} {G : Gh} {mi : Mi} {q : Nat × List PV × List PV} (hc : isCall ins = false) (hs : sI d pc npc ins aux L st G mi = some (.inr q)) : False := by
  cases ins
  all_goals first
    | exact nomatch (show true = false from hc)
    | exact nomatch (show (none : Option Out) = some _ from hs)
    | (simp only [sI, op1, op2, opL, nx] at hs; (repeat' (split at hs)) <;> cases hs)
set_option maxRecDepth 100000 in
set_option maxHeartbeats 4000000 in
theorem call_ok {y' : Nat} {as : List PV} (Mh : Mch X p s m args meth c y) (hn : npc = pc + ilen ins (npc - pc)) (hdec : decode (mY y).2.1 pc = .ok (ins, ilen ins (npc - pc))) (hc : chkI y pc ins aux = true) (hnL : nL = maxLY y) (hd1 : d + 1 ≤ R.frames) (hd2 : 64 * (d + 1) ≤ R.locals) (hcs : s.heap.size + cells = xb X + gN G)
    (hs : sI (d + 1) pc npc ins aux L st G mi = some (.inr (y', as, rest))) (hM : y' < 217 → Met l (mY y').1 (Ws y') (rmY d mc ms) (PcF X as G mi) (QcF X r G1 mi1) mc ms (AX X)) (hcell : cells + mc ≤ R.cells) (hslot : slots + ms ≤ R.slots)
    (k : WC X p l e R s m args below meth c Q nL (npc) (L) (pu r rest) (G1) (mi1) (cells + mc) (slots + ms)) : WC X p l e R s m args below meth c Q nL (pc) (L) (st) (G) (mi) (cells) (slots) := by
  have Mh0 := Mh
  obtain ⟨hx, hb, hml, hown, hts, hnm, hE, hxb⟩ := Mh
  cases ins
  all_goals try (exact (sI_nocall rfl hs).elim)
  case invokevirtual i =>
    simp only [chkI] at hc
    replace hs : (match (takeA (ia aux) st).2 with
        | v :: r => (match dsp (rcv G v) (aux.drop 1) with
          | some y => if rOK r = true then some (.inr (y.toNat, v :: (takeA (ia aux) st).1, r)) else none
          | none => none)
        | [] => none) = some (Sum.inr (y', as, rest)) := hs
    split at hs
    · rename_i v rr hta
      split at hs
      · rename_i z hz
        obtain ⟨hro, hs⟩ := ite_inv hs
        have hs := Sum.inr.inj (Option.some.inj hs)
        simp only [Prod.mk.injEq] at hs
        obtain ⟨rfl, rfl, rfl⟩ := hs
        obtain ⟨hst, hlen⟩ := takeA_spec hta
        generalize (takeA (ia aux) st).1 = av at hst hlen k hM
        obtain ⟨mode, hvb⟩ := dsp_virA _ _ (Nat.le_refl _) hc hz
        unfold virB at hvb
        simp only [Bool.and_eq_true, decide_eq_true_eq] at hvb
        obtain ⟨⟨hz0, hzN⟩, hvb⟩ := hvb
        have hM := hM hzN
        obtain ⟨w1, w2, w3, w4, w5, w6⟩ := mB_spec hzN
        intro ls H locs hI hL hO hS
        refine W_size fun hsz0 => ?_
        have hsz : H.size = xb X + gN G := by have := size_ge hI hxb; omega
        have hSv : (∀ a ∈ v :: av, okV a) ∧ ∀ a ∈ rr, okV a := by
          rw [hst] at hS
          refine ⟨fun a ha => ?_, fun a ha => hS a (List.mem_append_right _ (List.mem_cons_of_mem _ ha))⟩
          rcases List.mem_cons.mp ha with rfl | ha
          · exact hS _ (List.mem_append_right _ List.mem_cons_self)
          · exact hS a (List.mem_append_left _ (List.mem_reverse.mpr ha))
        have hsum := rOK_sum hE hro
        have hpre : ∀ (bb : Addr), trV X v = .ref bb → ∀ U : State, U.heap = H → s.WarmedH U.vm → PcF X (v :: av) G mi (Value.ref bb :: av.map (trV X)).toArray U := fun bb hbb U hU hW => ⟨by rw [List.map_cons, hbb], EnvU.warm hE hI.2 hU hW, by rw [hU]; exact hI.1, by rw [hU]; exact hsz, hSv.1⟩
        have hstk : ∀ bb : Addr, trV X v = .ref bb → st.map (trV X) = (av.map (trV X)).reverse ++ .ref bb :: rr.map (trV X) := fun bb hbb => by rw [hst, List.map_append, List.map_cons, hbb, List.map_reverse]
        have hnpc : npc = pc + 3 := hn
        rw [hnpc] at k
        by_cases hmode : mode = 0
        · rw [if_pos hmode] at hvb
          simp only [Bool.and_eq_true, decide_eq_true_eq] at hvb
          obtain ⟨⟨⟨⟨⟨c1, c2⟩, c3⟩, c4⟩, c5⟩, c6⟩ := hvb
          have hgood : GoodIn AW (wsV (ownY y) i (mY z.toNat).1.cls (mY z.toNat).1 (Ws z.toNat)) := goodAW fun w hw => by
            rcases List.mem_append.mp hw with hw | hw
            · simp only [List.mem_cons, List.not_mem_nil, or_false] at hw
              rcases hw with rfl | rfl | rfl | rfl
              · exact wIn_mem c4
              · exact wInst hzN c5
              · exact wSel hzN c6
              · exact w2
            · exact Ws_in hzN w hw
          have hcw := cwV (R := R) (rm := rmY d mc ms) (mc := mc) (ms := ms) (ia aux) hts hgood rfl rfl rfl ⟨rfl, w5, w6, c3⟩ ⟨hd1, by show 8 + ((mY z.toNat).2.2.1 + 11) + 64 * d ≤ R.locals; omega⟩
          have hrecv : ∃ bb, trV X v = .ref bb ∧ ∃ cellB : Cell, H[bb]? = some cellB ∧ cellB.vm.isStatics = false ∧ s.vm.findClass (mY z.toNat).1.cls = some cellB.cls := by
            match v, c1, c2 with
            | .inr (.inr (.inl (some o))), c1, c2 =>
              have c1 : (mY z.toNat).1.cls = (if (((gK G o).1 : Nat) : Int) = 500 then "java/lang/String" else (clC ((((gK G o).1 : Nat) : Int).toNat - 1)).1) := c1
              have c2 : (((gK G o).1 : Nat) : Int) = 500 ∨ ((1 : Int) ≤ (((gK G o).1 : Nat) : Int) ∧ (((gK G o).1 : Nat) : Int) ≤ 13) := c2
              have h22 := hI.1.2.2.2.1 o
              rw [if_neg (by omega)] at c1
              have hci : (gK G o).1 = ((((gK G o).1 : Nat) : Int).toNat - 1) + 1 := by omega
              have hg := wlX_get (X := X) (mi := mi) (hI.1.2.2.1 o (by omega))
              rw [entX_obj hci (by omega)] at hg
              refine ⟨xb X + o, rfl, ?_⟩
              rw [c1]
              exact va_recv hE.1 hI.1.1 (cl_get (by omega)) hg
            | .inr (.inr (.inr e0)), c1, c2 =>
              by_cases he : e0 % 2 = 1 ∧ e0 < 2 * sTexts.length
              · obtain ⟨q, hq, rfl⟩ : ∃ q, q < sTexts.length ∧ e0 = 2 * q + 1 := ⟨e0 / 2, by omega, by omega⟩
                have hr0 : rcv G (.inr (.inr (.inr (2 * q + 1)))) = 500 := if_pos he
                rw [hr0, if_pos rfl] at c1
                refine ⟨xK X q, evX_s hq, ?_⟩
                rw [c1]
                exact vk_recv hE.2.2.1 hq hI.2
              · have hr0 : rcv G (.inr (.inr (.inr e0))) = -1 := if_neg he
                rw [hr0] at c2
                omega
            | .inl _, c1, c2 => have c2 : (-1 : Int) = 500 ∨ ((1 : Int) ≤ -1 ∧ (-1 : Int) ≤ 13) := c2; omega
            | .inr (.inl _), c1, c2 => have c2 : (-1 : Int) = 500 ∨ ((1 : Int) ≤ -1 ∧ (-1 : Int) ≤ 13) := c2; omega
            | .inr (.inr (.inl none)), c1, c2 => have c2 : (-1 : Int) = 500 ∨ ((1 : Int) ≤ -1 ∧ (-1 : Int) ≤ 13) := c2; omega
          obtain ⟨bb, hbb, hcellB⟩ := hrecv
          have hrun := va_runV (locs := locs) (cells := cells) (slots := slots) (e := e) (below := below) (meth := meth) (g := F0 m pc ls (st.map (trV X))) (As := av.map (trV X)) (rest := rr.map (trV X)) ⟨hx, hb, hml, hown, hts⟩ hM hcw ⟨PcF_blind, hcellB, hpre bb hbb⟩ rfl (by rw [List.length_map]; exact hlen) (by rw [← hnL]; exact hL.1.1) (hstk bb hbb) (by show 2 * 0 + _ ≤ 8; omega) hdec ⟨hcell, hslot⟩
          exact wc_call hrun hI hL hO hSv.2 k
        · rw [if_neg hmode] at hvb
          simp only [Bool.and_eq_true, decide_eq_true_eq, List.any_eq_true] at hvb
          obtain ⟨⟨⟨c1, c2⟩, c3⟩, q, hq, ⟨⟨⟨⟨q1, q2⟩, q3⟩, q4⟩, q5⟩, q6⟩ := hvb
          have hobj : ∃ o ci, v = pR (some o) ∧ (gK G o).1 = ci + 1 ∧ ci < 13 ∧ (rcv G v).toNat - 1 = ci := by
            match v, c1, c2 with
            | .inr (.inr (.inl (some o))), c1, c2 =>
              have c1 : (1 : Int) ≤ (((gK G o).1 : Nat) : Int) := c1
              have c2 : (((gK G o).1 : Nat) : Int) ≤ 13 := c2
              exact ⟨o, (gK G o).1 - 1, rfl, by omega, by omega, by show (((gK G o).1 : Nat) : Int).toNat - 1 = _; omega⟩
            | .inr (.inr (.inr e0)), c1, c2 =>
              by_cases he : e0 % 2 = 1 ∧ e0 < 2 * sTexts.length
              · have hr0 : rcv G (.inr (.inr (.inr e0))) = 500 := if_pos he
                rw [hr0] at c2; omega
              · have hr0 : rcv G (.inr (.inr (.inr e0))) = -1 := if_neg he
                rw [hr0] at c1; omega
            | .inl _, c1, c2 => have c1 : (1 : Int) ≤ -1 := c1; omega
            | .inr (.inl _), c1, c2 => have c1 : (1 : Int) ≤ -1 := c1; omega
            | .inr (.inr (.inl none)), c1, c2 => have c1 : (1 : Int) ≤ -1 := c1; omega
          obtain ⟨o, ci, rfl, hci, h13, hcc⟩ := hobj
          rw [hcc] at q5
          have hg := wlX_get (X := X) (mi := mi) (hI.1.2.2.1 o (by omega))
          rw [entX_obj hci h13] at hg
          have hcellB := va_recv hE.1 hI.1.1 (cl_get h13) hg
          obtain ⟨z1, z2, x⟩ := q
          dsimp only at q1 q2 q3 q4 q5 q6
          subst q1
          obtain rfl := q2.symm
          have hcw : ∃ owner, va_CU R s args (ownY y) (clC ci).1 owner i x (mY z.toNat).1 (mY z.toNat).2.1 (mY z.toNat).2.2.1 (mY z.toNat).2.2.2 (Ws z.toNat) (rmY d mc ms) mc ms (ia aux) := by
            by_cases hm1 : mode = 1
            · rw [if_pos hm1] at q6
              simp only [Bool.and_eq_true, decide_eq_true_eq] at q6
              obtain ⟨⟨q6, q7⟩, q8⟩ := q6
              refine ⟨(mY z.toNat).1.cls, va_cwU (ia aux) hts (goodAW fun w hw => ?_) rfl rfl rfl (by rw [← q6, ← q7]) ⟨w5, w6, q3⟩ ⟨hd1, by show 8 + ((mY z.toNat).2.2.1 + 11) + 64 * d ≤ R.locals; omega⟩⟩
              rcases List.mem_append.mp hw with hw | hw
              · simp only [List.mem_cons, List.not_mem_nil, or_false] at hw
                rcases hw with rfl | rfl | rfl | rfl | rfl
                · exact wIn_mem q4
                · exact wIn_mem q8
                · exact wIn_mem q5
                · exact wInst hzN c3
                · exact w2
              · exact Ws_in hzN w hw
            · rw [if_neg hm1] at q6
              simp only [List.any_eq_true, Bool.and_eq_true, decide_eq_true_eq, plB] at q6
              obtain ⟨yo, hyo, ⟨⟨⟨⟨⟨p1, p2⟩, p3, p4⟩, p5⟩, p6⟩, p7⟩⟩ := q6
              have hno : (⟨(mY yo).1.cls, x.name, x.desc⟩ : MethodName) = (mY yo).1 := by rw [← p1, ← p2]
              refine ⟨(mY yo).1.cls, va_cwO (ia aux) hts (goodAW fun w hw => ?_) rfl rfl rfl (by rw [hno]; exact wCode (List.mem_range.mp hyo) p7) ⟨p3, p4, q3⟩ ⟨hd1, by show 8 + ((mY z.toNat).2.2.1 + 11) + 64 * d ≤ R.locals; omega⟩⟩
              rcases List.mem_append.mp hw with hw | hw
              · simp only [List.mem_cons, List.not_mem_nil, or_false] at hw
                rcases hw with rfl | rfl | rfl | rfl | rfl | rfl
                · exact wIn_mem q4
                · exact wIn_mem p5
                · rw [hno]; exact wInst (List.mem_range.mp hyo) p6
                · exact wIn_mem q5
                · exact wInst hzN c3
                · exact w2
              · exact Ws_in hzN w hw
          obtain ⟨owner, hcw⟩ := hcw
          have hrun := va_runU (locs := locs) (cells := cells) (slots := slots) (e := e) (below := below) (meth := meth) (g := F0 m pc ls (st.map (trV X))) (As := av.map (trV X)) (rest := rr.map (trV X)) ⟨hx, hb, hml, hown, hts⟩ hM hcw ⟨PcF_blind, hcellB, hpre (xb X + o) rfl⟩ rfl (by rw [List.length_map]; exact hlen) (by rw [← hnL]; exact hL.1.1) (hstk (xb X + o) rfl) (by show 2 * 0 + _ ≤ 8; omega) hdec ⟨hcell, hslot⟩
          exact wc_call hrun hI hL hO hSv.2 k
      · cases hs
    · cases hs
  case invokespecial i =>
    simp only [chkI] at hc
    replace hs : (if a0 aux = 0 then (match st with
          | .inr (.inr (.inl (some _))) :: r => if 1 ≤ d + 1 ∧ rOK r = true then nx npc L r G mi else none
          | _ => none) else (match (takeA (a1 aux).toNat st).2 with
        | v :: r => if (a0 aux = 1 ∨ rcv G v ∈ aux.drop 3) ∧ isR v = true ∧ rOK r = true then some (.inr ((a2 aux).toNat, v :: (takeA (a1 aux).toNat st).1, r)) else none
        | [] => none)) = some (Sum.inr (y', as, rest)) := hs
    by_cases h0 : a0 aux = 0
    · exfalso
      rw [if_pos h0] at hs
      split at hs
      · obtain ⟨-, hs⟩ := ite_inv hs
        cases hs
      · cases hs
    rw [if_neg h0] at hs hc
    split at hs
    · rename_i v rr hta
      obtain ⟨⟨hcl, hisR, hro⟩, hs⟩ := ite_inv hs
      have hs := Sum.inr.inj (Option.some.inj hs)
      simp only [Prod.mk.injEq] at hs
      obtain ⟨rfl, rfl, rfl⟩ := hs
      obtain ⟨hst, hlen⟩ := takeA_spec hta
      generalize (takeA (a1 aux).toNat st).1 = av at hst hlen k hM
      obtain ⟨o, rfl⟩ : ∃ o, v = pR (some o) := by
        match v, hisR with
        | .inr (.inr (.inl (some o))), _ => exact ⟨o, rfl⟩
        | .inl _, h => cases h
        | .inr (.inl _), h => cases h
        | .inr (.inr (.inl none)), h => cases h
        | .inr (.inr (.inr _)), h => cases h
      intro ls H locs hI hL hO hS
      refine W_size fun hsz0 => ?_
      have hsz : H.size = xb X + gN G := by have := size_ge hI hxb; omega
      have hSv : (∀ a ∈ pR (some o) :: av, okV a) ∧ ∀ a ∈ rr, okV a := by
        rw [hst] at hS
        refine ⟨fun a ha => ?_, fun a ha => hS a (List.mem_append_right _ (List.mem_cons_of_mem _ ha))⟩
        rcases List.mem_cons.mp ha with rfl | ha
        · exact trivial
        · exact hS a (List.mem_append_left _ (List.mem_reverse.mpr ha))
      have hsum := rOK_sum hE hro
      have hpre : ∀ U : State, U.heap = H → s.WarmedH U.vm → PcF X (pR (some o) :: av) G mi (Value.ref (xb X + o) :: av.map (trV X)).toArray U := fun U hU hW => ⟨rfl, EnvU.warm hE hI.2 hU hW, by rw [hU]; exact hI.1, by rw [hU]; exact hsz, hSv.1⟩
      have hstk : st.map (trV X) = (av.map (trV X)).reverse ++ .ref (xb X + o) :: rr.map (trV X) := by rw [hst, List.map_append, List.map_cons, List.map_reverse]; rfl
      have hnpc : npc = pc + 3 := hn
      rw [hnpc] at k
      by_cases h1 : a0 aux = 1
      · rw [if_pos h1] at hc
        simp only [spcB, Bool.and_eq_true, decide_eq_true_eq] at hc
        obtain ⟨⟨⟨⟨⟨hzN, c1⟩, c2⟩, c3⟩, c4⟩, c5⟩ := hc
        have hM := hM hzN
        obtain ⟨w1, w2, w3, w4, w5, w6⟩ := mB_spec hzN
        have hcw := cwI (R := R) (rm := rmY d mc ms) (mc := mc) (ms := ms) (ws := Ws (a2 aux).toNat) (bytes := (mY (a2 aux).toNat).2.1) (maxL := (mY (a2 aux).toNat).2.2.1) (own := ownY y) (index := i) (a1 aux).toNat hts (goodAW (Ws_in hzN)) (by unfold Ws; rw [c2]) rfl rfl (hts _ w2) (hts _ (wIn_mem c4)) (hts _ (wInst hzN c5)) c1 ⟨w5, w6, c3⟩ ⟨hd1, by show 8 + ((mY (a2 aux).toNat).2.2.1 + 11) + 64 * d ≤ R.locals; omega⟩
        have hrun := va_runI (locs := locs) (cells := cells) (slots := slots) (e := e) (below := below) (meth := meth) (g := F0 m pc ls (st.map (trV X))) (As := av.map (trV X)) (rest := rr.map (trV X)) ⟨hx, hb, hml, hown, hts⟩ hM hcw ⟨PcF_blind, hpre⟩ rfl (by rw [List.length_map]; exact hlen) (by rw [← hnL]; exact hL.1.1) hstk (by show 2 * 0 + _ ≤ 8; omega) hdec ⟨hcell, hslot⟩
        exact wc_call hrun hI hL hO hSv.2 k
      · rw [if_neg h1] at hc
        have hcl := hcl.resolve_left h1
        simp only [supB, Bool.and_eq_true, decide_eq_true_eq, List.any_eq_true, List.all_eq_true, Bool.or_eq_true] at hc
        obtain ⟨⟨⟨⟨⟨hzN, c1⟩, c2⟩, c3⟩, q, hq, ⟨⟨⟨⟨⟨⟨q1, q2⟩, q3⟩, q4⟩, q5⟩, q6⟩, q7⟩, q8⟩, c9⟩ := hc
        have hM := hM hzN
        obtain ⟨w1, w2, w3, w4, w5, w6⟩ := mB_spec hzN
        have hr9 := c9 _ hcl
        have hr9 : (1 : Int) ≤ (((gK G o).1 : Nat) : Int) ∧ (((gK G o).1 : Nat) : Int) ≤ 13 := hr9
        obtain ⟨ci, hci⟩ : ∃ ci, (gK G o).1 = ci + 1 := ⟨(gK G o).1 - 1, by omega⟩
        have h13 : ci < 13 := by omega
        have hg := wlX_get (X := X) (mi := mi) (hI.1.2.2.1 o (by omega))
        rw [entX_obj hci h13] at hg
        have hcellB := va_recv hE.1 hI.1.1 (cl_get h13) hg
        obtain ⟨z1, z2, x⟩ := q
        dsimp only at q1 q2 q3 q4 q5 q6 q7 q8
        subst q1
        obtain rfl := q2.symm
        have hrun := runSU (locs := locs) (cells := cells) (slots := slots) (e := e) (below := below) (meth := meth) (g := F0 m pc ls (st.map (trV X))) (As := av.map (trV X)) (restV := rr.map (trV X)) (hE.1.1 ci _ (cl_get h13)).2 hx hb hml hown hM rfl rfl hd1 (by show 8 + ((mY (a2 aux).toNat).2.2.1 + 11) + 64 * d ≤ R.locals; omega) (pay_in hts (goodAW (Ws_in hzN))) List.mem_cons_self (hts _ (wIn_mem q5)) (hts _ (wIn_mem q6)) (hts _ (wIn_mem q7)) (q8.imp id (fun h => hts _ (wIn_mem h))) q3 q4 (hts _ (wInst hzN c3)) (hts _ w2) (hts _ w1) c1 (pcN_len c2) ⟨PcF_blind, hcellB, hpre⟩ rfl (by rw [List.length_map]; exact hlen) (by rw [← hnL]; exact hL.1.1) hstk (by show 2 * 0 + _ ≤ 8; omega) hdec ⟨hcell, hslot⟩
        exact wc_call hrun hI hL hO hSv.2 k
    · cases hs
  case invokestatic i =>
    simp only [chkI] at hc
    simp only [sI] at hs
    by_cases h2 : a0 aux = 2
    · exfalso
      rw [if_pos h2] at hs
      obtain ⟨a, b, r0, rfl, hs⟩ := op2_inv hs
      obtain ⟨-, hs⟩ := ite_inv hs
      cases hs
    rw [if_neg h2] at hs
    by_cases h3 : a0 aux = 3
    · exfalso
      rw [if_pos h3] at hs
      obtain ⟨a, b, r0, rfl, hs⟩ := op2_inv hs
      obtain ⟨-, hs⟩ := ite_inv hs
      cases hs
    rw [if_neg h3] at hs
    by_cases h4 : a0 aux = 4
    · exfalso
      rw [if_pos h4] at hs
      obtain ⟨a, r0, rfl, hs⟩ := op1_inv hs
      obtain ⟨-, hs⟩ := ite_inv hs
      cases hs
    rw [if_neg h4] at hs
    by_cases h5 : a0 aux = 5
    · exfalso
      rw [if_pos h5] at hs
      split at hs
      · obtain ⟨-, hs⟩ := ite_inv hs
        cases hs
      · cases hs
    rw [if_neg h5] at hs
    obtain ⟨⟨h01, hro, hle⟩, hs⟩ := ite_inv hs
    have hs := Sum.inr.inj (Option.some.inj hs)
    simp only [Prod.mk.injEq] at hs
    obtain ⟨rfl, rfl, rfl⟩ := hs
    have hst : st = (takeA (a1 aux).toNat st).1.reverse ++ (takeA (a1 aux).toNat st).2 := by
      show st = (st.take _).reverse.reverse ++ st.drop _
      rw [List.reverse_reverse, List.take_append_drop]
    have hlen : (takeA (a1 aux).toNat st).1.length = (a1 aux).toNat := by
      show (st.take _).reverse.length = _
      rw [List.length_reverse, List.length_take]
      omega
    generalize (takeA (a1 aux).toNat st).1 = av at hst hlen k hM
    generalize (takeA (a1 aux).toNat st).2 = rr at hst hro k
    intro ls H locs hI hL hO hS
    refine W_size fun hsz0 => ?_
    have hsz : H.size = xb X + gN G := by have := size_ge hI hxb; omega
    have hSv : (∀ a ∈ av, okV a) ∧ ∀ a ∈ rr, okV a := by
      rw [hst] at hS
      exact ⟨fun a ha => hS a (List.mem_append_left _ (List.mem_reverse.mpr ha)), fun a ha => hS a (List.mem_append_right _ ha)⟩
    have hsum := rOK_sum hE hro
    have hpre : ∀ U : State, U.heap = H → s.WarmedH U.vm → PcF X av G mi (av.map (trV X)).toArray U := fun U hU hW => ⟨rfl, EnvU.warm hE hI.2 hU hW, by rw [hU]; exact hI.1, by rw [hU]; exact hsz, hSv.1⟩
    have hstk : st.map (trV X) = (av.map (trV X)).reverse ++ rr.map (trV X) := by rw [hst, List.map_append, List.map_reverse]
    have hnpc : npc = pc + 3 := hn
    rw [hnpc] at k
    by_cases hz0 : a0 aux = 0
    · rw [if_pos hz0] at hc
      simp only [staB, Bool.and_eq_true, decide_eq_true_eq] at hc
      obtain ⟨⟨⟨hzN, c1⟩, c2⟩, c3⟩ := hc
      have hM := hM hzN
      obtain ⟨w1, w2, w3, w4, w5, w6⟩ := mB_spec hzN
      have hgood : GoodIn AW (va_wsS (ownY y) i (mY (a2 aux).toNat).1 (Ws (a2 aux).toNat)) := goodAW fun w hw => by
        rcases List.mem_append.mp hw with hw | hw
        · simp only [List.mem_cons, List.not_mem_nil, or_false] at hw
          rcases hw with rfl | rfl | rfl
          · exact wIn_mem c2
          · exact wStat hzN c3
          · exact w2
        · exact Ws_in hzN w hw
      have hcw := va_cwS (R := R) (rm := rmY d mc ms) (mc := mc) (ms := ms) (a1 aux).toNat hts hgood rfl rfl rfl ⟨w5, w6, c1⟩ ⟨hd1, by show 8 + ((mY (a2 aux).toNat).2.2.1 + 11) + 64 * d ≤ R.locals; omega⟩
      have hrun := va_runS (locs := locs) (cells := cells) (slots := slots) (e := e) (below := below) (meth := meth) (g := F0 m pc ls (st.map (trV X))) (As := av.map (trV X)) (rest := rr.map (trV X)) ⟨hx, hb, hml, hown, hts⟩ hM hcw ⟨PcF_blind, hpre⟩ rfl (by rw [List.length_map]; exact hlen) (by rw [← hnL]; exact hL.1.1) hstk (by show 2 * 0 + _ ≤ 8; omega) hdec ⟨hcell, hslot⟩
      exact wc_call hrun hI hL hO hSv.2 k
    · rw [if_neg hz0, if_pos (h01.resolve_left hz0)] at hc
      simp only [nstB, Bool.and_eq_true, decide_eq_true_eq, List.any_eq_true] at hc
      obtain ⟨⟨⟨hzN, c1⟩, c2⟩, q, hq, ⟨q1, q2⟩, q3⟩ := hc
      have hM := hM hzN
      obtain ⟨w1, w2, w3, w4, w5, w6⟩ := mB_spec hzN
      have hnest := hE.2.2.2.2.2.2.1 q hq
      rw [q1, q2, q3] at hnest
      have hcw := va_cnB (R := R) (rm := rmY d mc ms) (mc := mc) (ms := ms) (a1 aux).toNat hts (goodAW (Ws_in hzN)) rfl rfl rfl hnest (hts _ w2) ⟨w5, w6, c1⟩ ⟨hd1, by show 8 + ((mY (a2 aux).toNat).2.2.1 + 11) + 64 * d ≤ R.locals; omega⟩
      have hrun := va_runSN (locs := locs) (cells := cells) (slots := slots) (e := e) (below := below) (meth := meth) (g := F0 m pc ls (st.map (trV X))) (As := av.map (trV X)) (rest := rr.map (trV X)) ⟨hx, hb, hml, hown, hts⟩ hM ⟨hcw, hts _ (wStat hzN c2), trivial⟩ ⟨PcF_blind, hpre⟩ rfl (by rw [List.length_map]; exact hlen) (by rw [← hnL]; exact hL.1.1) hstk (by show 2 * 0 + _ ≤ 8; omega) hdec ⟨hcell, hslot⟩
      exact wc_call hrun hI hL hO hSv.2 k
end CA
theorem sI_grow {d pc npc : Nat} {ins : ClassFile.Instr} {aux : List Int} {L L' : Lcs} {st st' : List PV} {G G' : Gh} {mi mi' : Mi} {pc' : Nat} (hs : sI d pc npc ins aux L st G mi = some (.inl (pc', L', st', G', mi'))) : gN G ≤ gN G' ∧ gS G ≤ gS G' := by
  cases ins
  all_goals try (exfalso; exact nomatch (show (none : Option Out) = some _ from hs))
  all_goals (simp only [sI, op1, op2, opL, nx] at hs)
  all_goals (repeat' (split at hs))
  all_goals (first | (cases hs; first | exact ⟨Nat.le_refl _, Nat.le_refl _⟩ | exact ⟨Nat.le_succ _, Nat.le_add_right _ _⟩) | (simp at hs; done))
theorem runTo_grow : ∀ (f d y : Nat) (c c' : Cf), runTo f d y c = some c' → gN c.2.2.2.1 ≤ gN c'.2.2.2.1 ∧ gS c.2.2.2.1 ≤ gS c'.2.2.2.1 := by
  intro f
  induction f with
  | zero => intro d y c c' h; simp [runTo] at h
  | succ f ih =>
    intro d y c c' h
    rw [runTo] at h
    cases h1 : cd y c.1 with
    | none => rw [h1] at h; simp at h
    | some e =>
      rw [h1] at h
      dsimp only at h
      by_cases hr : isRet e.2.1 = true
      · rw [if_pos hr] at h; cases h; exact ⟨Nat.le_refl _, Nat.le_refl _⟩
      · rw [if_neg hr] at h
        cases h2 : sI d c.1 e.1 e.2.1 e.2.2 c.2.1 c.2.2.1 c.2.2.2.1 c.2.2.2.2 with
        | none => rw [h2] at h; simp at h
        | some o =>
          rw [h2] at h
          cases o with
          | inl c1 =>
            have g1 := sI_grow (pc' := c1.1) (L' := c1.2.1) (st' := c1.2.2.1) (G' := c1.2.2.2.1) (mi' := c1.2.2.2.2) h2
            have g2 := ih _ _ _ _ h
            exact ⟨Nat.le_trans g1.1 g2.1, Nat.le_trans g1.2 g2.2⟩
          | inr q =>
            dsimp only at h
            cases d with
            | zero => simp at h
            | succ d =>
              dsimp only at h
              by_cases hl : (ent q.2.1).length ≤ maxLY q.1
              · rw [if_pos hl] at h
                cases h3 : runTo f d q.1 (0, iniL q.1 q.2.1, [], c.2.2.2.1, c.2.2.2.2) with
                | none => rw [h3] at h; simp at h
                | some c1 =>
                  rw [h3] at h
                  dsimp only at h
                  have g1 := ih _ _ _ _ h3
                  cases h4 : retv q.1 c1 with
                  | none => rw [h4] at h; simp at h
                  | some rv =>
                    rw [h4] at h
                    have g2 := ih _ _ _ _ h
                    exact ⟨Nat.le_trans g1.1 g2.1, Nat.le_trans g1.2 g2.2⟩
              · rw [if_neg hl] at h; simp at h
def SoundF (X : Cx) (l : Launch) (f : Nat) : Prop := ∀ (d y : Nat) (c0 c1 : Cf), y < 218 → runTo f d y c0 = some c1 → ∀ (p : Program) (e : Env) (R : Room) (s : State) (m : MethodId) (args : Array Value) (below : List Frame) (meth : Method) (c : Code) (Q : State → Prop) (cells slots : Nat),
  Mch X p s m args meth c y → d ≤ R.frames → 64 * d ≤ R.locals → s.heap.size + cells = xb X + gN c0.2.2.2.1 → cells + (gN c1.2.2.2.1 - gN c0.2.2.2.1) ≤ R.cells → slots + (gS c1.2.2.2.1 - gS c0.2.2.2.1) ≤ R.slots →
  WC X p l e R s m args below meth c Q (maxLY y) c1.1 c1.2.1 c1.2.2.1 c1.2.2.2.1 c1.2.2.2.2 (cells + (gN c1.2.2.2.1 - gN c0.2.2.2.1)) (slots + (gS c1.2.2.2.1 - gS c0.2.2.2.1)) → WC X p l e R s m args below meth c Q (maxLY y) c0.1 c0.2.1 c0.2.2.1 c0.2.2.2.1 c0.2.2.2.2 cells slots
theorem run_ret : ∀ (f d y : Nat) (c c' : Cf), runTo f d y c = some c' → ∃ e, cd y c'.1 = some e ∧ isRet e.2.1 = true := by
  intro f
  induction f with
  | zero => intro d y c c' h; simp [runTo] at h
  | succ f ih =>
    intro d y c c' h
    rw [runTo] at h
    cases h1 : cd y c.1 with
    | none => rw [h1] at h; simp at h
    | some e =>
      rw [h1] at h
      dsimp only at h
      by_cases hr : isRet e.2.1 = true
      · rw [if_pos hr] at h; cases h; exact ⟨e, h1, hr⟩
      · rw [if_neg hr] at h
        cases h2 : sI d c.1 e.1 e.2.1 e.2.2 c.2.1 c.2.2.1 c.2.2.2.1 c.2.2.2.2 with
        | none => rw [h2] at h; simp at h
        | some o =>
          rw [h2] at h
          cases o with
          | inl c1 => exact ih _ _ _ _ h
          | inr q =>
            dsimp only at h
            cases d with
            | zero => simp at h
            | succ d =>
              dsimp only at h
              by_cases hl : (ent q.2.1).length ≤ maxLY q.1
              · rw [if_pos hl] at h
                cases h3 : runTo f d q.1 (0, iniL q.1 q.2.1, [], c.2.2.2.1, c.2.2.2.2) with
                | none => rw [h3] at h; simp at h
                | some c1 =>
                  rw [h3] at h
                  dsimp only at h
                  cases h4 : retv q.1 c1 with
                  | none => rw [h4] at h; simp at h
                  | some rv =>
                    rw [h4] at h
                    exact ih _ _ _ _ h
              · rw [if_neg hl] at h; simp at h
theorem met_of {X : Cx} {l : Launch} {f : Nat} (IH : SoundF X l f) {d y : Nat} {as : List PV} {G : Gh} {mi : Mi} {c1 : Cf} {r : Option PV} (hy : y < 217) (hrun : runTo f d y (0, iniL y as, [], G, mi) = some c1) (hrv : retv y c1 = some r) (hlen : (ent as).length ≤ maxLY y) :
    Met l (mY y).1 (Ws y) (rmY d (gN c1.2.2.2.1 - gN G) (gS c1.2.2.2.1 - gS G)) (PcF X as G mi) (QcF X r c1.2.2.2.1 c1.2.2.2.2) (gN c1.2.2.2.1 - gN G) (gS c1.2.2.2.1 - gS G) (AX X) := by
  obtain ⟨w1, w2, w3, w4, w5, w6⟩ := mB_spec hy
  refine va_MetF (cc := (mY y).2.1) (maxL := (mY y).2.2.1) (ret := (mY y).2.2.2) w4 rfl ?_
  intro p e s m args below meth c s₁ B hml hv
  obtain ⟨rfl, hE, hInv, hsz, hok⟩ := hv
  have hts0 := atoms_spec (ws := Ws y) B.pre
  have hown : s.vm.findClass (mY y).1.cls = some m.cls := findClass_of_methodNamed B.named
  have Mh : Mch X p s m (as.map (trV X)).toArray meth c y := ⟨B.exec, B.bytes, hml, hown, fun w hw => hts0 w (List.mem_cons_of_mem _ hw), (name_of_methodNamed B.named B.method).1, hE, by omega⟩
  obtain ⟨e1, he1, hr1⟩ := run_ret _ _ _ _ _ hrun
  have hret := wc_ret (l := l) (e := e) (R := rmY d (gN c1.2.2.2.1 - gN G) (gS c1.2.2.2.1 - gS G)) (below := below) (nL := maxLY y) (cells := 0 + (gN c1.2.2.2.1 - gN G)) (slots := 0 + (gS c1.2.2.2.1 - gS G)) (pc := c1.1) (npc := e1.1) (ins := e1.2.1) (aux := e1.2.2) (L := c1.2.1) (st := c1.2.2.1) (G := c1.2.2.2.1) (mi := c1.2.2.2.2) (r := r) Mh (by omega) he1 hr1 hrv B.returns B.notSynchronized
  have hW := IH d y _ c1 (by omega) hrun p e (rmY d (gN c1.2.2.2.1 - gN G) (gS c1.2.2.2.1 - gS G)) s m (as.map (trV X)).toArray below meth c _ 0 0 Mh (Nat.le_refl _) (Nat.le_refl _) (by show s.heap.size + 0 = xb X + gN G; omega) (by show 0 + (gN c1.2.2.2.1 - gN G) ≤ gN c1.2.2.2.1 - gN G; omega) (by show 0 + (gS c1.2.2.2.1 - gS G) ≤ gS c1.2.2.2.1 - gS G; omega) hret
  rw [Nat.zero_add, Nat.zero_add] at hW
  rw [lg_entry_eq]
  have hent := lv_entry (as.map (trV X)) (n := (mY y).2.2.1) (by rw [ent_len hE]; exact hlen)
  refine hW _ s.heap [] ⟨hInv, va_S.rf⟩ ⟨⟨hent.1, hent.2.1, fun q hq => ?_⟩, iniL_len hlen⟩ (fun i v hv => ent_ok hok i v (iniL_lg hv)) (fun v hv => by cases hv)
  obtain ⟨v, hv, hqv⟩ := prs_of hq
  have h3 := ent_args hE as 0 q.1 v (iniL_lg hv)
  rw [Nat.zero_add] at h3
  have h4 := hent.2.2 _ h3
  rw [hqv]
  exact h4
theorem sound (X : Cx) (l : Launch) : ∀ f, SoundF X l f := by
  intro f
  induction f with
  | zero => intro d y c0 c1 _ h; simp [runTo] at h
  | succ f IH =>
    intro d y c0 c1 hy h p e R s m args below meth c Q cells slots Mh hd1 hd2 hcs hcell hslot k
    have hgr := runTo_grow _ _ _ _ _ h
    rw [runTo] at h
    cases h1 : cd y c0.1 with
    | none => rw [h1] at h; simp at h
    | some en =>
      rw [h1] at h
      dsimp only at h
      by_cases hr : isRet en.2.1 = true
      · rw [if_pos hr] at h
        cases h
        simpa using k
      · rw [if_neg hr] at h
        obtain ⟨hn, hdec, hchk⟩ := cd_chk (npc := en.1) (ins := en.2.1) (aux := en.2.2) hy h1
        cases h2 : sI d c0.1 en.1 en.2.1 en.2.2 c0.2.1 c0.2.2.1 c0.2.2.2.1 c0.2.2.2.2 with
        | none => rw [h2] at h; simp at h
        | some o =>
          rw [h2] at h
          cases o with
          | inl c2 =>
            have g1 := sI_grow (pc' := c2.1) (L' := c2.2.1) (st' := c2.2.2.1) (G' := c2.2.2.2.1) (mi' := c2.2.2.2.2) h2
            have g2 := runTo_grow _ _ _ _ _ h
            refine step_ok (pc' := c2.1) (L' := c2.2.1) (st' := c2.2.2.1) (G' := c2.2.2.2.1) (mi' := c2.2.2.2.2) Mh hn hdec hchk rfl hd1 hd2 hcs h2 (by omega) (by omega) ?_
            refine IH d y c2 c1 hy h p e R s m args below meth c Q _ _ Mh hd1 hd2 (by omega) (by omega) (by omega) ?_
            rw [show cells + (gN c2.2.2.2.1 - gN c0.2.2.2.1) + (gN c1.2.2.2.1 - gN c2.2.2.2.1) = cells + (gN c1.2.2.2.1 - gN c0.2.2.2.1) by omega, show slots + (gS c2.2.2.2.1 - gS c0.2.2.2.1) + (gS c1.2.2.2.1 - gS c2.2.2.2.1) = slots + (gS c1.2.2.2.1 - gS c0.2.2.2.1) by omega]
            exact k
          | inr q =>
            dsimp only at h
            cases d with
            | zero => simp at h
            | succ d =>
              dsimp only at h
              by_cases hl : (ent q.2.1).length ≤ maxLY q.1
              · rw [if_pos hl] at h
                cases h3 : runTo f d q.1 (0, iniL q.1 q.2.1, [], c0.2.2.2.1, c0.2.2.2.2) with
                | none => rw [h3] at h; simp at h
                | some c2 =>
                  rw [h3] at h
                  dsimp only at h
                  have g1 := runTo_grow _ _ _ _ _ h3
                  dsimp only at g1
                  cases h4 : retv q.1 c2 with
                  | none => rw [h4] at h; simp at h
                  | some rv =>
                    rw [h4] at h
                    have g2 := runTo_grow _ _ _ _ _ h
                    dsimp only at g2
                    refine call_ok (y' := q.1) (as := q.2.1) (rest := q.2.2) (r := rv) (G1 := c2.2.2.2.1) (mi1 := c2.2.2.2.2) (mc := gN c2.2.2.2.1 - gN c0.2.2.2.1) (ms := gS c2.2.2.2.1 - gS c0.2.2.2.1) Mh hn hdec hchk rfl hd1 hd2 hcs h2 (fun hyN => met_of IH hyN h3 h4 hl) (by omega) (by omega) ?_
                    refine IH (d + 1) y _ c1 hy h p e R s m args below meth c Q _ _ Mh hd1 hd2 (by dsimp only; omega) (by dsimp only; omega) (by dsimp only; omega) ?_
                    dsimp only
                    rw [show cells + (gN c2.2.2.2.1 - gN c0.2.2.2.1) + (gN c1.2.2.2.1 - gN c2.2.2.2.1) = cells + (gN c1.2.2.2.1 - gN c0.2.2.2.1) by omega, show slots + (gS c2.2.2.2.1 - gS c0.2.2.2.1) + (gS c1.2.2.2.1 - gS c2.2.2.2.1) = slots + (gS c1.2.2.2.1 - gS c0.2.2.2.1) by omega]
                    exact k
              · rw [if_neg hl] at h; simp at h
end
