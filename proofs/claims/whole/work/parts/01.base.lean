-- PART A: the skeleton of the kit (kit/laws/SKELETON.whole.lean.txt), pasted; then the classes' tables (begun from claim/NAMES.whole.lean.txt)
/-- a private method of a class that the tables say can be made, by its rows of tables_1 -/
def lw_okq (q : MethodName × Nat) : Prop := (q.1.cls ≠ "java/lang/invoke/MethodHandle" ∧ q.1.cls ≠ "java/lang/invoke/VarHandle") ∧ Cond.instantiable q.1.cls q.2 ∈ tables_1 ∧ Cond.privateMethod q.1 ∈ tables_1 ∧ Cond.instanceMethod q.1 ∈ tables_1
theorem lw_p0 : lw_okq (⟨"CoinTelescope$View", "readClause", "()Z"⟩, 10) := ⟨⟨by decide +kernel, by decide +kernel⟩, List.mem_of_getElem? (i := 60) (by decide +kernel), List.mem_of_getElem? (i := 264) (by decide +kernel), List.mem_of_getElem? (i := 265) (by decide +kernel)⟩
theorem lw_p1 : lw_okq (⟨"CoinTelescope$View", "readWord", "()I"⟩, 10) := ⟨⟨by decide +kernel, by decide +kernel⟩, List.mem_of_getElem? (i := 60) (by decide +kernel), List.mem_of_getElem? (i := 268) (by decide +kernel), List.mem_of_getElem? (i := 269) (by decide +kernel)⟩
theorem lw_p2 : lw_okq (⟨"CoinTelescope$View", "sameSigns", "(I)I"⟩, 10) := ⟨⟨by decide +kernel, by decide +kernel⟩, List.mem_of_getElem? (i := 60) (by decide +kernel), List.mem_of_getElem? (i := 272) (by decide +kernel), List.mem_of_getElem? (i := 273) (by decide +kernel)⟩
theorem lw_p3 : lw_okq (⟨"CoinTelescope$View", "take", "(C)Z"⟩, 10) := ⟨⟨by decide +kernel, by decide +kernel⟩, List.mem_of_getElem? (i := 60) (by decide +kernel), List.mem_of_getElem? (i := 326) (by decide +kernel), List.mem_of_getElem? (i := 327) (by decide +kernel)⟩
theorem lw_p4 : lw_okq (⟨"CoinTelescope$View", "next", "()I"⟩, 10) := ⟨⟨by decide +kernel, by decide +kernel⟩, List.mem_of_getElem? (i := 60) (by decide +kernel), List.mem_of_getElem? (i := 330) (by decide +kernel), List.mem_of_getElem? (i := 331) (by decide +kernel)⟩
theorem lw_p5 : lw_okq (⟨"CoinTelescope$View", "readNumber", "()I"⟩, 10) := ⟨⟨by decide +kernel, by decide +kernel⟩, List.mem_of_getElem? (i := 60) (by decide +kernel), List.mem_of_getElem? (i := 334) (by decide +kernel), List.mem_of_getElem? (i := 335) (by decide +kernel)⟩
theorem lw_p6 : lw_okq (⟨"CoinTelescope$View", "readJoined", "(II)Z"⟩, 10) := ⟨⟨by decide +kernel, by decide +kernel⟩, List.mem_of_getElem? (i := 60) (by decide +kernel), List.mem_of_getElem? (i := 338) (by decide +kernel), List.mem_of_getElem? (i := 339) (by decide +kernel)⟩
theorem lw_p7 : lw_okq (⟨"CoinTelescope$View", "readOne", "(I)Z"⟩, 10) := ⟨⟨by decide +kernel, by decide +kernel⟩, List.mem_of_getElem? (i := 60) (by decide +kernel), List.mem_of_getElem? (i := 342) (by decide +kernel), List.mem_of_getElem? (i := 343) (by decide +kernel)⟩
theorem lw_p8 : lw_okq (⟨"CoinTelescope$View", "readTest", "()Z"⟩, 10) := ⟨⟨by decide +kernel, by decide +kernel⟩, List.mem_of_getElem? (i := 60) (by decide +kernel), List.mem_of_getElem? (i := 346) (by decide +kernel), List.mem_of_getElem? (i := 347) (by decide +kernel)⟩
theorem lw_p9 : lw_okq (⟨"CoinTelescope$View", "readPlaceIn", "(Ljava/lang/String;)I"⟩, 10) := ⟨⟨by decide +kernel, by decide +kernel⟩, List.mem_of_getElem? (i := 60) (by decide +kernel), List.mem_of_getElem? (i := 351) (by decide +kernel), List.mem_of_getElem? (i := 352) (by decide +kernel)⟩
theorem lw_p10 : lw_okq (⟨"CoinTelescope$View", "emit", "(I)V"⟩, 10) := ⟨⟨by decide +kernel, by decide +kernel⟩, List.mem_of_getElem? (i := 60) (by decide +kernel), List.mem_of_getElem? (i := 411) (by decide +kernel), List.mem_of_getElem? (i := 412) (by decide +kernel)⟩
theorem lw_p11 : lw_okq (⟨"CoinTelescope$View", "keepCondition", "(I)V"⟩, 10) := ⟨⟨by decide +kernel, by decide +kernel⟩, List.mem_of_getElem? (i := 60) (by decide +kernel), List.mem_of_getElem? (i := 418) (by decide +kernel), List.mem_of_getElem? (i := 419) (by decide +kernel)⟩
theorem lw_p12 : lw_okq (⟨"CoinTelescope", "newThing", "(III)LCoinTelescope$Thing;"⟩, 5) := ⟨⟨by decide +kernel, by decide +kernel⟩, List.mem_of_getElem? (i := 23) (by decide +kernel), List.mem_of_getElem? (i := 434) (by decide +kernel), List.mem_of_getElem? (i := 435) (by decide +kernel)⟩
theorem lw_p13 : lw_okq (⟨"CoinTelescope$View", "holds", "(II[I)Z"⟩, 10) := ⟨⟨by decide +kernel, by decide +kernel⟩, List.mem_of_getElem? (i := 60) (by decide +kernel), List.mem_of_getElem? (i := 631) (by decide +kernel), List.mem_of_getElem? (i := 632) (by decide +kernel)⟩
theorem lw_p14 : lw_okq (⟨"CoinTelescope", "lostByACoin", "()I"⟩, 5) := ⟨⟨by decide +kernel, by decide +kernel⟩, List.mem_of_getElem? (i := 23) (by decide +kernel), List.mem_of_getElem? (i := 703) (by decide +kernel), List.mem_of_getElem? (i := 704) (by decide +kernel)⟩
theorem lw_p15 : lw_okq (⟨"CoinTelescope$Search", "tryDoings", "(IIIII)V"⟩, 10) := ⟨⟨by decide +kernel, by decide +kernel⟩, List.mem_of_getElem? (i := 175) (by decide +kernel), List.mem_of_getElem? (i := 757) (by decide +kernel), List.mem_of_getElem? (i := 758) (by decide +kernel)⟩
def lw_privs_1 : List (MethodName × Nat) := [(⟨"CoinTelescope$View", "readClause", "()Z"⟩, 10), (⟨"CoinTelescope$View", "readWord", "()I"⟩, 10), (⟨"CoinTelescope$View", "sameSigns", "(I)I"⟩, 10), (⟨"CoinTelescope$View", "take", "(C)Z"⟩, 10), (⟨"CoinTelescope$View", "next", "()I"⟩, 10), (⟨"CoinTelescope$View", "readNumber", "()I"⟩, 10), (⟨"CoinTelescope$View", "readJoined", "(II)Z"⟩, 10), (⟨"CoinTelescope$View", "readOne", "(I)Z"⟩, 10), (⟨"CoinTelescope$View", "readTest", "()Z"⟩, 10), (⟨"CoinTelescope$View", "readPlaceIn", "(Ljava/lang/String;)I"⟩, 10), (⟨"CoinTelescope$View", "emit", "(I)V"⟩, 10), (⟨"CoinTelescope$View", "keepCondition", "(I)V"⟩, 10), (⟨"CoinTelescope", "newThing", "(III)LCoinTelescope$Thing;"⟩, 5), (⟨"CoinTelescope$View", "holds", "(II[I)Z"⟩, 10), (⟨"CoinTelescope", "lostByACoin", "()I"⟩, 5), (⟨"CoinTelescope$Search", "tryDoings", "(IIIII)V"⟩, 10)]
theorem lw_r1 : ∀ q ∈ lw_privs_1, lw_okq q := List.forall_mem_cons.mpr ⟨lw_p0, List.forall_mem_cons.mpr ⟨lw_p1, List.forall_mem_cons.mpr ⟨lw_p2, List.forall_mem_cons.mpr ⟨lw_p3, List.forall_mem_cons.mpr ⟨lw_p4, List.forall_mem_cons.mpr ⟨lw_p5, List.forall_mem_cons.mpr ⟨lw_p6, List.forall_mem_cons.mpr ⟨lw_p7, List.forall_mem_cons.mpr ⟨lw_p8, List.forall_mem_cons.mpr ⟨lw_p9, List.forall_mem_cons.mpr ⟨lw_p10, List.forall_mem_cons.mpr ⟨lw_p11, List.forall_mem_cons.mpr ⟨lw_p12, List.forall_mem_cons.mpr ⟨lw_p13, List.forall_mem_cons.mpr ⟨lw_p14, List.forall_mem_cons.mpr ⟨lw_p15, fun _ h => absurd h List.not_mem_nil⟩⟩⟩⟩⟩⟩⟩⟩⟩⟩⟩⟩⟩⟩⟩⟩
theorem lw_p16 : lw_okq (⟨"CoinTelescope$Search", "tryThings", "(IIII)V"⟩, 10) := ⟨⟨by decide +kernel, by decide +kernel⟩, List.mem_of_getElem? (i := 175) (by decide +kernel), List.mem_of_getElem? (i := 799) (by decide +kernel), List.mem_of_getElem? (i := 800) (by decide +kernel)⟩
theorem lw_p17 : lw_okq (⟨"CoinTelescopeModel", "clauseHere", "()V"⟩, 23) := ⟨⟨by decide +kernel, by decide +kernel⟩, List.mem_of_getElem? (i := 966) (by decide +kernel), List.mem_of_getElem? (i := 1053) (by decide +kernel), List.mem_of_getElem? (i := 1054) (by decide +kernel)⟩
theorem lw_p18 : lw_okq (⟨"CoinTelescopeModel", "here", "()I"⟩, 23) := ⟨⟨by decide +kernel, by decide +kernel⟩, List.mem_of_getElem? (i := 966) (by decide +kernel), List.mem_of_getElem? (i := 1057) (by decide +kernel), List.mem_of_getElem? (i := 1058) (by decide +kernel)⟩
theorem lw_p19 : lw_okq (⟨"CoinTelescopeModel", "tellsHere", "(ILjava/lang/String;)V"⟩, 23) := ⟨⟨by decide +kernel, by decide +kernel⟩, List.mem_of_getElem? (i := 966) (by decide +kernel), List.mem_of_getElem? (i := 1062) (by decide +kernel), List.mem_of_getElem? (i := 1063) (by decide +kernel)⟩
theorem lw_p20 : lw_okq (⟨"CoinTelescopeModel", "spells", "(Ljava/lang/String;)V"⟩, 23) := ⟨⟨by decide +kernel, by decide +kernel⟩, List.mem_of_getElem? (i := 966) (by decide +kernel), List.mem_of_getElem? (i := 1066) (by decide +kernel), List.mem_of_getElem? (i := 1067) (by decide +kernel)⟩
theorem lw_p21 : lw_okq (⟨"CoinTelescopeModel", "must", "(I)V"⟩, 23) := ⟨⟨by decide +kernel, by decide +kernel⟩, List.mem_of_getElem? (i := 966) (by decide +kernel), List.mem_of_getElem? (i := 1072) (by decide +kernel), List.mem_of_getElem? (i := 1073) (by decide +kernel)⟩
theorem lw_p22 : lw_okq (⟨"CoinTelescopeModel", "figures", "()I"⟩, 23) := ⟨⟨by decide +kernel, by decide +kernel⟩, List.mem_of_getElem? (i := 966) (by decide +kernel), List.mem_of_getElem? (i := 1076) (by decide +kernel), List.mem_of_getElem? (i := 1077) (by decide +kernel)⟩
theorem lw_p23 : lw_okq (⟨"CoinTelescopeModel", "wordOfD", "()V"⟩, 23) := ⟨⟨by decide +kernel, by decide +kernel⟩, List.mem_of_getElem? (i := 966) (by decide +kernel), List.mem_of_getElem? (i := 1082) (by decide +kernel), List.mem_of_getElem? (i := 1083) (by decide +kernel)⟩
theorem lw_p24 : lw_okq (⟨"CoinTelescopeModel", "much", "(ILjava/lang/String;)V"⟩, 23) := ⟨⟨by decide +kernel, by decide +kernel⟩, List.mem_of_getElem? (i := 966) (by decide +kernel), List.mem_of_getElem? (i := 1087) (by decide +kernel), List.mem_of_getElem? (i := 1088) (by decide +kernel)⟩
theorem lw_p25 : lw_okq (⟨"CoinTelescopeModel", "some", "()V"⟩, 23) := ⟨⟨by decide +kernel, by decide +kernel⟩, List.mem_of_getElem? (i := 966) (by decide +kernel), List.mem_of_getElem? (i := 1091) (by decide +kernel), List.mem_of_getElem? (i := 1092) (by decide +kernel)⟩
theorem lw_p26 : lw_okq (⟨"CoinTelescopeModel", "every", "()V"⟩, 23) := ⟨⟨by decide +kernel, by decide +kernel⟩, List.mem_of_getElem? (i := 966) (by decide +kernel), List.mem_of_getElem? (i := 1095) (by decide +kernel), List.mem_of_getElem? (i := 1096) (by decide +kernel)⟩
theorem lw_p27 : lw_okq (⟨"CoinTelescopeModel", "factor", "()V"⟩, 23) := ⟨⟨by decide +kernel, by decide +kernel⟩, List.mem_of_getElem? (i := 966) (by decide +kernel), List.mem_of_getElem? (i := 1099) (by decide +kernel), List.mem_of_getElem? (i := 1100) (by decide +kernel)⟩
theorem lw_p28 : lw_okq (⟨"CoinTelescopeModel", "emits", "(I)V"⟩, 23) := ⟨⟨by decide +kernel, by decide +kernel⟩, List.mem_of_getElem? (i := 966) (by decide +kernel), List.mem_of_getElem? (i := 1103) (by decide +kernel), List.mem_of_getElem? (i := 1104) (by decide +kernel)⟩
theorem lw_p29 : lw_okq (⟨"CoinTelescopeModel", "among", "(Ljava/lang/String;)I"⟩, 23) := ⟨⟨by decide +kernel, by decide +kernel⟩, List.mem_of_getElem? (i := 966) (by decide +kernel), List.mem_of_getElem? (i := 1108) (by decide +kernel), List.mem_of_getElem? (i := 1109) (by decide +kernel)⟩
theorem lw_p30 : lw_okq (⟨"CoinTelescopeModel", "isThing", "(I)Z"⟩, 23) := ⟨⟨by decide +kernel, by decide +kernel⟩, List.mem_of_getElem? (i := 966) (by decide +kernel), List.mem_of_getElem? (i := 1125) (by decide +kernel), List.mem_of_getElem? (i := 1126) (by decide +kernel)⟩
theorem lw_p31 : lw_okq (⟨"CoinTelescopeModel", "asItIs", "()V"⟩, 23) := ⟨⟨by decide +kernel, by decide +kernel⟩, List.mem_of_getElem? (i := 966) (by decide +kernel), List.mem_of_getElem? (i := 1134) (by decide +kernel), List.mem_of_getElem? (i := 1135) (by decide +kernel)⟩
def lw_privs_2 : List (MethodName × Nat) := [(⟨"CoinTelescope$Search", "tryThings", "(IIII)V"⟩, 10), (⟨"CoinTelescopeModel", "clauseHere", "()V"⟩, 23), (⟨"CoinTelescopeModel", "here", "()I"⟩, 23), (⟨"CoinTelescopeModel", "tellsHere", "(ILjava/lang/String;)V"⟩, 23), (⟨"CoinTelescopeModel", "spells", "(Ljava/lang/String;)V"⟩, 23), (⟨"CoinTelescopeModel", "must", "(I)V"⟩, 23), (⟨"CoinTelescopeModel", "figures", "()I"⟩, 23), (⟨"CoinTelescopeModel", "wordOfD", "()V"⟩, 23), (⟨"CoinTelescopeModel", "much", "(ILjava/lang/String;)V"⟩, 23), (⟨"CoinTelescopeModel", "some", "()V"⟩, 23), (⟨"CoinTelescopeModel", "every", "()V"⟩, 23), (⟨"CoinTelescopeModel", "factor", "()V"⟩, 23), (⟨"CoinTelescopeModel", "emits", "(I)V"⟩, 23), (⟨"CoinTelescopeModel", "among", "(Ljava/lang/String;)I"⟩, 23), (⟨"CoinTelescopeModel", "isThing", "(I)Z"⟩, 23), (⟨"CoinTelescopeModel", "asItIs", "()V"⟩, 23)]
theorem lw_r2 : ∀ q ∈ lw_privs_2, lw_okq q := List.forall_mem_cons.mpr ⟨lw_p16, List.forall_mem_cons.mpr ⟨lw_p17, List.forall_mem_cons.mpr ⟨lw_p18, List.forall_mem_cons.mpr ⟨lw_p19, List.forall_mem_cons.mpr ⟨lw_p20, List.forall_mem_cons.mpr ⟨lw_p21, List.forall_mem_cons.mpr ⟨lw_p22, List.forall_mem_cons.mpr ⟨lw_p23, List.forall_mem_cons.mpr ⟨lw_p24, List.forall_mem_cons.mpr ⟨lw_p25, List.forall_mem_cons.mpr ⟨lw_p26, List.forall_mem_cons.mpr ⟨lw_p27, List.forall_mem_cons.mpr ⟨lw_p28, List.forall_mem_cons.mpr ⟨lw_p29, List.forall_mem_cons.mpr ⟨lw_p30, List.forall_mem_cons.mpr ⟨lw_p31, fun _ h => absurd h List.not_mem_nil⟩⟩⟩⟩⟩⟩⟩⟩⟩⟩⟩⟩⟩⟩⟩⟩
theorem lw_p32 : lw_okq (⟨"CoinTelescopeModel", "tellsOf", "(II)I"⟩, 23) := ⟨⟨by decide +kernel, by decide +kernel⟩, List.mem_of_getElem? (i := 966) (by decide +kernel), List.mem_of_getElem? (i := 1138) (by decide +kernel), List.mem_of_getElem? (i := 1139) (by decide +kernel)⟩
theorem lw_p33 : lw_okq (⟨"CoinTelescopeModel", "isAt", "(II)I"⟩, 23) := ⟨⟨by decide +kernel, by decide +kernel⟩, List.mem_of_getElem? (i := 966) (by decide +kernel), List.mem_of_getElem? (i := 1142) (by decide +kernel), List.mem_of_getElem? (i := 1143) (by decide +kernel)⟩
theorem lw_p34 : lw_okq (⟨"CoinTelescopeModel", "isDim", "(II)Z"⟩, 23) := ⟨⟨by decide +kernel, by decide +kernel⟩, List.mem_of_getElem? (i := 966) (by decide +kernel), List.mem_of_getElem? (i := 1146) (by decide +kernel), List.mem_of_getElem? (i := 1147) (by decide +kernel)⟩
theorem lw_p35 : lw_okq (⟨"CoinTelescopeModel", "baseOf", "(II)I"⟩, 23) := ⟨⟨by decide +kernel, by decide +kernel⟩, List.mem_of_getElem? (i := 966) (by decide +kernel), List.mem_of_getElem? (i := 1150) (by decide +kernel), List.mem_of_getElem? (i := 1151) (by decide +kernel)⟩
theorem lw_p36 : lw_okq (⟨"CoinTelescopeModel", "worthOf", "(II)I"⟩, 23) := ⟨⟨by decide +kernel, by decide +kernel⟩, List.mem_of_getElem? (i := 966) (by decide +kernel), List.mem_of_getElem? (i := 1154) (by decide +kernel), List.mem_of_getElem? (i := 1155) (by decide +kernel)⟩
theorem lw_p37 : lw_okq (⟨"CoinTelescopeModel", "becomes", "(II)I"⟩, 23) := ⟨⟨by decide +kernel, by decide +kernel⟩, List.mem_of_getElem? (i := 966) (by decide +kernel), List.mem_of_getElem? (i := 1162) (by decide +kernel), List.mem_of_getElem? (i := 1163) (by decide +kernel)⟩
theorem lw_p38 : lw_okq (⟨"CoinTelescopeModel", "coin", "()I"⟩, 23) := ⟨⟨by decide +kernel, by decide +kernel⟩, List.mem_of_getElem? (i := 966) (by decide +kernel), List.mem_of_getElem? (i := 1182) (by decide +kernel), List.mem_of_getElem? (i := 1183) (by decide +kernel)⟩
theorem lw_p39 : lw_okq (⟨"CoinTelescopeModel", "hadOnes", "()I"⟩, 23) := ⟨⟨by decide +kernel, by decide +kernel⟩, List.mem_of_getElem? (i := 966) (by decide +kernel), List.mem_of_getElem? (i := 1186) (by decide +kernel), List.mem_of_getElem? (i := 1187) (by decide +kernel)⟩
theorem lw_p40 : lw_okq (⟨"CoinTelescopeModel", "lost", "()I"⟩, 23) := ⟨⟨by decide +kernel, by decide +kernel⟩, List.mem_of_getElem? (i := 966) (by decide +kernel), List.mem_of_getElem? (i := 1190) (by decide +kernel), List.mem_of_getElem? (i := 1191) (by decide +kernel)⟩
theorem lw_p41 : lw_okq (⟨"CoinTelescopeModel", "goes", "(I)I"⟩, 23) := ⟨⟨by decide +kernel, by decide +kernel⟩, List.mem_of_getElem? (i := 966) (by decide +kernel), List.mem_of_getElem? (i := 1202) (by decide +kernel), List.mem_of_getElem? (i := 1203) (by decide +kernel)⟩
theorem lw_p42 : lw_okq (⟨"CoinTelescopeModel", "looksFor", "(I)V"⟩, 23) := ⟨⟨by decide +kernel, by decide +kernel⟩, List.mem_of_getElem? (i := 966) (by decide +kernel), List.mem_of_getElem? (i := 1218) (by decide +kernel), List.mem_of_getElem? (i := 1219) (by decide +kernel)⟩
theorem lw_p43 : lw_okq (⟨"CoinTelescopeModel", "keeps", "()V"⟩, 23) := ⟨⟨by decide +kernel, by decide +kernel⟩, List.mem_of_getElem? (i := 966) (by decide +kernel), List.mem_of_getElem? (i := 1222) (by decide +kernel), List.mem_of_getElem? (i := 1223) (by decide +kernel)⟩
theorem lw_p44 : lw_okq (⟨"CoinTelescopeModel", "goesBack", "()V"⟩, 23) := ⟨⟨by decide +kernel, by decide +kernel⟩, List.mem_of_getElem? (i := 966) (by decide +kernel), List.mem_of_getElem? (i := 1229) (by decide +kernel), List.mem_of_getElem? (i := 1230) (by decide +kernel)⟩
theorem lw_p45 : lw_okq (⟨"CoinTelescopeModel", "ticksTo", "(III)I"⟩, 23) := ⟨⟨by decide +kernel, by decide +kernel⟩, List.mem_of_getElem? (i := 966) (by decide +kernel), List.mem_of_getElem? (i := 1241) (by decide +kernel), List.mem_of_getElem? (i := 1242) (by decide +kernel)⟩
theorem lw_p46 : lw_okq (⟨"CoinTelescopeModel", "ordersFrom", "(IIII)V"⟩, 23) := ⟨⟨by decide +kernel, by decide +kernel⟩, List.mem_of_getElem? (i := 966) (by decide +kernel), List.mem_of_getElem? (i := 1256) (by decide +kernel), List.mem_of_getElem? (i := 1257) (by decide +kernel)⟩
theorem lw_p47 : lw_okq (⟨"CoinTelescopeModel", "areAsTold", "(I)Z"⟩, 23) := ⟨⟨by decide +kernel, by decide +kernel⟩, List.mem_of_getElem? (i := 966) (by decide +kernel), List.mem_of_getElem? (i := 1268) (by decide +kernel), List.mem_of_getElem? (i := 1269) (by decide +kernel)⟩
def lw_privs_3 : List (MethodName × Nat) := [(⟨"CoinTelescopeModel", "tellsOf", "(II)I"⟩, 23), (⟨"CoinTelescopeModel", "isAt", "(II)I"⟩, 23), (⟨"CoinTelescopeModel", "isDim", "(II)Z"⟩, 23), (⟨"CoinTelescopeModel", "baseOf", "(II)I"⟩, 23), (⟨"CoinTelescopeModel", "worthOf", "(II)I"⟩, 23), (⟨"CoinTelescopeModel", "becomes", "(II)I"⟩, 23), (⟨"CoinTelescopeModel", "coin", "()I"⟩, 23), (⟨"CoinTelescopeModel", "hadOnes", "()I"⟩, 23), (⟨"CoinTelescopeModel", "lost", "()I"⟩, 23), (⟨"CoinTelescopeModel", "goes", "(I)I"⟩, 23), (⟨"CoinTelescopeModel", "looksFor", "(I)V"⟩, 23), (⟨"CoinTelescopeModel", "keeps", "()V"⟩, 23), (⟨"CoinTelescopeModel", "goesBack", "()V"⟩, 23), (⟨"CoinTelescopeModel", "ticksTo", "(III)I"⟩, 23), (⟨"CoinTelescopeModel", "ordersFrom", "(IIII)V"⟩, 23), (⟨"CoinTelescopeModel", "areAsTold", "(I)Z"⟩, 23)]
theorem lw_r3 : ∀ q ∈ lw_privs_3, lw_okq q := List.forall_mem_cons.mpr ⟨lw_p32, List.forall_mem_cons.mpr ⟨lw_p33, List.forall_mem_cons.mpr ⟨lw_p34, List.forall_mem_cons.mpr ⟨lw_p35, List.forall_mem_cons.mpr ⟨lw_p36, List.forall_mem_cons.mpr ⟨lw_p37, List.forall_mem_cons.mpr ⟨lw_p38, List.forall_mem_cons.mpr ⟨lw_p39, List.forall_mem_cons.mpr ⟨lw_p40, List.forall_mem_cons.mpr ⟨lw_p41, List.forall_mem_cons.mpr ⟨lw_p42, List.forall_mem_cons.mpr ⟨lw_p43, List.forall_mem_cons.mpr ⟨lw_p44, List.forall_mem_cons.mpr ⟨lw_p45, List.forall_mem_cons.mpr ⟨lw_p46, List.forall_mem_cons.mpr ⟨lw_p47, fun _ h => absurd h List.not_mem_nil⟩⟩⟩⟩⟩⟩⟩⟩⟩⟩⟩⟩⟩⟩⟩⟩
theorem lw_p48 : lw_okq (⟨"CoinTelescopeModel", "showsActs", "(I)I"⟩, 23) := ⟨⟨by decide +kernel, by decide +kernel⟩, List.mem_of_getElem? (i := 966) (by decide +kernel), List.mem_of_getElem? (i := 1309) (by decide +kernel), List.mem_of_getElem? (i := 1310) (by decide +kernel)⟩
theorem lw_p49 : lw_okq (⟨"CoinTelescopeModel", "ranBody", "(I)V"⟩, 23) := ⟨⟨by decide +kernel, by decide +kernel⟩, List.mem_of_getElem? (i := 966) (by decide +kernel), List.mem_of_getElem? (i := 1316) (by decide +kernel), List.mem_of_getElem? (i := 1317) (by decide +kernel)⟩
theorem lw_p50 : lw_okq (⟨"CoinTelescopeModel", "plainShows", "(I)I"⟩, 23) := ⟨⟨by decide +kernel, by decide +kernel⟩, List.mem_of_getElem? (i := 966) (by decide +kernel), List.mem_of_getElem? (i := 1320) (by decide +kernel), List.mem_of_getElem? (i := 1321) (by decide +kernel)⟩
theorem lw_p51 : lw_okq (⟨"CoinTelescopeModel", "shakesActs", "(I)I"⟩, 23) := ⟨⟨by decide +kernel, by decide +kernel⟩, List.mem_of_getElem? (i := 966) (by decide +kernel), List.mem_of_getElem? (i := 1324) (by decide +kernel), List.mem_of_getElem? (i := 1325) (by decide +kernel)⟩
theorem lw_p52 : lw_okq (⟨"CoinTelescopeModel", "plainShakes", "(I)I"⟩, 23) := ⟨⟨by decide +kernel, by decide +kernel⟩, List.mem_of_getElem? (i := 966) (by decide +kernel), List.mem_of_getElem? (i := 1328) (by decide +kernel), List.mem_of_getElem? (i := 1329) (by decide +kernel)⟩
theorem lw_p53 : lw_okq (⟨"CoinTelescopeModel", "tellsActs", "(I)I"⟩, 23) := ⟨⟨by decide +kernel, by decide +kernel⟩, List.mem_of_getElem? (i := 966) (by decide +kernel), List.mem_of_getElem? (i := 1332) (by decide +kernel), List.mem_of_getElem? (i := 1333) (by decide +kernel)⟩
theorem lw_p54 : lw_okq (⟨"CoinTelescopeModel", "plainTelling", "(I)I"⟩, 23) := ⟨⟨by decide +kernel, by decide +kernel⟩, List.mem_of_getElem? (i := 966) (by decide +kernel), List.mem_of_getElem? (i := 1336) (by decide +kernel), List.mem_of_getElem? (i := 1337) (by decide +kernel)⟩
def lw_privs_4 : List (MethodName × Nat) := [(⟨"CoinTelescopeModel", "showsActs", "(I)I"⟩, 23), (⟨"CoinTelescopeModel", "ranBody", "(I)V"⟩, 23), (⟨"CoinTelescopeModel", "plainShows", "(I)I"⟩, 23), (⟨"CoinTelescopeModel", "shakesActs", "(I)I"⟩, 23), (⟨"CoinTelescopeModel", "plainShakes", "(I)I"⟩, 23), (⟨"CoinTelescopeModel", "tellsActs", "(I)I"⟩, 23), (⟨"CoinTelescopeModel", "plainTelling", "(I)I"⟩, 23)]
theorem lw_r4 : ∀ q ∈ lw_privs_4, lw_okq q := List.forall_mem_cons.mpr ⟨lw_p48, List.forall_mem_cons.mpr ⟨lw_p49, List.forall_mem_cons.mpr ⟨lw_p50, List.forall_mem_cons.mpr ⟨lw_p51, List.forall_mem_cons.mpr ⟨lw_p52, List.forall_mem_cons.mpr ⟨lw_p53, List.forall_mem_cons.mpr ⟨lw_p54, fun _ h => absurd h List.not_mem_nil⟩⟩⟩⟩⟩⟩⟩
def lw_privs : List (MethodName × Nat) := lw_privs_1 ++ (lw_privs_2 ++ (lw_privs_3 ++ (lw_privs_4)))
def lw_tbl : List Cond := k2_sels lw_privs ++ tables_1
theorem lw_privs_ok : ∀ q ∈ lw_privs, lw_okq q := by
  show ∀ q ∈ lw_privs_1 ++ (lw_privs_2 ++ (lw_privs_3 ++ (lw_privs_4))), lw_okq q
  exact List.forall_mem_append.mpr ⟨lw_r1, List.forall_mem_append.mpr ⟨lw_r2, List.forall_mem_append.mpr ⟨lw_r3, lw_r4⟩⟩⟩

def RX0 : String := "CoinTelescope$Bird"
def TX0 : u_T := fun k => match k with
  | 0 => ("CoinTelescope$Thing", "kind", "I", true)
  | 1 => ("CoinTelescope$Thing", "number", "I", true)
  | 2 => ("CoinTelescope$Thing", "v", "I", true)
  | _ => ("CoinTelescope$Thing", "trace", "LCoinTelescope$Table;", true)
def tyX0 : Nat → FieldType := fun k => match k with
  | 0 => .int
  | 1 => .int
  | 2 => .int
  | _ => .object "CoinTelescope$Table"
abbrev wsX00 : List Cond := u_ws RX0 TX0 4
theorem nmX0 : ∀ a, a < 4 → ∀ b, b < 4 → a ≠ b → (TX0 a).2.1 ≠ (TX0 b).2.1 := by decide +kernel
theorem tyX0_ok : ∀ k, k < 4 → parseFieldDescriptor (TX0 k).2.2.1 = some (tyX0 k) := by decide +kernel
def RX1 : String := "CoinTelescope$Boat"
def TX1 : u_T := fun k => match k with
  | 0 => ("CoinTelescope$Thing", "kind", "I", true)
  | 1 => ("CoinTelescope$Thing", "number", "I", true)
  | 2 => ("CoinTelescope$Thing", "v", "I", true)
  | _ => ("CoinTelescope$Thing", "trace", "LCoinTelescope$Table;", true)
def tyX1 : Nat → FieldType := fun k => match k with
  | 0 => .int
  | 1 => .int
  | 2 => .int
  | _ => .object "CoinTelescope$Table"
abbrev wsX10 : List Cond := u_ws RX1 TX1 4
theorem nmX1 : ∀ a, a < 4 → ∀ b, b < 4 → a ≠ b → (TX1 a).2.1 ≠ (TX1 b).2.1 := by decide +kernel
theorem tyX1_ok : ∀ k, k < 4 → parseFieldDescriptor (TX1 k).2.2.1 = some (tyX1 k) := by decide +kernel
def RX2 : String := "CoinTelescope$House"
def TX2 : u_T := fun k => match k with
  | 0 => ("CoinTelescope$Thing", "kind", "I", true)
  | 1 => ("CoinTelescope$Thing", "number", "I", true)
  | 2 => ("CoinTelescope$Thing", "v", "I", true)
  | _ => ("CoinTelescope$Thing", "trace", "LCoinTelescope$Table;", true)
def tyX2 : Nat → FieldType := fun k => match k with
  | 0 => .int
  | 1 => .int
  | 2 => .int
  | _ => .object "CoinTelescope$Table"
abbrev wsX20 : List Cond := u_ws RX2 TX2 4
theorem nmX2 : ∀ a, a < 4 → ∀ b, b < 4 → a ≠ b → (TX2 a).2.1 ≠ (TX2 b).2.1 := by decide +kernel
theorem tyX2_ok : ∀ k, k < 4 → parseFieldDescriptor (TX2 k).2.2.1 = some (tyX2 k) := by decide +kernel
def RX3 : String := "CoinTelescope$Search"
def TX3 : u_T := fun k => match k with
  | 0 => ("CoinTelescope$Search", "state", "LCoinTelescope$State;", true)
  | 1 => ("CoinTelescope$Search", "seen", "[I", true)
  | 2 => ("CoinTelescope$Search", "worths", "[I", true)
  | 3 => ("CoinTelescope$Search", "row", "[I", true)
  | 4 => ("CoinTelescope$Search", "bestRow", "[I", true)
  | 5 => ("CoinTelescope$Search", "most", "I", false)
  | 6 => ("CoinTelescope$Search", "order", "[I", true)
  | 7 => ("CoinTelescope$Search", "bestOrder", "[I", true)
  | 8 => ("CoinTelescope$Search", "orderSize", "I", false)
  | _ => ("CoinTelescope$Search", "fewest", "I", false)
def tyX3 : Nat → FieldType := fun k => match k with
  | 0 => .object "CoinTelescope$State"
  | 1 => .array .int
  | 2 => .array .int
  | 3 => .array .int
  | 4 => .array .int
  | 5 => .int
  | 6 => .array .int
  | 7 => .array .int
  | 8 => .int
  | _ => .int
abbrev wsX30 : List Cond := u_ws RX3 TX3 10
theorem nmX3 : ∀ a, a < 10 → ∀ b, b < 10 → a ≠ b → (TX3 a).2.1 ≠ (TX3 b).2.1 := by decide +kernel
theorem tyX3_ok : ∀ k, k < 10 → parseFieldDescriptor (TX3 k).2.2.1 = some (tyX3 k) := by decide +kernel
def RX4 : String := "CoinTelescope$Ship"
def TX4 : u_T := fun k => match k with
  | 0 => ("CoinTelescope$Thing", "kind", "I", true)
  | 1 => ("CoinTelescope$Thing", "number", "I", true)
  | 2 => ("CoinTelescope$Thing", "v", "I", true)
  | _ => ("CoinTelescope$Thing", "trace", "LCoinTelescope$Table;", true)
def tyX4 : Nat → FieldType := fun k => match k with
  | 0 => .int
  | 1 => .int
  | 2 => .int
  | _ => .object "CoinTelescope$Table"
abbrev wsX40 : List Cond := u_ws RX4 TX4 4
theorem nmX4 : ∀ a, a < 4 → ∀ b, b < 4 → a ≠ b → (TX4 a).2.1 ≠ (TX4 b).2.1 := by decide +kernel
theorem tyX4_ok : ∀ k, k < 4 → parseFieldDescriptor (TX4 k).2.2.1 = some (tyX4 k) := by decide +kernel
def RX5 : String := "CoinTelescope$Spire"
def TX5 : u_T := fun k => match k with
  | 0 => ("CoinTelescope$Thing", "kind", "I", true)
  | 1 => ("CoinTelescope$Thing", "number", "I", true)
  | 2 => ("CoinTelescope$Thing", "v", "I", true)
  | _ => ("CoinTelescope$Thing", "trace", "LCoinTelescope$Table;", true)
def tyX5 : Nat → FieldType := fun k => match k with
  | 0 => .int
  | 1 => .int
  | 2 => .int
  | _ => .object "CoinTelescope$Table"
abbrev wsX50 : List Cond := u_ws RX5 TX5 4
theorem nmX5 : ∀ a, a < 4 → ∀ b, b < 4 → a ≠ b → (TX5 a).2.1 ≠ (TX5 b).2.1 := by decide +kernel
theorem tyX5_ok : ∀ k, k < 4 → parseFieldDescriptor (TX5 k).2.2.1 = some (tyX5 k) := by decide +kernel
def RX6 : String := "CoinTelescope$State"
def TX6 : u_T := fun k => match k with
  | 0 => ("CoinTelescope$State", "tape", "LCoinTelescope$Table;", true)
  | 1 => ("CoinTelescope$State", "view", "LCoinTelescope$View;", false)
  | 2 => ("CoinTelescope$State", "viewCount", "I", false)
  | 3 => ("CoinTelescope$State", "thingCount", "I", false)
  | 4 => ("CoinTelescope$State", "things", "[LCoinTelescope$Thing;", true)
  | 5 => ("CoinTelescope$State", "homes", "[I", true)
  | 6 => ("CoinTelescope$State", "rows", "[I", true)
  | 7 => ("CoinTelescope$State", "had", "I", false)
  | 8 => ("CoinTelescope$State", "tick", "I", false)
  | 9 => ("CoinTelescope$State", "tube", "I", false)
  | 10 => ("CoinTelescope$State", "left", "I", false)
  | 11 => ("CoinTelescope$State", "coins", "I", false)
  | 12 => ("CoinTelescope$State", "gain", "I", false)
  | 13 => ("CoinTelescope$State", "stood", "LCoinTelescope$Table;", true)
  | 14 => ("CoinTelescope$State", "plan", "LCoinTelescope$Table;", true)
  | 15 => ("CoinTelescope$State", "book", "LCoinTelescope$Table;", true)
  | _ => ("CoinTelescope$State", "facts", "[I", true)
def tyX6 : Nat → FieldType := fun k => match k with
  | 0 => .object "CoinTelescope$Table"
  | 1 => .object "CoinTelescope$View"
  | 2 => .int
  | 3 => .int
  | 4 => .array (.object "CoinTelescope$Thing")
  | 5 => .array .int
  | 6 => .array .int
  | 7 => .int
  | 8 => .int
  | 9 => .int
  | 10 => .int
  | 11 => .int
  | 12 => .int
  | 13 => .object "CoinTelescope$Table"
  | 14 => .object "CoinTelescope$Table"
  | 15 => .object "CoinTelescope$Table"
  | _ => .array .int
abbrev wsX60 : List Cond := u_ws RX6 TX6 17
theorem nmX6 : ∀ a, a < 17 → ∀ b, b < 17 → a ≠ b → (TX6 a).2.1 ≠ (TX6 b).2.1 := by decide +kernel
theorem tyX6_ok : ∀ k, k < 17 → parseFieldDescriptor (TX6 k).2.2.1 = some (tyX6 k) := by decide +kernel
def RX7 : String := "CoinTelescope$Table"
def TX7 : u_T := fun k => match k with
  | 0 => ("CoinTelescope$Table", "width", "I", true)
  | 1 => ("CoinTelescope$Table", "limit", "I", true)
  | 2 => ("CoinTelescope$Table", "numbers", "[I", true)
  | _ => ("CoinTelescope$Table", "size", "I", false)
def tyX7 : Nat → FieldType := fun k => match k with
  | 0 => .int
  | 1 => .int
  | 2 => .array .int
  | _ => .int
abbrev wsX70 : List Cond := u_ws RX7 TX7 4
theorem nmX7 : ∀ a, a < 4 → ∀ b, b < 4 → a ≠ b → (TX7 a).2.1 ≠ (TX7 b).2.1 := by decide +kernel
theorem tyX7_ok : ∀ k, k < 4 → parseFieldDescriptor (TX7 k).2.2.1 = some (tyX7 k) := by decide +kernel
def RX8 : String := "CoinTelescope$Thing"
def TX8 : u_T := fun k => match k with
  | 0 => ("CoinTelescope$Thing", "kind", "I", true)
  | 1 => ("CoinTelescope$Thing", "number", "I", true)
  | 2 => ("CoinTelescope$Thing", "v", "I", true)
  | _ => ("CoinTelescope$Thing", "trace", "LCoinTelescope$Table;", true)
def tyX8 : Nat → FieldType := fun k => match k with
  | 0 => .int
  | 1 => .int
  | 2 => .int
  | _ => .object "CoinTelescope$Table"
abbrev wsX80 : List Cond := u_ws RX8 TX8 4
theorem nmX8 : ∀ a, a < 4 → ∀ b, b < 4 → a ≠ b → (TX8 a).2.1 ≠ (TX8 b).2.1 := by decide +kernel
theorem tyX8_ok : ∀ k, k < 4 → parseFieldDescriptor (TX8 k).2.2.1 = some (tyX8 k) := by decide +kernel
def RX9 : String := "CoinTelescope$Told"
def TX9 : u_T := fun k => match k with
  | 0 => ("CoinTelescope$Thing", "kind", "I", true)
  | 1 => ("CoinTelescope$Thing", "number", "I", true)
  | 2 => ("CoinTelescope$Thing", "v", "I", true)
  | _ => ("CoinTelescope$Thing", "trace", "LCoinTelescope$Table;", true)
def tyX9 : Nat → FieldType := fun k => match k with
  | 0 => .int
  | 1 => .int
  | 2 => .int
  | _ => .object "CoinTelescope$Table"
abbrev wsX90 : List Cond := u_ws RX9 TX9 4
theorem nmX9 : ∀ a, a < 4 → ∀ b, b < 4 → a ≠ b → (TX9 a).2.1 ≠ (TX9 b).2.1 := by decide +kernel
theorem tyX9_ok : ∀ k, k < 4 → parseFieldDescriptor (TX9 k).2.2.1 = some (tyX9 k) := by decide +kernel
def RX10 : String := "CoinTelescope$View"
def TX10 : u_T := fun k => match k with
  | 0 => ("CoinTelescope$View", "coin", "I", false)
  | 1 => ("CoinTelescope$View", "adds", "I", false)
  | 2 => ("CoinTelescope$View", "haze", "I", false)
  | 3 => ("CoinTelescope$View", "code", "[I", true)
  | 4 => ("CoinTelescope$View", "codeSize", "I", false)
  | 5 => ("CoinTelescope$View", "amounts", "[I", true)
  | 6 => ("CoinTelescope$View", "ends", "[I", true)
  | 7 => ("CoinTelescope$View", "clauses", "I", false)
  | 8 => ("CoinTelescope$View", "signs", "[I", false)
  | _ => ("CoinTelescope$View", "at", "I", false)
def tyX10 : Nat → FieldType := fun k => match k with
  | 0 => .int
  | 1 => .int
  | 2 => .int
  | 3 => .array .int
  | 4 => .int
  | 5 => .array .int
  | 6 => .array .int
  | 7 => .int
  | 8 => .array .int
  | _ => .int
abbrev wsX100 : List Cond := u_ws RX10 TX10 10
theorem nmX10 : ∀ a, a < 10 → ∀ b, b < 10 → a ≠ b → (TX10 a).2.1 ≠ (TX10 b).2.1 := by decide +kernel
theorem tyX10_ok : ∀ k, k < 10 → parseFieldDescriptor (TX10 k).2.2.1 = some (tyX10 k) := by decide +kernel
def RX11 : String := "CoinTelescope"
def TX11 : u_T := fun k => match k with
  | 0 => ("CoinTelescope", "now", "LCoinTelescope$State;", true)
  | 1 => ("CoinTelescope", "saved", "LCoinTelescope$State;", true)
  | 2 => ("CoinTelescope", "trace", "LCoinTelescope$Table;", true)
  | 3 => ("CoinTelescope", "search", "LCoinTelescope$Search;", true)
  | _ => ("CoinTelescope", "hasImage", "Z", false)
def tyX11 : Nat → FieldType := fun k => match k with
  | 0 => .object "CoinTelescope$State"
  | 1 => .object "CoinTelescope$State"
  | 2 => .object "CoinTelescope$Table"
  | 3 => .object "CoinTelescope$Search"
  | _ => .boolean
abbrev wsX110 : List Cond := u_ws RX11 TX11 5
theorem nmX11 : ∀ a, a < 5 → ∀ b, b < 5 → a ≠ b → (TX11 a).2.1 ≠ (TX11 b).2.1 := by decide +kernel
theorem tyX11_ok : ∀ k, k < 5 → parseFieldDescriptor (TX11 k).2.2.1 = some (tyX11 k) := by decide +kernel
def RX12 : String := "CoinTelescopeModel"
def TX12 : u_T := fun k => match k with
  | 0 => ("CoinTelescopeModel", "thrown", "I", false)
  | 1 => ("CoinTelescopeModel", "s", "[I", true)
  | 2 => ("CoinTelescopeModel", "image", "[I", true)
  | 3 => ("CoinTelescopeModel", "frame", "[I", true)
  | 4 => ("CoinTelescopeModel", "hasImage", "Z", false)
  | 5 => ("CoinTelescopeModel", "haze", "I", false)
  | 6 => ("CoinTelescopeModel", "act", "I", false)
  | 7 => ("CoinTelescopeModel", "spot", "I", false)
  | 8 => ("CoinTelescopeModel", "end", "I", false)
  | 9 => ("CoinTelescopeModel", "isWrong", "Z", false)
  | 10 => ("CoinTelescopeModel", "open", "I", false)
  | 11 => ("CoinTelescopeModel", "by", "[I", true)
  | 12 => ("CoinTelescopeModel", "truths", "[Z", true)
  | 13 => ("CoinTelescopeModel", "bestRow", "I", false)
  | 14 => ("CoinTelescopeModel", "bestGain", "I", false)
  | 15 => ("CoinTelescopeModel", "order", "[I", true)
  | 16 => ("CoinTelescopeModel", "bestOrder", "[I", true)
  | 17 => ("CoinTelescopeModel", "leastTicks", "I", false)
  | 18 => ("CoinTelescopeModel", "bodies", "[I", true)
  | 19 => ("CoinTelescopeModel", "ran", "I", false)
  | 20 => ("CoinTelescopeModel", "kind", "I", false)
  | 21 => ("CoinTelescopeModel", "number", "I", false)
  | _ => ("CoinTelescopeModel", "tellsV", "I", false)
def tyX12 : Nat → FieldType := fun k => match k with
  | 0 => .int
  | 1 => .array .int
  | 2 => .array .int
  | 3 => .array .int
  | 4 => .boolean
  | 5 => .int
  | 6 => .int
  | 7 => .int
  | 8 => .int
  | 9 => .boolean
  | 10 => .int
  | 11 => .array .int
  | 12 => .array .boolean
  | 13 => .int
  | 14 => .int
  | 15 => .array .int
  | 16 => .array .int
  | 17 => .int
  | 18 => .array .int
  | 19 => .int
  | 20 => .int
  | 21 => .int
  | _ => .int
abbrev wsX120 : List Cond := u_ws RX12 TX12 23
theorem nmX12 : ∀ a, a < 23 → ∀ b, b < 23 → a ≠ b → (TX12 a).2.1 ≠ (TX12 b).2.1 := by decide +kernel
theorem tyX12_ok : ∀ k, k < 23 → parseFieldDescriptor (TX12 k).2.2.1 = some (tyX12 k) := by decide +kernel
abbrev vwCl : List vw_C := [(RX0, TX0, 4), (RX1, TX1, 4), (RX2, TX2, 4), (RX3, TX3, 10), (RX4, TX4, 4), (RX5, TX5, 4), (RX6, TX6, 17), (RX7, TX7, 4), (RX8, TX8, 4), (RX9, TX9, 4), (RX10, TX10, 10), (RX11, TX11, 5), (RX12, TX12, 23)]
