/-! ===== the checks, method by method (written by wip/whole/gen/gensound4.py) ===== -/
theorem ckl_6 : (((cT.getD 217 []).drop 240).take 40).all (chkE 217) = true := by decide +kernel
theorem ckl_7 : (((cT.getD 217 []).drop 280).take 40).all (chkE 217) = true := by decide +kernel
theorem ckl_8 : (((cT.getD 217 []).drop 320).take 40).all (chkE 217) = true := by decide +kernel
theorem ckl_9 : (((cT.getD 217 []).drop 360).take 40).all (chkE 217) = true := by decide +kernel
theorem ckl_10 : (((cT.getD 217 []).drop 400).take 40).all (chkE 217) = true := by decide +kernel
theorem ckl_11 : (((cT.getD 217 []).drop 440).take 40).all (chkE 217) = true := by decide +kernel
theorem ckl_12 : (((cT.getD 217 []).drop 480).take 40).all (chkE 217) = true := by decide +kernel
theorem ckl_13 : (((cT.getD 217 []).drop 520).take 40).all (chkE 217) = true := by decide +kernel
theorem ckl_14 : (((cT.getD 217 []).drop 560).take 40).all (chkE 217) = true := by decide +kernel
theorem ckl_15 : (((cT.getD 217 []).drop 600).take 40).all (chkE 217) = true := by decide +kernel
theorem ckl_16 : (((cT.getD 217 []).drop 640).take 40).all (chkE 217) = true := by decide +kernel
theorem ckl_17 : (((cT.getD 217 []).drop 680).take 40).all (chkE 217) = true := by decide +kernel
theorem ckl_18 : (((cT.getD 217 []).drop 720).take 40).all (chkE 217) = true := by decide +kernel
theorem ck_217 : chkP 217 := by
  refine all_split 40 ckl_0 ?_
  refine all_split 40 ckl_1 ?_
  rw [List.drop_drop]
  refine all_split 40 ckl_2 ?_
  rw [List.drop_drop]
  refine all_split 40 ckl_3 ?_
  rw [List.drop_drop]
  refine all_split 40 ckl_4 ?_
  rw [List.drop_drop]
  refine all_split 40 ckl_5 ?_
  rw [List.drop_drop]
  refine all_split 40 ckl_6 ?_
  rw [List.drop_drop]
  refine all_split 40 ckl_7 ?_
  rw [List.drop_drop]
  refine all_split 40 ckl_8 ?_
  rw [List.drop_drop]
  refine all_split 40 ckl_9 ?_
  rw [List.drop_drop]
  refine all_split 40 ckl_10 ?_
  rw [List.drop_drop]
  refine all_split 40 ckl_11 ?_
  rw [List.drop_drop]
  refine all_split 40 ckl_12 ?_
  rw [List.drop_drop]
  refine all_split 40 ckl_13 ?_
  rw [List.drop_drop]
  refine all_split 40 ckl_14 ?_
  rw [List.drop_drop]
  refine all_split 40 ckl_15 ?_
  rw [List.drop_drop]
  refine all_split 40 ckl_16 ?_
  rw [List.drop_drop]
  refine all_split 40 ckl_17 ?_
  rw [List.drop_drop]
  refine all_split 40 ckl_18 ?_
  rw [List.drop_drop]
  exact all_nil (by decide +kernel)
theorem mball_20 : ∀ y, y < 20 → mBP y := lt_s (lt_s (lt_s (lt_s (lt_s (lt_s (lt_s (lt_s (lt_s (lt_s (lt_s (lt_s (lt_s (lt_s (lt_s (lt_s (lt_s (lt_s (lt_s (lt_s (lt_0) mb_0) mb_1) mb_2) mb_3) mb_4) mb_5) mb_6) mb_7) mb_8) mb_9) mb_10) mb_11) mb_12) mb_13) mb_14) mb_15) mb_16) mb_17) mb_18) mb_19
theorem mball_40 : ∀ y, y < 40 → mBP y := lt_s (lt_s (lt_s (lt_s (lt_s (lt_s (lt_s (lt_s (lt_s (lt_s (lt_s (lt_s (lt_s (lt_s (lt_s (lt_s (lt_s (lt_s (lt_s (lt_s (mball_20) mb_20) mb_21) mb_22) mb_23) mb_24) mb_25) mb_26) mb_27) mb_28) mb_29) mb_30) mb_31) mb_32) mb_33) mb_34) mb_35) mb_36) mb_37) mb_38) mb_39
theorem mball_60 : ∀ y, y < 60 → mBP y := lt_s (lt_s (lt_s (lt_s (lt_s (lt_s (lt_s (lt_s (lt_s (lt_s (lt_s (lt_s (lt_s (lt_s (lt_s (lt_s (lt_s (lt_s (lt_s (lt_s (mball_40) mb_40) mb_41) mb_42) mb_43) mb_44) mb_45) mb_46) mb_47) mb_48) mb_49) mb_50) mb_51) mb_52) mb_53) mb_54) mb_55) mb_56) mb_57) mb_58) mb_59
theorem mball_80 : ∀ y, y < 80 → mBP y := lt_s (lt_s (lt_s (lt_s (lt_s (lt_s (lt_s (lt_s (lt_s (lt_s (lt_s (lt_s (lt_s (lt_s (lt_s (lt_s (lt_s (lt_s (lt_s (lt_s (mball_60) mb_60) mb_61) mb_62) mb_63) mb_64) mb_65) mb_66) mb_67) mb_68) mb_69) mb_70) mb_71) mb_72) mb_73) mb_74) mb_75) mb_76) mb_77) mb_78) mb_79
theorem mball_100 : ∀ y, y < 100 → mBP y := lt_s (lt_s (lt_s (lt_s (lt_s (lt_s (lt_s (lt_s (lt_s (lt_s (lt_s (lt_s (lt_s (lt_s (lt_s (lt_s (lt_s (lt_s (lt_s (lt_s (mball_80) mb_80) mb_81) mb_82) mb_83) mb_84) mb_85) mb_86) mb_87) mb_88) mb_89) mb_90) mb_91) mb_92) mb_93) mb_94) mb_95) mb_96) mb_97) mb_98) mb_99
theorem mball_120 : ∀ y, y < 120 → mBP y := lt_s (lt_s (lt_s (lt_s (lt_s (lt_s (lt_s (lt_s (lt_s (lt_s (lt_s (lt_s (lt_s (lt_s (lt_s (lt_s (lt_s (lt_s (lt_s (lt_s (mball_100) mb_100) mb_101) mb_102) mb_103) mb_104) mb_105) mb_106) mb_107) mb_108) mb_109) mb_110) mb_111) mb_112) mb_113) mb_114) mb_115) mb_116) mb_117) mb_118) mb_119
theorem mball_140 : ∀ y, y < 140 → mBP y := lt_s (lt_s (lt_s (lt_s (lt_s (lt_s (lt_s (lt_s (lt_s (lt_s (lt_s (lt_s (lt_s (lt_s (lt_s (lt_s (lt_s (lt_s (lt_s (lt_s (mball_120) mb_120) mb_121) mb_122) mb_123) mb_124) mb_125) mb_126) mb_127) mb_128) mb_129) mb_130) mb_131) mb_132) mb_133) mb_134) mb_135) mb_136) mb_137) mb_138) mb_139
theorem mball_160 : ∀ y, y < 160 → mBP y := lt_s (lt_s (lt_s (lt_s (lt_s (lt_s (lt_s (lt_s (lt_s (lt_s (lt_s (lt_s (lt_s (lt_s (lt_s (lt_s (lt_s (lt_s (lt_s (lt_s (mball_140) mb_140) mb_141) mb_142) mb_143) mb_144) mb_145) mb_146) mb_147) mb_148) mb_149) mb_150) mb_151) mb_152) mb_153) mb_154) mb_155) mb_156) mb_157) mb_158) mb_159
theorem mball_180 : ∀ y, y < 180 → mBP y := lt_s (lt_s (lt_s (lt_s (lt_s (lt_s (lt_s (lt_s (lt_s (lt_s (lt_s (lt_s (lt_s (lt_s (lt_s (lt_s (lt_s (lt_s (lt_s (lt_s (mball_160) mb_160) mb_161) mb_162) mb_163) mb_164) mb_165) mb_166) mb_167) mb_168) mb_169) mb_170) mb_171) mb_172) mb_173) mb_174) mb_175) mb_176) mb_177) mb_178) mb_179
theorem mball_200 : ∀ y, y < 200 → mBP y := lt_s (lt_s (lt_s (lt_s (lt_s (lt_s (lt_s (lt_s (lt_s (lt_s (lt_s (lt_s (lt_s (lt_s (lt_s (lt_s (lt_s (lt_s (lt_s (lt_s (mball_180) mb_180) mb_181) mb_182) mb_183) mb_184) mb_185) mb_186) mb_187) mb_188) mb_189) mb_190) mb_191) mb_192) mb_193) mb_194) mb_195) mb_196) mb_197) mb_198) mb_199
theorem mball_217 : ∀ y, y < 217 → mBP y := lt_s (lt_s (lt_s (lt_s (lt_s (lt_s (lt_s (lt_s (lt_s (lt_s (lt_s (lt_s (lt_s (lt_s (lt_s (lt_s (lt_s (mball_200) mb_200) mb_201) mb_202) mb_203) mb_204) mb_205) mb_206) mb_207) mb_208) mb_209) mb_210) mb_211) mb_212) mb_213) mb_214) mb_215) mb_216
theorem ckall_20 : ∀ y, y < 20 → chkP y := lt_s (lt_s (lt_s (lt_s (lt_s (lt_s (lt_s (lt_s (lt_s (lt_s (lt_s (lt_s (lt_s (lt_s (lt_s (lt_s (lt_s (lt_s (lt_s (lt_s (lt_0) ck_0) ck_1) ck_2) ck_3) ck_4) ck_5) ck_6) ck_7) ck_8) ck_9) ck_10) ck_11) ck_12) ck_13) ck_14) ck_15) ck_16) ck_17) ck_18) ck_19
theorem ckall_40 : ∀ y, y < 40 → chkP y := lt_s (lt_s (lt_s (lt_s (lt_s (lt_s (lt_s (lt_s (lt_s (lt_s (lt_s (lt_s (lt_s (lt_s (lt_s (lt_s (lt_s (lt_s (lt_s (lt_s (ckall_20) ck_20) ck_21) ck_22) ck_23) ck_24) ck_25) ck_26) ck_27) ck_28) ck_29) ck_30) ck_31) ck_32) ck_33) ck_34) ck_35) ck_36) ck_37) ck_38) ck_39
theorem ckall_60 : ∀ y, y < 60 → chkP y := lt_s (lt_s (lt_s (lt_s (lt_s (lt_s (lt_s (lt_s (lt_s (lt_s (lt_s (lt_s (lt_s (lt_s (lt_s (lt_s (lt_s (lt_s (lt_s (lt_s (ckall_40) ck_40) ck_41) ck_42) ck_43) ck_44) ck_45) ck_46) ck_47) ck_48) ck_49) ck_50) ck_51) ck_52) ck_53) ck_54) ck_55) ck_56) ck_57) ck_58) ck_59
theorem ckall_80 : ∀ y, y < 80 → chkP y := lt_s (lt_s (lt_s (lt_s (lt_s (lt_s (lt_s (lt_s (lt_s (lt_s (lt_s (lt_s (lt_s (lt_s (lt_s (lt_s (lt_s (lt_s (lt_s (lt_s (ckall_60) ck_60) ck_61) ck_62) ck_63) ck_64) ck_65) ck_66) ck_67) ck_68) ck_69) ck_70) ck_71) ck_72) ck_73) ck_74) ck_75) ck_76) ck_77) ck_78) ck_79
theorem ckall_100 : ∀ y, y < 100 → chkP y := lt_s (lt_s (lt_s (lt_s (lt_s (lt_s (lt_s (lt_s (lt_s (lt_s (lt_s (lt_s (lt_s (lt_s (lt_s (lt_s (lt_s (lt_s (lt_s (lt_s (ckall_80) ck_80) ck_81) ck_82) ck_83) ck_84) ck_85) ck_86) ck_87) ck_88) ck_89) ck_90) ck_91) ck_92) ck_93) ck_94) ck_95) ck_96) ck_97) ck_98) ck_99
theorem ckall_120 : ∀ y, y < 120 → chkP y := lt_s (lt_s (lt_s (lt_s (lt_s (lt_s (lt_s (lt_s (lt_s (lt_s (lt_s (lt_s (lt_s (lt_s (lt_s (lt_s (lt_s (lt_s (lt_s (lt_s (ckall_100) ck_100) ck_101) ck_102) ck_103) ck_104) ck_105) ck_106) ck_107) ck_108) ck_109) ck_110) ck_111) ck_112) ck_113) ck_114) ck_115) ck_116) ck_117) ck_118) ck_119
theorem ckall_140 : ∀ y, y < 140 → chkP y := lt_s (lt_s (lt_s (lt_s (lt_s (lt_s (lt_s (lt_s (lt_s (lt_s (lt_s (lt_s (lt_s (lt_s (lt_s (lt_s (lt_s (lt_s (lt_s (lt_s (ckall_120) ck_120) ck_121) ck_122) ck_123) ck_124) ck_125) ck_126) ck_127) ck_128) ck_129) ck_130) ck_131) ck_132) ck_133) ck_134) ck_135) ck_136) ck_137) ck_138) ck_139
theorem ckall_160 : ∀ y, y < 160 → chkP y := lt_s (lt_s (lt_s (lt_s (lt_s (lt_s (lt_s (lt_s (lt_s (lt_s (lt_s (lt_s (lt_s (lt_s (lt_s (lt_s (lt_s (lt_s (lt_s (lt_s (ckall_140) ck_140) ck_141) ck_142) ck_143) ck_144) ck_145) ck_146) ck_147) ck_148) ck_149) ck_150) ck_151) ck_152) ck_153) ck_154) ck_155) ck_156) ck_157) ck_158) ck_159
theorem ckall_180 : ∀ y, y < 180 → chkP y := lt_s (lt_s (lt_s (lt_s (lt_s (lt_s (lt_s (lt_s (lt_s (lt_s (lt_s (lt_s (lt_s (lt_s (lt_s (lt_s (lt_s (lt_s (lt_s (lt_s (ckall_160) ck_160) ck_161) ck_162) ck_163) ck_164) ck_165) ck_166) ck_167) ck_168) ck_169) ck_170) ck_171) ck_172) ck_173) ck_174) ck_175) ck_176) ck_177) ck_178) ck_179
theorem ckall_200 : ∀ y, y < 200 → chkP y := lt_s (lt_s (lt_s (lt_s (lt_s (lt_s (lt_s (lt_s (lt_s (lt_s (lt_s (lt_s (lt_s (lt_s (lt_s (lt_s (lt_s (lt_s (lt_s (lt_s (ckall_180) ck_180) ck_181) ck_182) ck_183) ck_184) ck_185) ck_186) ck_187) ck_188) ck_189) ck_190) ck_191) ck_192) ck_193) ck_194) ck_195) ck_196) ck_197) ck_198) ck_199
theorem ckall_218 : ∀ y, y < 218 → chkP y := lt_s (lt_s (lt_s (lt_s (lt_s (lt_s (lt_s (lt_s (lt_s (lt_s (lt_s (lt_s (lt_s (lt_s (lt_s (lt_s (lt_s (lt_s (ckall_200) ck_200) ck_201) ck_202) ck_203) ck_204) ck_205) ck_206) ck_207) ck_208) ck_209) ck_210) ck_211) ck_212) ck_213) ck_214) ck_215) ck_216) ck_217
theorem mB_all : ∀ y, y < 217 → mB y = true := mball_217
theorem fnd_mem {pc : Nat} {e : Nat × ClassFile.Instr × List Int} : ∀ {l : List (Nat × Nat × ClassFile.Instr × List Int)}, fnd pc l = some e → (pc, e) ∈ l := by
  intro l
  induction l with
  | nil => intro h; cases h
  | cons a r ih =>
    intro h
    unfold fnd at h
    by_cases h1 : a.1 = pc
    · rw [if_pos h1] at h
      have h2 : a.2 = e := Option.some.inj h
      obtain ⟨a1, a2⟩ := a
      subst h1; subst h2
      exact List.mem_cons_self
    · rw [if_neg h1] at h
      exact List.mem_cons_of_mem _ (ih h)
theorem cd_chk {y pc npc : Nat} {ins : ClassFile.Instr} {aux : List Int} (hy : y < 218) (h : cd y pc = some (npc, ins, aux)) : npc = pc + ilen ins (npc - pc) ∧ decode (mY y).2.1 pc = .ok (ins, ilen ins (npc - pc)) ∧ chkI y pc ins aux = true := by
  have h1 := List.all_eq_true.mp (ckall_218 y hy) _ (fnd_mem h)
  simp only [chkE, Bool.and_eq_true, decide_eq_true_eq] at h1
  exact ⟨h1.1.1, h1.1.2, h1.2⟩
