theorem mB_all : ∀ y, y < 217 → mB y = true := sorry
theorem cd_chk {y pc npc : Nat} {ins : ClassFile.Instr} {aux : List Int} (hy : y < 218) (h : cd y pc = some (npc, ins, aux)) : npc = pc + ilen ins (npc - pc) ∧ decode (mY y).2.1 pc = .ok (ins, ilen ins (npc - pc)) ∧ chkI y pc ins aux = true := sorry
