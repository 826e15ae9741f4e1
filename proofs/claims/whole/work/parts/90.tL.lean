/-! the law: its instructions, one table a method -/
theorem tL_at {cc : ByteArray} {l : List (Nat × Instr × Nat)} (h : l.all (fun q => decide (decode cc q.1 = .ok q.2)) = true) (i : Nat) {pc n : Nat} {ins : Instr} (hi : l[i]? = some (pc, ins, n)) : decode cc pc = .ok (ins, n) := by
  have h1 := List.all_eq_true.mp h (pc, ins, n) (List.mem_of_getElem? hi)
  dsimp only at h1
  exact of_decide_eq_true h1
def tL_addSheet : List (Nat × Instr × Nat) := [(0, .aload_n 1, 1), (1, .iconst 0, 1), (2, .aload_n 0, 1), (3, .invokevirtual 7, 3), (6, .i2l, 1), (7, .lastore, 1), (8, .goto 6, 3), (11, .astore_n 2, 1), (12, .iconst 1, 1), (13, .ireturn, 1), (14, .iconst 0, 1), (15, .ireturn, 1)]
set_option maxRecDepth 100000 in
theorem tL_addSheet_ok : tL_addSheet.all (fun q => decide (decode cL_addSheet q.1 = .ok q.2)) = true := by decide +kernel
def tL_setNumber : List (Nat × Instr × Nat) := [(0, .aload 7, 2), (2, .iconst 0, 1), (3, .aload_n 0, 1), (4, .iload_n 1, 1), (5, .iload_n 2, 1), (6, .iload_n 3, 1), (7, .iload 4, 2), (9, .iload 5, 2), (11, .iload 6, 2), (13, .invokevirtual 15, 3), (16, .i2l, 1), (17, .lastore, 1), (18, .goto 15, 3), (21, .astore 8, 2), (23, .iconst 1, 1), (24, .ireturn, 1), (25, .astore 8, 2), (27, .iconst 2, 1), (28, .ireturn, 1), (29, .astore 8, 2), (31, .iconst 3, 1), (32, .ireturn, 1), (33, .iconst 0, 1), (34, .ireturn, 1)]
set_option maxRecDepth 100000 in
theorem tL_setNumber_ok : tL_setNumber.all (fun q => decide (decode cL_setNumber q.1 = .ok q.2)) = true := by decide +kernel
