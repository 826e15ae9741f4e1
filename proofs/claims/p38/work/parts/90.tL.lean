/-! the law: its instructions, one table a method -/
theorem tL_at {cc : ByteArray} {l : List (Nat × Instr × Nat)} (h : l.all (fun q => decide (decode cc q.1 = .ok q.2)) = true) (i : Nat) {pc n : Nat} {ins : Instr} (hi : l[i]? = some (pc, ins, n)) : decode cc pc = .ok (ins, n) := by
  have h1 := List.all_eq_true.mp h (pc, ins, n) (List.mem_of_getElem? hi)
  dsimp only at h1
  exact of_decide_eq_true h1
set_option maxRecDepth 100000 in
def tL_sheets : List (Nat × Instr × Nat) := [(0, .aload_n 0, 1), (1, .invokevirtual 7, 3), (4, .ireturn, 1), (5, .astore_n 1, 1), (6, .ldc 15, 2), (8, .ireturn, 1)]
set_option maxRecDepth 100000 in
theorem tL_sheets_ok : tL_sheets.all (fun q => decide (decode cL_sheets q.1 = .ok q.2)) = true := by decide +kernel
set_option maxRecDepth 100000 in
def tL_numbers : List (Nat × Instr × Nat) := [(0, .aload_n 0, 1), (1, .iload_n 1, 1), (2, .iload_n 2, 1), (3, .iload_n 3, 1), (4, .iload 4, 2), (6, .iload 5, 2), (8, .iload 6, 2), (10, .invokevirtual 16, 3), (13, .ireturn, 1), (14, .astore 7, 2), (16, .ldc 22, 2), (18, .ireturn, 1), (19, .astore 7, 2), (21, .ldc 25, 2), (23, .ireturn, 1), (24, .astore 7, 2), (26, .ldc 15, 2), (28, .ireturn, 1)]
set_option maxRecDepth 100000 in
theorem tL_numbers_ok : tL_numbers.all (fun q => decide (decode cL_numbers q.1 = .ok q.2)) = true := by decide +kernel
set_option maxRecDepth 100000 in
def tL_choices : List (Nat × Instr × Nat) := [(0, .aload_n 0, 1), (1, .iload_n 1, 1), (2, .iload_n 2, 1), (3, .iload_n 3, 1), (4, .iload 4, 2), (6, .iload 5, 2), (8, .invokevirtual 26, 3), (11, .ireturn, 1), (12, .astore 6, 2), (14, .ldc 22, 2), (16, .ireturn, 1), (17, .astore 6, 2), (19, .ldc 25, 2), (21, .ireturn, 1), (22, .astore 6, 2), (24, .ldc 15, 2), (26, .ireturn, 1)]
set_option maxRecDepth 100000 in
theorem tL_choices_ok : tL_choices.all (fun q => decide (decode cL_choices q.1 = .ok q.2)) = true := by decide +kernel
set_option maxRecDepth 100000 in
def tL_words : List (Nat × Instr × Nat) := [(0, .aload_n 0, 1), (1, .iload_n 1, 1), (2, .iload_n 2, 1), (3, .iload_n 3, 1), (4, .iload 4, 2), (6, .iload 5, 2), (8, .invokevirtual 30, 3), (11, .ireturn, 1), (12, .astore 6, 2), (14, .ldc 22, 2), (16, .ireturn, 1), (17, .astore 6, 2), (19, .ldc 25, 2), (21, .ireturn, 1), (22, .astore 6, 2), (24, .ldc 15, 2), (26, .ireturn, 1)]
set_option maxRecDepth 100000 in
theorem tL_words_ok : tL_words.all (fun q => decide (decode cL_words q.1 = .ok q.2)) = true := by decide +kernel
set_option maxRecDepth 100000 in
def tL_drops : List (Nat × Instr × Nat) := [(0, .aload_n 0, 1), (1, .iload_n 1, 1), (2, .iload_n 2, 1), (3, .iload_n 3, 1), (4, .invokevirtual 33, 3), (7, .ireturn, 1), (8, .astore 4, 2), (10, .ldc 22, 2), (12, .ireturn, 1), (13, .astore 4, 2), (15, .ldc 15, 2), (17, .ireturn, 1)]
set_option maxRecDepth 100000 in
theorem tL_drops_ok : tL_drops.all (fun q => decide (decode cL_drops q.1 = .ok q.2)) = true := by decide +kernel
set_option maxRecDepth 100000 in
def tL_adopts : List (Nat × Instr × Nat) := [(0, .aload_n 0, 1), (1, .iload_n 1, 1), (2, .iload_n 2, 1), (3, .iload_n 3, 1), (4, .invokevirtual 37, 3), (7, .ireturn, 1), (8, .astore 4, 2), (10, .ldc 22, 2), (12, .ireturn, 1)]
set_option maxRecDepth 100000 in
theorem tL_adopts_ok : tL_adopts.all (fun q => decide (decode cL_adopts q.1 = .ok q.2)) = true := by decide +kernel
set_option maxRecDepth 100000 in
def tL_folds : List (Nat × Instr × Nat) := [(0, .aload_n 0, 1), (1, .iload_n 1, 1), (2, .iload_n 2, 1), (3, .invokevirtual 40, 3), (6, .ireturn, 1), (7, .astore_n 3, 1), (8, .ldc 22, 2), (10, .ireturn, 1), (11, .astore_n 3, 1), (12, .ldc 15, 2), (14, .ireturn, 1)]
set_option maxRecDepth 100000 in
theorem tL_folds_ok : tL_folds.all (fun q => decide (decode cL_folds q.1 = .ok q.2)) = true := by decide +kernel
set_option maxRecDepth 100000 in
def tL_versions : List (Nat × Instr × Nat) := [(0, .aload_n 0, 1), (1, .iload_n 1, 1), (2, .invokevirtual 44, 3), (5, .ireturn, 1), (6, .astore_n 2, 1), (7, .ldc 22, 2), (9, .ireturn, 1)]
set_option maxRecDepth 100000 in
theorem tL_versions_ok : tL_versions.all (fun q => decide (decode cL_versions q.1 = .ok q.2)) = true := by decide +kernel
set_option maxRecDepth 100000 in
def tL_head : List (Nat × Instr × Nat) := [(0, .aload_n 0, 1), (1, .iload_n 1, 1), (2, .iload_n 2, 1), (3, .invokevirtual 48, 3), (6, .ireturn, 1), (7, .astore_n 3, 1), (8, .ldc 22, 2), (10, .ireturn, 1)]
set_option maxRecDepth 100000 in
theorem tL_head_ok : tL_head.all (fun q => decide (decode cL_head q.1 = .ok q.2)) = true := by decide +kernel
set_option maxRecDepth 100000 in
def tL_parent : List (Nat × Instr × Nat) := [(0, .aload_n 0, 1), (1, .iload_n 1, 1), (2, .iload_n 2, 1), (3, .invokevirtual 51, 3), (6, .ireturn, 1), (7, .astore_n 3, 1), (8, .ldc 22, 2), (10, .ireturn, 1)]
set_option maxRecDepth 100000 in
theorem tL_parent_ok : tL_parent.all (fun q => decide (decode cL_parent q.1 = .ok q.2)) = true := by decide +kernel
set_option maxRecDepth 100000 in
def tL_kind : List (Nat × Instr × Nat) := [(0, .aload_n 0, 1), (1, .iload_n 1, 1), (2, .iload_n 2, 1), (3, .iload_n 3, 1), (4, .invokevirtual 54, 3), (7, .ireturn, 1), (8, .astore 4, 2), (10, .ldc 22, 2), (12, .ireturn, 1)]
set_option maxRecDepth 100000 in
theorem tL_kind_ok : tL_kind.all (fun q => decide (decode cL_kind q.1 = .ok q.2)) = true := by decide +kernel
set_option maxRecDepth 100000 in
def tL_toldIn : List (Nat × Instr × Nat) := [(0, .aload_n 0, 1), (1, .iload_n 1, 1), (2, .iload_n 2, 1), (3, .iload_n 3, 1), (4, .invokevirtual 57, 3), (7, .ireturn, 1), (8, .astore 4, 2), (10, .ldc 22, 2), (12, .ireturn, 1)]
set_option maxRecDepth 100000 in
theorem tL_toldIn_ok : tL_toldIn.all (fun q => decide (decode cL_toldIn q.1 = .ok q.2)) = true := by decide +kernel
set_option maxRecDepth 100000 in
def tL_points : List (Nat × Instr × Nat) := [(0, .aload_n 0, 1), (1, .iload_n 1, 1), (2, .iload_n 2, 1), (3, .invokevirtual 60, 3), (6, .ireturn, 1), (7, .astore_n 3, 1), (8, .ldc 22, 2), (10, .ireturn, 1)]
set_option maxRecDepth 100000 in
theorem tL_points_ok : tL_points.all (fun q => decide (decode cL_points q.1 = .ok q.2)) = true := by decide +kernel
set_option maxRecDepth 100000 in
def tL_mendsNumber : List (Nat × Instr × Nat) := [(0, .aload_n 0, 1), (1, .iload_n 1, 1), (2, .iload_n 2, 1), (3, .iload_n 3, 1), (4, .iload 4, 2), (6, .iload 5, 2), (8, .invokevirtual 63, 3), (11, .ireturn, 1), (12, .astore 6, 2), (14, .ldc 22, 2), (16, .ireturn, 1), (17, .astore 6, 2), (19, .ldc 25, 2), (21, .ireturn, 1), (22, .astore 6, 2), (24, .ldc 15, 2), (26, .ireturn, 1)]
set_option maxRecDepth 100000 in
theorem tL_mendsNumber_ok : tL_mendsNumber.all (fun q => decide (decode cL_mendsNumber q.1 = .ok q.2)) = true := by decide +kernel
set_option maxRecDepth 100000 in
def tL_mendsChoice : List (Nat × Instr × Nat) := [(0, .aload_n 0, 1), (1, .iload_n 1, 1), (2, .iload_n 2, 1), (3, .iload_n 3, 1), (4, .iload 4, 2), (6, .invokevirtual 66, 3), (9, .ireturn, 1), (10, .astore 5, 2), (12, .ldc 22, 2), (14, .ireturn, 1), (15, .astore 5, 2), (17, .ldc 25, 2), (19, .ireturn, 1), (20, .astore 5, 2), (22, .ldc 15, 2), (24, .ireturn, 1)]
set_option maxRecDepth 100000 in
theorem tL_mendsChoice_ok : tL_mendsChoice.all (fun q => decide (decode cL_mendsChoice q.1 = .ok q.2)) = true := by decide +kernel
set_option maxRecDepth 100000 in
def tL_mendsWords : List (Nat × Instr × Nat) := [(0, .aload_n 0, 1), (1, .iload_n 1, 1), (2, .iload_n 2, 1), (3, .iload_n 3, 1), (4, .iload 4, 2), (6, .invokevirtual 70, 3), (9, .ireturn, 1), (10, .astore 5, 2), (12, .ldc 22, 2), (14, .ireturn, 1), (15, .astore 5, 2), (17, .ldc 25, 2), (19, .ireturn, 1), (20, .astore 5, 2), (22, .ldc 15, 2), (24, .ireturn, 1)]
set_option maxRecDepth 100000 in
theorem tL_mendsWords_ok : tL_mendsWords.all (fun q => decide (decode cL_mendsWords q.1 = .ok q.2)) = true := by decide +kernel
set_option maxRecDepth 100000 in
def tL_opens : List (Nat × Instr × Nat) := [(0, .aload_n 0, 1), (1, .iload_n 1, 1), (2, .iload_n 2, 1), (3, .invokevirtual 73, 3), (6, .ireturn, 1), (7, .astore_n 3, 1), (8, .ldc 22, 2), (10, .ireturn, 1), (11, .astore_n 3, 1), (12, .ldc 15, 2), (14, .ireturn, 1)]
set_option maxRecDepth 100000 in
theorem tL_opens_ok : tL_opens.all (fun q => decide (decode cL_opens q.1 = .ok q.2)) = true := by decide +kernel
set_option maxRecDepth 100000 in
def tL_says : List (Nat × Instr × Nat) := [(0, .aload_n 0, 1), (1, .iload_n 1, 1), (2, .iload_n 2, 1), (3, .iload_n 3, 1), (4, .iload 4, 2), (6, .invokevirtual 76, 3), (9, .ireturn, 1), (10, .astore 5, 2), (12, .ldc 22, 2), (14, .ireturn, 1), (15, .astore 5, 2), (17, .ldc 25, 2), (19, .ireturn, 1), (20, .astore 5, 2), (22, .ldc 15, 2), (24, .ireturn, 1)]
set_option maxRecDepth 100000 in
theorem tL_says_ok : tL_says.all (fun q => decide (decode cL_says q.1 = .ok q.2)) = true := by decide +kernel
set_option maxRecDepth 100000 in
def tL_hands : List (Nat × Instr × Nat) := [(0, .aload_n 0, 1), (1, .iload_n 1, 1), (2, .iload_n 2, 1), (3, .invokevirtual 79, 3), (6, .ireturn, 1), (7, .astore_n 3, 1), (8, .ldc 22, 2), (10, .ireturn, 1), (11, .astore_n 3, 1), (12, .ldc 15, 2), (14, .ireturn, 1)]
set_option maxRecDepth 100000 in
theorem tL_hands_ok : tL_hands.all (fun q => decide (decode cL_hands q.1 = .ok q.2)) = true := by decide +kernel
set_option maxRecDepth 100000 in
def tL_closes : List (Nat × Instr × Nat) := [(0, .aload_n 0, 1), (1, .iload_n 1, 1), (2, .iload_n 2, 1), (3, .invokevirtual 82, 3), (6, .ireturn, 1), (7, .astore_n 3, 1), (8, .ldc 22, 2), (10, .ireturn, 1), (11, .astore_n 3, 1), (12, .ldc 15, 2), (14, .ireturn, 1)]
set_option maxRecDepth 100000 in
theorem tL_closes_ok : tL_closes.all (fun q => decide (decode cL_closes q.1 = .ok q.2)) = true := by decide +kernel
set_option maxRecDepth 100000 in
def tL_answer : List (Nat × Instr × Nat) := [(0, .aload_n 0, 1), (1, .iload_n 1, 1), (2, .iload_n 2, 1), (3, .invokevirtual 85, 3), (6, .ireturn, 1), (7, .astore_n 3, 1), (8, .ldc 22, 2), (10, .ireturn, 1)]
set_option maxRecDepth 100000 in
theorem tL_answer_ok : tL_answer.all (fun q => decide (decode cL_answer q.1 = .ok q.2)) = true := by decide +kernel
set_option maxRecDepth 100000 in
def tL_mark : List (Nat × Instr × Nat) := [(0, .aload_n 0, 1), (1, .iload_n 1, 1), (2, .iload_n 2, 1), (3, .invokevirtual 88, 3), (6, .ireturn, 1), (7, .astore_n 3, 1), (8, .ldc 22, 2), (10, .ireturn, 1)]
set_option maxRecDepth 100000 in
theorem tL_mark_ok : tL_mark.all (fun q => decide (decode cL_mark q.1 = .ok q.2)) = true := by decide +kernel
set_option maxRecDepth 100000 in
def tL_due : List (Nat × Instr × Nat) := [(0, .aload_n 0, 1), (1, .iload_n 1, 1), (2, .iload_n 2, 1), (3, .invokevirtual 91, 3), (6, .ireturn, 1), (7, .astore_n 3, 1), (8, .ldc 22, 2), (10, .ireturn, 1)]
set_option maxRecDepth 100000 in
theorem tL_due_ok : tL_due.all (fun q => decide (decode cL_due q.1 = .ok q.2)) = true := by decide +kernel
set_option maxRecDepth 100000 in
def tL_told : List (Nat × Instr × Nat) := [(0, .aload_n 0, 1), (1, .iload_n 1, 1), (2, .iload_n 2, 1), (3, .invokevirtual 94, 3), (6, .ireturn, 1), (7, .astore_n 3, 1), (8, .ldc 22, 2), (10, .ireturn, 1)]
set_option maxRecDepth 100000 in
theorem tL_told_ok : tL_told.all (fun q => decide (decode cL_told q.1 = .ok q.2)) = true := by decide +kernel
set_option maxRecDepth 100000 in
def tL_average : List (Nat × Instr × Nat) := [(0, .aload_n 0, 1), (1, .iload_n 1, 1), (2, .iload_n 2, 1), (3, .invokevirtual 97, 3), (6, .ireturn, 1), (7, .astore_n 3, 1), (8, .ldc 22, 2), (10, .ireturn, 1)]
set_option maxRecDepth 100000 in
theorem tL_average_ok : tL_average.all (fun q => decide (decode cL_average q.1 = .ok q.2)) = true := by decide +kernel
set_option maxRecDepth 100000 in
def tL_prints : List (Nat × Instr × Nat) := [(0, .aload_n 0, 1), (1, .iload_n 1, 1), (2, .iload_n 2, 1), (3, .invokevirtual 100, 3), (6, .ireturn, 1), (7, .astore_n 3, 1), (8, .ldc 22, 2), (10, .ireturn, 1)]
set_option maxRecDepth 100000 in
theorem tL_prints_ok : tL_prints.all (fun q => decide (decode cL_prints q.1 = .ok q.2)) = true := by decide +kernel
set_option maxRecDepth 100000 in
def tL_with : List (Nat × Instr × Nat) := [(0, .aload_n 0, 1), (1, .iload_n 1, 1), (2, .iload_n 2, 1), (3, .invokevirtual 103, 3), (6, .ireturn, 1), (7, .astore_n 3, 1), (8, .ldc 22, 2), (10, .ireturn, 1)]
set_option maxRecDepth 100000 in
theorem tL_with_ok : tL_with.all (fun q => decide (decode cL_with q.1 = .ok q.2)) = true := by decide +kernel
set_option maxRecDepth 100000 in
def tL_likeness : List (Nat × Instr × Nat) := [(0, .aload_n 0, 1), (1, .iload_n 1, 1), (2, .iload_n 2, 1), (3, .iload_n 3, 1), (4, .invokevirtual 106, 3), (7, .ireturn, 1), (8, .astore 4, 2), (10, .ldc 22, 2), (12, .ireturn, 1)]
set_option maxRecDepth 100000 in
theorem tL_likeness_ok : tL_likeness.all (fun q => decide (decode cL_likeness q.1 = .ok q.2)) = true := by decide +kernel
set_option maxRecDepth 100000 in
def tL_pairs : List (Nat × Instr × Nat) := [(0, .aload_n 0, 1), (1, .iload_n 1, 1), (2, .invokevirtual 109, 3), (5, .ireturn, 1), (6, .astore_n 2, 1), (7, .ldc 22, 2), (9, .ireturn, 1)]
set_option maxRecDepth 100000 in
theorem tL_pairs_ok : tL_pairs.all (fun q => decide (decode cL_pairs q.1 = .ok q.2)) = true := by decide +kernel
set_option maxRecDepth 100000 in
def tL_pairAt : List (Nat × Instr × Nat) := [(0, .aload_n 0, 1), (1, .iload_n 1, 1), (2, .iload_n 2, 1), (3, .invokevirtual 112, 3), (6, .ireturn, 1), (7, .astore_n 3, 1), (8, .ldc 22, 2), (10, .ireturn, 1)]
set_option maxRecDepth 100000 in
theorem tL_pairAt_ok : tL_pairAt.all (fun q => decide (decode cL_pairAt q.1 = .ok q.2)) = true := by decide +kernel
set_option maxRecDepth 100000 in
def tL_anew : List (Nat × Instr × Nat) := [(0, .aload_n 0, 1), (1, .iload_n 1, 1), (2, .invokevirtual 115, 3), (5, .ireturn, 1), (6, .astore_n 2, 1), (7, .ldc 22, 2), (9, .ireturn, 1)]
set_option maxRecDepth 100000 in
theorem tL_anew_ok : tL_anew.all (fun q => decide (decode cL_anew q.1 = .ok q.2)) = true := by decide +kernel
set_option maxRecDepth 100000 in
def tL_quotas : List (Nat × Instr × Nat) := [(0, .aload_n 0, 1), (1, .iload_n 1, 1), (2, .iload_n 2, 1), (3, .invokevirtual 118, 3), (6, .ireturn, 1), (7, .astore_n 3, 1), (8, .ldc 22, 2), (10, .ireturn, 1), (11, .astore_n 3, 1), (12, .ldc 25, 2), (14, .ireturn, 1)]
set_option maxRecDepth 100000 in
theorem tL_quotas_ok : tL_quotas.all (fun q => decide (decode cL_quotas q.1 = .ok q.2)) = true := by decide +kernel
set_option maxRecDepth 100000 in
def tL_used : List (Nat × Instr × Nat) := [(0, .aload_n 0, 1), (1, .iload_n 1, 1), (2, .invokevirtual 121, 3), (5, .ireturn, 1), (6, .astore_n 2, 1), (7, .ldc 22, 2), (9, .ireturn, 1)]
set_option maxRecDepth 100000 in
theorem tL_used_ok : tL_used.all (fun q => decide (decode cL_used q.1 = .ok q.2)) = true := by decide +kernel
set_option maxRecDepth 100000 in
def tL_usedAnew : List (Nat × Instr × Nat) := [(0, .aload_n 0, 1), (1, .iload_n 1, 1), (2, .invokevirtual 124, 3), (5, .ireturn, 1), (6, .astore_n 2, 1), (7, .ldc 22, 2), (9, .ireturn, 1)]
set_option maxRecDepth 100000 in
theorem tL_usedAnew_ok : tL_usedAnew.all (fun q => decide (decode cL_usedAnew q.1 = .ok q.2)) = true := by decide +kernel
set_option maxRecDepth 100000 in
def tL_drawn : List (Nat × Instr × Nat) := [(0, .iload_n 1, 1), (1, .aload_n 0, 1), (2, .arraylength, 1), (3, .if_icmp .ge 9, 3), (6, .aload_n 0, 1), (7, .iload_n 1, 1), (8, .iaload, 1), (9, .goto 13, 3), (12, .ldc 127, 2), (14, .iload_n 1, 1), (15, .iconst 3, 1), (16, .iadd, 1), (17, .imul, 1), (18, .sipush 14057, 3), (21, .iadd, 1), (22, .ldc 128, 2), (24, .iand, 1), (25, .ireturn, 1)]
set_option maxRecDepth 100000 in
theorem tL_drawn_ok : tL_drawn.all (fun q => decide (decode cL_drawn q.1 = .ok q.2)) = true := by decide +kernel
set_option maxRecDepth 100000 in
def tL_row : List (Nat × Instr × Nat) := [(0, .iconst 0, 1), (1, .istore_n 1, 1), (2, .iload_n 0, 1), (3, .iconst 4, 1), (4, .idiv, 1), (5, .istore_n 2, 1), (6, .iconst 0, 1), (7, .istore_n 3, 1), (8, .iload_n 3, 1), (9, .iload_n 0, 1), (10, .iconst 4, 1), (11, .irem, 1), (12, .iload_n 0, 1), (13, .bipush 64, 2), (15, .idiv, 1), (16, .iconst 2, 1), (17, .irem, 1), (18, .iadd, 1), (19, .if_icmp .gt 24, 3), (22, .bipush 32, 2), (24, .iload_n 1, 1), (25, .imul, 1), (26, .iconst 1, 1), (27, .iadd, 1), (28, .iload_n 2, 1), (29, .iconst 3, 1), (30, .irem, 1), (31, .iadd, 1), (32, .istore_n 1, 1), (33, .iload_n 2, 1), (34, .iconst 3, 1), (35, .idiv, 1), (36, .istore_n 2, 1), (37, .iinc 3 1, 3), (40, .goto (-32), 3), (43, .iload_n 1, 1), (44, .ireturn, 1)]
set_option maxRecDepth 100000 in
theorem tL_row_ok : tL_row.all (fun q => decide (decode cL_row q.1 = .ok q.2)) = true := by decide +kernel
