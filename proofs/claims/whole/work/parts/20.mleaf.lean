set_option maxHeartbeats 4000000 in
set_option maxRecDepth 100000 in
theorem c_X6_wordAt (cA : Nat → ClassId) {M : hm_M} (row place : Int32) : hm_Met cA yX6_wordAt cX6_wordAt 2 (some .int) r_X6_wordAt [.int row, .int place] M (hm_pu (some (.int (sp_wa row place))) M) := by
  refine hm_met 0 (by decide +kernel) (fun w h => by simp only [List.mem_cons, List.not_mem_nil, or_false] at h; rcases h with rfl | rfl <;> rfl) rfl (fun C X => ?_)
  show hm_W C 0 0 _ M 0 [some (.int row), some (.int place)] []
  refine hr_iload_n X dX6_wordAt_0 rfl ?_
  refine hr_iconst (5) X dX6_wordAt_1 (by decide) ?_
  refine hr_iload_n X dX6_wordAt_2 rfl ?_
  refine hr_imul X dX6_wordAt_3 ?_
  refine hr_ishr X dX6_wordAt_4 ?_
  refine hr_bipush (31) X dX6_wordAt_5 (by decide) ?_
  refine hr_iand X dX6_wordAt_7 ?_
  exact hr_iret X dX6_wordAt_8 (Nat.le_of_ble_eq_true rfl) (Nat.le_of_ble_eq_true rfl) ⟨rfl, rfl⟩
set_option maxHeartbeats 4000000 in
set_option maxRecDepth 100000 in
theorem c_X6_lengthOf (cA : Nat → ClassId) {M : hm_M} (row : Int32) : hm_Met cA yX6_lengthOf cX6_lengthOf 2 (some .int) r_X6_lengthOf [.int row] M (hm_pu (some (.int (nI (sp_len row)))) M) := by
  refine hm_met 1 (by decide +kernel) (fun w h => by simp only [List.mem_cons, List.not_mem_nil, or_false] at h; rcases h with rfl <;> rfl) rfl (fun C X => ?_)
  show hm_W C 0 0 _ M 0 [some (.int row), none] []
  refine hr_iconst (0) X dX6_lengthOf_0 (by decide) ?_
  refine hr_istore_n X dX6_lengthOf_1 (Nat.le_of_ble_eq_true rfl) ?_
  have lp2 : ∀ (f : Nat) (n : Nat), 6 < n + f → n ≤ 6 → sp_lenF (6 - n) row n = sp_len row → hm_W C 0 0 (hm_T C (hm_pu (some (.int (nI (sp_len row)))) M) r_X6_lengthOf.cells r_X6_lengthOf.slots) M 2 [some (.int row), some (.int (nI n))] [] := by
    intro f
    induction f with
    | zero => intro n h1 h2 h3; exact absurd h1 (by omega)
    | succ f ih =>
      intro n h1 h2 h3
      refine hr_iload_n X dX6_lengthOf_2 rfl ?_
      refine hr_bipush (6) X dX6_lengthOf_3 (by decide) ?_
      refine hr_icmp_ge 22 X dX6_lengthOf_5 (by decide) (fun c5 => ?_) (fun c5 => ?_)
      · have hz : n = sp_len row := by
          have q : 6 ≤ n := (nI_leI (a := 6) (by decide) (by omega)).mp c5
          rw [← h3, show n = 6 by omega]
          rfl
        refine hr_iload_n X dX6_lengthOf_22 rfl ?_
        exact hr_iret X dX6_lengthOf_23 (Nat.le_of_ble_eq_true rfl) (Nat.le_of_ble_eq_true rfl) ⟨by rw [hz], rfl⟩
      · have hn : n < 6 := Nat.lt_of_not_le (fun q => c5 ((nI_leI (by decide) (by omega)).mpr q))
        refine hr_iload_n X dX6_lengthOf_8 rfl ?_
        refine hr_iload_n X dX6_lengthOf_9 rfl ?_
        refine hr_callS X kC6_98 dX6_lengthOf_10 (c_X6_wordAt cA (M := M) row (nI n)) rfl rfl rfl (Nat.le_of_ble_eq_true rfl) ⟨⟨(Nat.le_of_ble_eq_true rfl), (Nat.le_of_ble_eq_true rfl)⟩, (Nat.le_of_ble_eq_true rfl), (Nat.le_of_ble_eq_true rfl)⟩ (fun v M10 hp => ?_)
        obtain ⟨rfl, rfl⟩ := hp
        refine hr_if_eq 22 X dX6_lengthOf_13 (by decide) (fun c13 => ?_) (fun c13 => ?_)
        · have hz : n = sp_len row := by
            rw [← h3, show 6 - n = (6 - (n + 1)) + 1 by omega, sp_lenF, if_pos c13]
          refine hr_iload_n X dX6_lengthOf_22 rfl ?_
          exact hr_iret X dX6_lengthOf_23 (Nat.le_of_ble_eq_true rfl) (Nat.le_of_ble_eq_true rfl) ⟨by rw [hz], rfl⟩
        · refine hr_iinc (1) X dX6_lengthOf_16 rfl (by decide) ?_
          refine hr_goto 2 X dX6_lengthOf_19 (by decide) ?_
          rw [nI_1]
          exact ih (n + 1) (by omega) (by omega) (by rw [← h3, show 6 - n = (6 - (n + 1)) + 1 by omega, sp_lenF, if_neg c13])
  exact lp2 7 0 (by decide) (by decide) rfl
set_option maxHeartbeats 4000000 in
set_option maxRecDepth 100000 in
theorem c_X6_in (cA : Nat → ClassId) {M : hm_M} (v lo hi : Int32) : hm_Met cA yX6_in cX6_in 3 (some .boolean) r_X6_in [.int v, .int lo, .int hi] M (hm_pu (some (.int (hm_bI (sp_in v lo hi)))) M) := by
  refine hm_met 0 (by decide +kernel) (fun w h => by simp only [List.mem_cons, List.not_mem_nil, or_false] at h; rcases h with rfl | rfl | rfl <;> rfl) rfl (fun C X => ?_)
  show hm_W C 0 0 _ M 0 [some (.int v), some (.int lo), some (.int hi)] []
  refine hr_iload_n X dX6_in_0 rfl ?_
  refine hr_iload_n X dX6_in_1 rfl ?_
  refine hr_icmp_lt 14 X dX6_in_2 (by decide) (fun c2 => ?_) (fun c2 => ?_)
  · have hz : sp_in v lo hi = false := Bool.eq_false_iff.mpr (sp_in_f (Or.inl c2))
    refine hr_iconst (0) X dX6_in_14 (by decide) ?_
    exact hr_zret X dX6_in_15 (by rfl) (Nat.le_of_ble_eq_true rfl) (Nat.le_of_ble_eq_true rfl) ⟨by rw [hz]; rfl, rfl⟩
  · refine hr_iload_n X dX6_in_5 rfl ?_
    refine hr_iload_n X dX6_in_6 rfl ?_
    refine hr_icmp_gt 14 X dX6_in_7 (by decide) (fun c7 => ?_) (fun c7 => ?_)
    · have hz : sp_in v lo hi = false := Bool.eq_false_iff.mpr (sp_in_f (Or.inr c7))
      refine hr_iconst (0) X dX6_in_14 (by decide) ?_
      exact hr_zret X dX6_in_15 (by rfl) (Nat.le_of_ble_eq_true rfl) (Nat.le_of_ble_eq_true rfl) ⟨by rw [hz]; rfl, rfl⟩
    · have hz : sp_in v lo hi = true := sp_in_t c2 c7
      refine hr_iconst (1) X dX6_in_10 (by decide) ?_
      refine hr_goto 15 X dX6_in_11 (by decide) ?_
      exact hr_zret X dX6_in_15 (by rfl) (Nat.le_of_ble_eq_true rfl) (Nat.le_of_ble_eq_true rfl) ⟨by rw [hz]; rfl, rfl⟩
set_option maxHeartbeats 4000000 in
set_option maxRecDepth 100000 in
theorem c_X6_isClass (cA : Nat → ClassId) {M : hm_M} (v : Int32) : hm_Met cA yX6_isClass cX6_isClass 1 (some .boolean) r_X6_isClass [.int v] M (hm_pu (some (.int (hm_bI (sp_in v 0 3)))) M) := by
  refine hm_met 0 (by decide +kernel) (fun w h => by simp only [List.mem_cons, List.not_mem_nil, or_false] at h; rcases h with rfl <;> rfl) rfl (fun C X => ?_)
  show hm_W C 0 0 _ M 0 [some (.int v)] []
  refine hr_iload_n X dX6_isClass_0 rfl ?_
  refine hr_iconst (0) X dX6_isClass_1 (by decide) ?_
  refine hr_iconst (3) X dX6_isClass_2 (by decide) ?_
  refine hr_callS X kC6_87 dX6_isClass_3 (c_X6_in cA (M := M) v 0 3) rfl rfl rfl (Nat.le_of_ble_eq_true rfl) ⟨⟨(Nat.le_of_ble_eq_true rfl), (Nat.le_of_ble_eq_true rfl)⟩, (Nat.le_of_ble_eq_true rfl), (Nat.le_of_ble_eq_true rfl)⟩ (fun v M3 hp => ?_)
  obtain ⟨rfl, rfl⟩ := hp
  exact hr_zret X dX6_isClass_6 (hm_bIz _) (Nat.le_of_ble_eq_true rfl) (Nat.le_of_ble_eq_true rfl) ⟨rfl, rfl⟩
set_option maxHeartbeats 4000000 in
set_option maxRecDepth 100000 in
theorem c_X6_isPupil (cA : Nat → ClassId) {M : hm_M} (v : Int32) : hm_Met cA yX6_isPupil cX6_isPupil 1 (some .boolean) r_X6_isPupil [.int v] M (hm_pu (some (.int (hm_bI (sp_in v 0 11)))) M) := by
  refine hm_met 0 (by decide +kernel) (fun w h => by simp only [List.mem_cons, List.not_mem_nil, or_false] at h; rcases h with rfl <;> rfl) rfl (fun C X => ?_)
  show hm_W C 0 0 _ M 0 [some (.int v)] []
  refine hr_iload_n X dX6_isPupil_0 rfl ?_
  refine hr_iconst (0) X dX6_isPupil_1 (by decide) ?_
  refine hr_bipush (11) X dX6_isPupil_2 (by decide) ?_
  refine hr_callS X kC6_87 dX6_isPupil_4 (c_X6_in cA (M := M) v 0 11) rfl rfl rfl (Nat.le_of_ble_eq_true rfl) ⟨⟨(Nat.le_of_ble_eq_true rfl), (Nat.le_of_ble_eq_true rfl)⟩, (Nat.le_of_ble_eq_true rfl), (Nat.le_of_ble_eq_true rfl)⟩ (fun v M4 hp => ?_)
  obtain ⟨rfl, rfl⟩ := hp
  exact hr_zret X dX6_isPupil_7 (hm_bIz _) (Nat.le_of_ble_eq_true rfl) (Nat.le_of_ble_eq_true rfl) ⟨rfl, rfl⟩
set_option maxHeartbeats 4000000 in
set_option maxRecDepth 100000 in
theorem c_X6_isTask (cA : Nat → ClassId) {M : hm_M} (v : Int32) : hm_Met cA yX6_isTask cX6_isTask 1 (some .boolean) r_X6_isTask [.int v] M (hm_pu (some (.int (hm_bI (sp_in v 0 4)))) M) := by
  refine hm_met 0 (by decide +kernel) (fun w h => by simp only [List.mem_cons, List.not_mem_nil, or_false] at h; rcases h with rfl <;> rfl) rfl (fun C X => ?_)
  show hm_W C 0 0 _ M 0 [some (.int v)] []
  refine hr_iload_n X dX6_isTask_0 rfl ?_
  refine hr_iconst (0) X dX6_isTask_1 (by decide) ?_
  refine hr_iconst (4) X dX6_isTask_2 (by decide) ?_
  refine hr_callS X kC6_87 dX6_isTask_3 (c_X6_in cA (M := M) v 0 4) rfl rfl rfl (Nat.le_of_ble_eq_true rfl) ⟨⟨(Nat.le_of_ble_eq_true rfl), (Nat.le_of_ble_eq_true rfl)⟩, (Nat.le_of_ble_eq_true rfl), (Nat.le_of_ble_eq_true rfl)⟩ (fun v M3 hp => ?_)
  obtain ⟨rfl, rfl⟩ := hp
  exact hr_zret X dX6_isTask_6 (hm_bIz _) (Nat.le_of_ble_eq_true rfl) (Nat.le_of_ble_eq_true rfl) ⟨rfl, rfl⟩
set_option maxHeartbeats 4000000 in
set_option maxRecDepth 100000 in
theorem c_X6_print (cA : Nat → ClassId) {M : hm_M} (a b c : Int32) : hm_Met cA yX6_print cX6_print 3 (some .int) r_X6_print [.int a, .int b, .int c] M (hm_pu (some (.int (sp_pr a b c))) M) := by
  refine hm_met 0 (by decide +kernel) (fun w h => by simp only [List.mem_cons, List.not_mem_nil, or_false] at h; rcases h with rfl | rfl | rfl <;> rfl) rfl (fun C X => ?_)
  show hm_W C 0 0 _ M 0 [some (.int a), some (.int b), some (.int c)] []
  refine hr_sipush (1024) X dX6_print_0 (by decide) ?_
  refine hr_iload_n X dX6_print_3 rfl ?_
  refine hr_imul X dX6_print_4 ?_
  refine hr_bipush (32) X dX6_print_5 (by decide) ?_
  refine hr_iload_n X dX6_print_7 rfl ?_
  refine hr_imul X dX6_print_8 ?_
  refine hr_iadd X dX6_print_9 ?_
  refine hr_iload_n X dX6_print_10 rfl ?_
  refine hr_iadd X dX6_print_11 ?_
  exact hr_iret X dX6_print_12 (Nat.le_of_ble_eq_true rfl) (Nat.le_of_ble_eq_true rfl) ⟨rfl, rfl⟩
set_option maxHeartbeats 4000000 in
set_option maxRecDepth 100000 in
theorem c_X6_isRow (cA : Nat → ClassId) {M : hm_M} (row : Int32) : hm_Met cA yX6_isRow cX6_isRow 1 (some .boolean) r_X6_isRow [.int row] M (hm_pu (some (.int (hm_bI (sp_row row)))) M) := by
  refine hm_met 0 (by decide +kernel) (fun w h => by simp only [List.mem_cons, List.not_mem_nil, or_false] at h; rcases h with rfl <;> rfl) rfl (fun C X => ?_)
  show hm_W C 0 0 _ M 0 [some (.int row)] []
  refine hr_iload_n X dX6_isRow_0 rfl ?_
  refine hr_if_le 25 X dX6_isRow_1 (by decide) (fun c1 => ?_) (fun c1 => ?_)
  · have hz : sp_row row = false := by simp [sp_row, Int32.not_lt.mpr c1]
    refine hr_iconst (0) X dX6_isRow_25 (by decide) ?_
    exact hr_zret X dX6_isRow_26 (by rfl) (Nat.le_of_ble_eq_true rfl) (Nat.le_of_ble_eq_true rfl) ⟨by rw [hz]; rfl, rfl⟩
  · refine hr_iload_n X dX6_isRow_4 rfl ?_
    refine hr_ldc (1073741824) X dX6_isRow_5 kK6_102 ?_
    refine hr_icmp_ge 25 X dX6_isRow_7 (by decide) (fun c7 => ?_) (fun c7 => ?_)
    · have hz : sp_row row = false := by simp [sp_row, Int32.not_lt.mpr c7]
      refine hr_iconst (0) X dX6_isRow_25 (by decide) ?_
      exact hr_zret X dX6_isRow_26 (by rfl) (Nat.le_of_ble_eq_true rfl) (Nat.le_of_ble_eq_true rfl) ⟨by rw [hz]; rfl, rfl⟩
    · refine hr_iload_n X dX6_isRow_10 rfl ?_
      refine hr_iconst (5) X dX6_isRow_11 (by decide) ?_
      refine hr_iload_n X dX6_isRow_12 rfl ?_
      refine hr_callS X kC6_103 dX6_isRow_13 (c_X6_lengthOf cA (M := M) row) rfl rfl rfl (Nat.le_of_ble_eq_true rfl) ⟨⟨(Nat.le_of_ble_eq_true rfl), (Nat.le_of_ble_eq_true rfl)⟩, (Nat.le_of_ble_eq_true rfl), (Nat.le_of_ble_eq_true rfl)⟩ (fun v M13 hp => ?_)
      obtain ⟨rfl, rfl⟩ := hp
      refine hr_imul X dX6_isRow_16 ?_
      refine hr_ishr X dX6_isRow_17 ?_
      refine hr_if_ne 25 X dX6_isRow_18 (by decide) (fun c18 => ?_) (fun c18 => ?_)
      · have hz : sp_row row = false := by simp [sp_row, c18]
        refine hr_iconst (0) X dX6_isRow_25 (by decide) ?_
        exact hr_zret X dX6_isRow_26 (by rfl) (Nat.le_of_ble_eq_true rfl) (Nat.le_of_ble_eq_true rfl) ⟨by rw [hz]; rfl, rfl⟩
      · have hz : sp_row row = true := by simp [sp_row, c18, Int32.not_le.mp c1, Int32.not_le.mp c7]
        refine hr_iconst (1) X dX6_isRow_21 (by decide) ?_
        refine hr_goto 26 X dX6_isRow_22 (by decide) ?_
        exact hr_zret X dX6_isRow_26 (by rfl) (Nat.le_of_ble_eq_true rfl) (Nat.le_of_ble_eq_true rfl) ⟨by rw [hz]; rfl, rfl⟩
set_option maxHeartbeats 4000000 in
set_option maxRecDepth 100000 in
theorem c_X6_bits (cA : Nat → ClassId) {M : hm_M} (m : Nat) (hm : m < 64) : hm_Met cA yX6_bits cX6_bits 3 (some .int) r_X6_bits [.int (nI m)] M (hm_pu (some (.int (nI (sp_pop m)))) M) := by
  refine hm_met 2 (by decide +kernel) (fun w h => by simp only [List.mem_cons, List.not_mem_nil, or_false] at h; rcases h with rfl <;> rfl) rfl (fun C X => ?_)
  show hm_W C 0 0 _ M 0 [some (.int (nI m)), none, none] []
  refine hr_iconst (0) X dX6_bits_0 (by decide) ?_
  refine hr_istore_n X dX6_bits_1 (Nat.le_of_ble_eq_true rfl) ?_
  refine hr_iload_n X dX6_bits_2 rfl ?_
  refine hr_istore_n X dX6_bits_3 (Nat.le_of_ble_eq_true rfl) ?_
  have lp4 : ∀ (f : Nat) (r n : Nat), r < f → r ≤ m → n + sp_pop r = sp_pop m → hm_W C 0 0 (hm_T C (hm_pu (some (.int (nI (sp_pop m)))) M) r_X6_bits.cells r_X6_bits.slots) M 4 [some (.int (nI m)), some (.int (nI n)), some (.int (nI r))] [] := by
    intro f
    induction f with
    | zero => intro r n h1 h2 h3; exact absurd h1 (by omega)
    | succ f ih =>
      intro r n h1 h2 h3
      refine hr_iload_n X dX6_bits_4 rfl ?_
      refine hr_if_eq 20 X dX6_bits_5 (by decide) (fun c5 => ?_) (fun c5 => ?_)
      · have hz : n = sp_pop m := by
          have q : r = 0 := (nI_eq (b := 0) (by omega) (by decide)).mp c5
          subst q
          exact h3
        refine hr_iload_n X dX6_bits_20 rfl ?_
        exact hr_iret X dX6_bits_21 (Nat.le_of_ble_eq_true rfl) (Nat.le_of_ble_eq_true rfl) ⟨by rw [hz], rfl⟩
      · have hr : r ≠ 0 := fun q => c5 (by rw [q]; rfl)
        refine hr_iinc (1) X dX6_bits_8 rfl (by decide) ?_
        refine hr_iload_n X dX6_bits_11 rfl ?_
        refine hr_iload_n X dX6_bits_12 rfl ?_
        refine hr_iconst (1) X dX6_bits_13 (by decide) ?_
        refine hr_isub X dX6_bits_14 ?_
        refine hr_iand X dX6_bits_15 ?_
        refine hr_istore_n X dX6_bits_16 (Nat.le_of_ble_eq_true rfl) ?_
        refine hr_goto 4 X dX6_bits_17 (by decide) ?_
        rw [(sp_pop_step r (by omega) hr).1, nI_1]
        exact ih (r &&& (r - 1)) (n + 1) (by have := (sp_pop_step r (by omega) hr).2.1; omega) (by have := (sp_pop_step r (by omega) hr).2.1; omega) (by have := (sp_pop_step r (by omega) hr).2.2; omega)
  exact lp4 (m + 1) m 0 (Nat.lt_succ_self m) (Nat.le_refl m) (Nat.zero_add _)
