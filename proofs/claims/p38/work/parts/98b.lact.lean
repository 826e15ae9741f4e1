/-! the numbers drawn, the rows of words, the acts -/
abbrev r_L_act : Room := { frames := 10, cells := 16, slots := 166, locals := 260 }
theorem lA_and (x : Int32) : ∃ d, d < 2 ^ 31 ∧ x &&& 2147483647 = nI d := by
  refine nI_of (fun h => ?_)
  have h2 : (x &&& 2147483647).toBitVec.msb = false := by
    rw [Int32.toBitVec_and, BitVec.msb_and]
    rw [show (2147483647 : Int32).toBitVec.msb = false from by decide, Bool.and_false]
  rw [Int32.lt_iff_toInt_lt] at h
  have h3 : 0 ≤ (x &&& 2147483647).toInt := by
    show 0 ≤ (x &&& 2147483647).toBitVec.toInt
    rw [BitVec.toInt_eq_msb_cond, h2]
    simp
  have h0 : (0 : Int32).toInt = 0 := by decide
  omega
set_option maxHeartbeats 4000000 in
set_option maxRecDepth 100000 in
theorem c_L_drawn (cA : Nat → ClassId) {M : hm_M} {sc N k : Nat} {xs : Nat → Int32} (hN : N < 4096) (hk : k < 4096) : hm_SMet cA yL_drawn cL_drawn 2 (some .int) r_L_drawn [.ref sc, .int (nI k)] M sc N xs (fun v M' => (∃ d, d < 2 ^ 31 ∧ v = some (.int (nI d))) ∧ M = M') := by
  refine hm_smet 0 (by decide +kernel) (fun w h => by simp only [List.mem_cons, List.not_mem_nil, or_false] at h; rcases h with rfl | rfl <;> rfl) rfl (fun C X S => ?_)
  show hm_W C 0 0 _ M 0 [some (.ref sc), some (.int (nI k))] []
  have J : ∀ x : Int32, hm_W C 0 0 (hm_T C (fun v M' => (∃ d, d < 2 ^ 31 ∧ v = some (.int (nI d))) ∧ M = M') r_L_drawn.cells r_L_drawn.slots) M 22 [some (.ref sc), some (.int (nI k))] [.int x] := by
    intro x
    refine hr_ldc 2147483647 X (tL_at tL_drawn_ok 15 rfl) kKL_128 ?_
    refine hr_iand X (tL_at tL_drawn_ok 16 rfl) ?_
    obtain ⟨d, hd, e⟩ := lA_and x
    exact hr_iret X (tL_at tL_drawn_ok 17 rfl) (Nat.le_of_ble_eq_true rfl) (Nat.le_of_ble_eq_true rfl) ⟨⟨d, hd, by rw [e]⟩, rfl⟩
  refine hr_iload_n X (tL_at tL_drawn_ok 0 rfl) rfl ?_
  refine hr_aload_n X (tL_at tL_drawn_ok 1 rfl) rfl (Or.inr ⟨_, rfl⟩) ?_
  refine hr_slen X S (tL_at tL_drawn_ok 2 rfl) ?_
  refine hr_icmp_ge 12 X (tL_at tL_drawn_ok 3 rfl) (by decide) (fun c => ?_) (fun c => ?_)
  · refine hr_ldc 15525739 X (tL_at tL_drawn_ok 8 rfl) kKL_127 ?_
    refine hr_iload_n X (tL_at tL_drawn_ok 9 rfl) rfl ?_
    refine hr_iconst 3 X (tL_at tL_drawn_ok 10 rfl) (by decide) ?_
    refine hr_iadd X (tL_at tL_drawn_ok 11 rfl) ?_
    refine hr_imul X (tL_at tL_drawn_ok 12 rfl) ?_
    refine hr_sipush 14057 X (tL_at tL_drawn_ok 13 rfl) (by decide) ?_
    refine hr_iadd X (tL_at tL_drawn_ok 14 rfl) ?_
    exact J _
  · refine hr_aload_n X (tL_at tL_drawn_ok 4 rfl) rfl (Or.inr ⟨_, rfl⟩) ?_
    refine hr_iload_n X (tL_at tL_drawn_ok 5 rfl) rfl ?_
    have hkN : k < N := by
      rcases Nat.lt_or_ge k N with q | q
      · exact q
      · exact absurd (show Int32.ofNat N ≤ nI k from nI_le q (by omega)) c
    refine hr_sald X S (tL_at tL_drawn_ok 6 rfl) (mm_in rfl hkN (by omega)).1 ?_
    refine hr_goto 22 X (tL_at tL_drawn_ok 7 rfl) (by decide) ?_
    exact J _
def lA_rowF : Nat → Nat → Nat → Nat
  | 0, row, _ => row
  | f + 1, row, rest => lA_rowF f (32 * row + 1 + rest % 3) (rest / 3)
def lA_row (y : Nat) : Nat := lA_rowF (y % 4 + y / 64 % 2 + 1) 0 (y / 4)
set_option maxHeartbeats 4000000 in
set_option maxRecDepth 100000 in
theorem c_L_row (cA : Nat → ClassId) {M : hm_M} {y : Nat} (hy : y < 2 ^ 31) : hm_Met cA yL_row cL_row 4 (some .int) r_L_row [.int (nI y)] M (hm_pu (some (.int (nI (lA_row y)))) M) := by
  refine hm_met 3 (by decide +kernel) (fun w h => by simp only [List.mem_cons, List.not_mem_nil, or_false] at h; rcases h with rfl <;> rfl) rfl (fun C X => ?_)
  show hm_W C 0 0 _ M 0 [some (.int (nI y)), none, none, none] []
  have lp : ∀ (f row rest k : Nat), y % 4 + y / 64 % 2 + 1 < k + f → k ≤ y % 4 + y / 64 % 2 + 1 → rest < 2 ^ 31 → lA_rowF (y % 4 + y / 64 % 2 + 1 - k) row rest = lA_row y → hm_W C 0 0 (hm_T C (hm_pu (some (.int (nI (lA_row y)))) M) r_L_row.cells r_L_row.slots) M 8 [some (.int (nI y)), some (.int (nI row)), some (.int (nI rest)), some (.int (nI k))] [] := by
    intro f
    induction f with
    | zero => intro row rest k h1 h2; exact absurd h1 (by omega)
    | succ f ih =>
      intro row rest k h1 h2 h3 h4
      refine hr_iload_n X (tL_at tL_row_ok 8 rfl) rfl ?_
      refine hr_iload_n X (tL_at tL_row_ok 9 rfl) rfl ?_
      refine hr_iconst (nI 4) X (tL_at tL_row_ok 10 rfl) (by decide) ?_
      refine hl_irem X (tL_at tL_row_ok 11 rfl) (by omega) (by decide) (by decide) ?_
      refine hr_iload_n X (tL_at tL_row_ok 12 rfl) rfl ?_
      refine hr_bipush (nI 64) X (tL_at tL_row_ok 13 rfl) (by decide) ?_
      refine hl_idiv X (tL_at tL_row_ok 14 rfl) (by omega) (by decide) (by decide) ?_
      refine hr_iconst (nI 2) X (tL_at tL_row_ok 15 rfl) (by decide) ?_
      refine hl_irem X (tL_at tL_row_ok 16 rfl) (by omega) (by decide) (by decide) ?_
      refine hl_iadd X (tL_at tL_row_ok 17 rfl) ?_
      refine hr_icmp_gt 43 X (tL_at tL_row_ok 18 rfl) (by decide) (fun c => ?_) (fun c => ?_)
      · refine hr_iload_n X (tL_at tL_row_ok 35 rfl) rfl ?_
        have hz : row = lA_row y := by
          have q := (nI_ltI (by omega) (by omega)).mp c
          rw [← h4, show y % 4 + y / 64 % 2 + 1 - k = 0 by omega]
          rfl
        exact hr_iret X (tL_at tL_row_ok 36 rfl) (Nat.le_of_ble_eq_true rfl) (Nat.le_of_ble_eq_true rfl) ⟨by rw [hz], rfl⟩
      · have q : k ≤ y % 4 + y / 64 % 2 := by
          rcases Nat.lt_or_ge (y % 4 + y / 64 % 2) k with q | q
          · exact absurd (nI_lt q (by omega)) c
          · exact q
        refine hr_bipush (nI 32) X (tL_at tL_row_ok 19 rfl) (by decide) ?_
        refine hr_iload_n X (tL_at tL_row_ok 20 rfl) rfl ?_
        refine hl_imul X (tL_at tL_row_ok 21 rfl) ?_
        refine hr_iconst (nI 1) X (tL_at tL_row_ok 22 rfl) (by decide) ?_
        refine hl_iadd X (tL_at tL_row_ok 23 rfl) ?_
        refine hr_iload_n X (tL_at tL_row_ok 24 rfl) rfl ?_
        refine hr_iconst (nI 3) X (tL_at tL_row_ok 25 rfl) (by decide) ?_
        refine hl_irem X (tL_at tL_row_ok 26 rfl) (by omega) (by decide) (by decide) ?_
        refine hl_iadd X (tL_at tL_row_ok 27 rfl) ?_
        refine hr_istore_n X (tL_at tL_row_ok 28 rfl) (Nat.le_of_ble_eq_true rfl) ?_
        refine hr_iload_n X (tL_at tL_row_ok 29 rfl) rfl ?_
        refine hr_iconst (nI 3) X (tL_at tL_row_ok 30 rfl) (by decide) ?_
        refine hl_idiv X (tL_at tL_row_ok 31 rfl) (by omega) (by decide) (by decide) ?_
        refine hr_istore_n X (tL_at tL_row_ok 32 rfl) (Nat.le_of_ble_eq_true rfl) ?_
        refine hl_iinc X (tL_at tL_row_ok 33 rfl) rfl ?_
        refine hr_goto 8 X (tL_at tL_row_ok 34 rfl) (by decide) ?_
        show hm_W C 0 0 _ M 8 [some (.int (nI y)), some (.int (nI (32 * row + 1 + rest % 3))), some (.int (nI (rest / 3))), some (.int (nI (k + 1)))] []
        exact ih _ _ (k + 1) (by omega) (by omega) (by omega) (by rw [← h4, show y % 4 + y / 64 % 2 + 1 - k = (y % 4 + y / 64 % 2 + 1 - (k + 1)) + 1 by omega]; rfl)
  refine hr_iconst (nI 0) X (tL_at tL_row_ok 0 rfl) (by decide) ?_
  refine hr_istore_n X (tL_at tL_row_ok 1 rfl) (Nat.le_of_ble_eq_true rfl) ?_
  refine hr_iload_n X (tL_at tL_row_ok 2 rfl) rfl ?_
  refine hr_iconst (nI 4) X (tL_at tL_row_ok 3 rfl) (by decide) ?_
  refine hl_idiv X (tL_at tL_row_ok 4 rfl) (by omega) (by decide) (by decide) ?_
  refine hr_istore_n X (tL_at tL_row_ok 5 rfl) (Nat.le_of_ble_eq_true rfl) ?_
  refine hr_iconst (nI 0) X (tL_at tL_row_ok 6 rfl) (by decide) ?_
  refine hr_istore_n X (tL_at tL_row_ok 7 rfl) (Nat.le_of_ble_eq_true rfl) ?_
  exact lp 7 0 (y / 4) 0 (by omega) (by omega) (by omega) rfl
set_option maxHeartbeats 4000000 in
set_option maxRecDepth 100000 in
theorem w_A_numbers {C : hm_C} {nm : String} {cA : Nat → ClassId} {sg : mm_S} {N M : hm_M} {b nr m sh nn : Nat} (X : hm_X C RL cL_act 9 (some .int) nm r_L_act cA) (hI : sp_I sg) (hJ : sp_J sg) (hm : m < 2 ^ 31) (hQ : ls_Q cA N b sg M) : hm_W C 0 0 (hm_T C (lw_R cA N b (lcf lNI lNA lNS (sp_thSet sg (nI (m / 64 % 4)) (nI sh) (nI (m / 64 / 12 % 3)) (sp_areN (nI (1 + (((m / 64) / 36) % 10))) (((nI (((m / 64) / 360) % 9)) - (nI 4))) (nI (((m / 64) / 3240) % 4))) (2)) (sg 5 (nN (nI sh)))) (if (sp_thSet sg (nI (m / 64 % 4)) (nI sh) (nI (m / 64 / 12 % 3)) (sp_areN (nI (1 + (((m / 64) / 36) % 10))) (((nI (((m / 64) / 360) % 9)) - (nI 4))) (nI (((m / 64) / 3240) % 4))) (2)) = 0 then (sp_rev sg (nN (nI (m / 64 % 4))) (nN (nI sh)) (nN (nI (m / 64 / 12 % 3))) 0 (nI (1 + (((m / 64) / 36) % 10))) (((nI (((m / 64) / 360) % 9)) - (nI 4))) (nI (((m / 64) / 3240) % 4))) else sg)) r_L_act.cells r_L_act.slots) M 156 [some (.ref b), some (.ref nr), some (.int (nI m)), some (.int (nI (m / 64))), some (.int (nI sh)), some (.int (nI (m / 64 % 4))), some (.int (nI (m / 64 % 12))), some (.int (nI (m / 64 / 12 % 3))), some (.int (nI (m / 64 / 4 % nn)))] [] := by
  refine hr_aload_n X (tL_at tL_act_0_ok 40 rfl) rfl (Or.inr ⟨_, rfl⟩) ?_
  refine hr_iload X (tL_at tL_act_0_ok 41 rfl) rfl ?_
  refine hr_iload X (tL_at tL_act_0_ok 42 rfl) rfl ?_
  refine hr_iload X (tL_at tL_act_0_ok 43 rfl) rfl ?_
  refine hr_iconst (nI 1) X (tL_at tL_act_0_ok 44 rfl) (by decide) ?_
  refine hr_iload_n X (tL_at tL_act_0_ok 45 rfl) rfl ?_
  refine hr_bipush (nI 36) X (tL_at tL_act_0_ok 46 rfl) (by decide) ?_
  refine hl_idiv X (tL_at tL_act_0_ok 47 rfl) (by omega) (by decide) (by decide) ?_
  refine hr_bipush (nI 10) X (tL_at tL_act_0_ok 48 rfl) (by decide) ?_
  refine hl_irem X (tL_at tL_act_0_ok 49 rfl) (by omega) (by decide) (by decide) ?_
  refine hl_iadd X (tL_at tL_act_0_ok 50 rfl) ?_
  refine hr_iload_n X (tL_at tL_act_0_ok 51 rfl) rfl ?_
  refine hr_sipush (nI 360) X (tL_at tL_act_0_ok 52 rfl) (by decide) ?_
  refine hl_idiv X (tL_at tL_act_0_ok 53 rfl) (by omega) (by decide) (by decide) ?_
  refine hr_bipush (nI 9) X (tL_at tL_act_0_ok 54 rfl) (by decide) ?_
  refine hl_irem X (tL_at tL_act_0_ok 55 rfl) (by omega) (by decide) (by decide) ?_
  refine hr_iconst (nI 4) X (tL_at tL_act_0_ok 56 rfl) (by decide) ?_
  refine hr_isub X (tL_at tL_act_0_ok 57 rfl) ?_
  refine hr_iload_n X (tL_at tL_act_0_ok 58 rfl) rfl ?_
  refine hr_sipush (nI 3240) X (tL_at tL_act_0_ok 59 rfl) (by decide) ?_
  refine hl_idiv X (tL_at tL_act_1_ok 0 rfl) (by omega) (by decide) (by decide) ?_
  refine hr_iconst (nI 4) X (tL_at tL_act_1_ok 1 rfl) (by decide) ?_
  refine hl_irem X (tL_at tL_act_1_ok 2 rfl) (by omega) (by decide) (by decide) ?_
  refine hl_call X kSL_numbers (tL_at tL_act_1_ok 3 rfl) (c_L_numbers cA hI hJ hQ (nI (m / 64 % 4)) (nI sh) (nI (m / 64 / 12 % 3)) (nI (1 + (((m / 64) / 36) % 10))) (((nI (((m / 64) / 360) % 9)) - (nI 4))) (nI (((m / 64) / 3240) % 4))) rfl rfl rfl (Nat.le_of_ble_eq_true rfl) 16 166 ⟨⟨(Nat.le_of_ble_eq_true rfl), (Nat.le_of_ble_eq_true rfl)⟩, (Nat.le_of_ble_eq_true rfl), (Nat.le_of_ble_eq_true rfl)⟩ (Nat.le_of_ble_eq_true rfl) (Nat.le_of_ble_eq_true rfl) (fun M9 hQ9 => ?_)
  exact hr_iret X (tL_at tL_act_1_ok 4 rfl) (Nat.le_of_ble_eq_true rfl) (Nat.le_of_ble_eq_true rfl) ⟨rfl, hQ9⟩
set_option maxHeartbeats 4000000 in
set_option maxRecDepth 100000 in
theorem w_A_choices {C : hm_C} {nm : String} {cA : Nat → ClassId} {sg : mm_S} {N M : hm_M} {b nr m sh nn : Nat} (X : hm_X C RL cL_act 9 (some .int) nm r_L_act cA) (hI : sp_I sg) (hJ : sp_J sg) (hm : m < 2 ^ 31) (hQ : ls_Q cA N b sg M) : hm_W C 0 0 (hm_T C (lw_R cA N b (lcf lNI lNA lNS (sp_thSet sg (nI (m / 64 % 4)) (nI sh) (nI (m / 64 / 12 % 3)) (sp_areC (nI (1 + (((m / 64) / 36) % 10))) (nI (((m / 64) / 360) % 32))) (1)) (sg 5 (nN (nI sh)))) (if (sp_thSet sg (nI (m / 64 % 4)) (nI sh) (nI (m / 64 / 12 % 3)) (sp_areC (nI (1 + (((m / 64) / 36) % 10))) (nI (((m / 64) / 360) % 32))) (1)) = 0 then (sp_rev sg (nN (nI (m / 64 % 4))) (nN (nI sh)) (nN (nI (m / 64 / 12 % 3))) 1 (nI (1 + (((m / 64) / 36) % 10))) (nI (((m / 64) / 360) % 32)) 0) else sg)) r_L_act.cells r_L_act.slots) M 193 [some (.ref b), some (.ref nr), some (.int (nI m)), some (.int (nI (m / 64))), some (.int (nI sh)), some (.int (nI (m / 64 % 4))), some (.int (nI (m / 64 % 12))), some (.int (nI (m / 64 / 12 % 3))), some (.int (nI (m / 64 / 4 % nn)))] [] := by
  refine hr_aload_n X (tL_at tL_act_1_ok 5 rfl) rfl (Or.inr ⟨_, rfl⟩) ?_
  refine hr_iload X (tL_at tL_act_1_ok 6 rfl) rfl ?_
  refine hr_iload X (tL_at tL_act_1_ok 7 rfl) rfl ?_
  refine hr_iload X (tL_at tL_act_1_ok 8 rfl) rfl ?_
  refine hr_iconst (nI 1) X (tL_at tL_act_1_ok 9 rfl) (by decide) ?_
  refine hr_iload_n X (tL_at tL_act_1_ok 10 rfl) rfl ?_
  refine hr_bipush (nI 36) X (tL_at tL_act_1_ok 11 rfl) (by decide) ?_
  refine hl_idiv X (tL_at tL_act_1_ok 12 rfl) (by omega) (by decide) (by decide) ?_
  refine hr_bipush (nI 10) X (tL_at tL_act_1_ok 13 rfl) (by decide) ?_
  refine hl_irem X (tL_at tL_act_1_ok 14 rfl) (by omega) (by decide) (by decide) ?_
  refine hl_iadd X (tL_at tL_act_1_ok 15 rfl) ?_
  refine hr_iload_n X (tL_at tL_act_1_ok 16 rfl) rfl ?_
  refine hr_sipush (nI 360) X (tL_at tL_act_1_ok 17 rfl) (by decide) ?_
  refine hl_idiv X (tL_at tL_act_1_ok 18 rfl) (by omega) (by decide) (by decide) ?_
  refine hr_bipush (nI 32) X (tL_at tL_act_1_ok 19 rfl) (by decide) ?_
  refine hl_irem X (tL_at tL_act_1_ok 20 rfl) (by omega) (by decide) (by decide) ?_
  refine hl_call X kSL_choices (tL_at tL_act_1_ok 21 rfl) (c_L_choices cA hI hJ hQ (nI (m / 64 % 4)) (nI sh) (nI (m / 64 / 12 % 3)) (nI (1 + (((m / 64) / 36) % 10))) (nI (((m / 64) / 360) % 32))) rfl rfl rfl (Nat.le_of_ble_eq_true rfl) 16 166 ⟨⟨(Nat.le_of_ble_eq_true rfl), (Nat.le_of_ble_eq_true rfl)⟩, (Nat.le_of_ble_eq_true rfl), (Nat.le_of_ble_eq_true rfl)⟩ (Nat.le_of_ble_eq_true rfl) (Nat.le_of_ble_eq_true rfl) (fun M9 hQ9 => ?_)
  exact hr_iret X (tL_at tL_act_1_ok 22 rfl) (Nat.le_of_ble_eq_true rfl) (Nat.le_of_ble_eq_true rfl) ⟨rfl, hQ9⟩
set_option maxHeartbeats 4000000 in
set_option maxRecDepth 100000 in
theorem w_A_words {C : hm_C} {nm : String} {cA : Nat → ClassId} {sg : mm_S} {N M : hm_M} {b nr m sh nn : Nat} (X : hm_X C RL cL_act 9 (some .int) nm r_L_act cA) (hI : sp_I sg) (hJ : sp_J sg) (hm : m < 2 ^ 31) (hQ : ls_Q cA N b sg M) : hm_W C 0 0 (hm_T C (lw_R cA N b (lcf lNI lNA lNS (sp_thSet sg (nI (m / 64 % 4)) (nI sh) (nI (m / 64 / 12 % 3)) (sp_areW (nI (1 + (((m / 64) / 36) % 10))) (nI (lA_row ((m / 64) / 360)))) (nI (sp_len (nI (lA_row ((m / 64) / 360)))))) (sg 5 (nN (nI sh)))) (if (sp_thSet sg (nI (m / 64 % 4)) (nI sh) (nI (m / 64 / 12 % 3)) (sp_areW (nI (1 + (((m / 64) / 36) % 10))) (nI (lA_row ((m / 64) / 360)))) (nI (sp_len (nI (lA_row ((m / 64) / 360)))))) = 0 then (sp_rev sg (nN (nI (m / 64 % 4))) (nN (nI sh)) (nN (nI (m / 64 / 12 % 3))) 2 (nI (1 + (((m / 64) / 36) % 10))) (nI (lA_row ((m / 64) / 360))) 0) else sg)) r_L_act.cells r_L_act.slots) M 221 [some (.ref b), some (.ref nr), some (.int (nI m)), some (.int (nI (m / 64))), some (.int (nI sh)), some (.int (nI (m / 64 % 4))), some (.int (nI (m / 64 % 12))), some (.int (nI (m / 64 / 12 % 3))), some (.int (nI (m / 64 / 4 % nn)))] [] := by
  refine hr_aload_n X (tL_at tL_act_1_ok 23 rfl) rfl (Or.inr ⟨_, rfl⟩) ?_
  refine hr_iload X (tL_at tL_act_1_ok 24 rfl) rfl ?_
  refine hr_iload X (tL_at tL_act_1_ok 25 rfl) rfl ?_
  refine hr_iload X (tL_at tL_act_1_ok 26 rfl) rfl ?_
  refine hr_iconst (nI 1) X (tL_at tL_act_1_ok 27 rfl) (by decide) ?_
  refine hr_iload_n X (tL_at tL_act_1_ok 28 rfl) rfl ?_
  refine hr_bipush (nI 36) X (tL_at tL_act_1_ok 29 rfl) (by decide) ?_
  refine hl_idiv X (tL_at tL_act_1_ok 30 rfl) (by omega) (by decide) (by decide) ?_
  refine hr_bipush (nI 10) X (tL_at tL_act_1_ok 31 rfl) (by decide) ?_
  refine hl_irem X (tL_at tL_act_1_ok 32 rfl) (by omega) (by decide) (by decide) ?_
  refine hl_iadd X (tL_at tL_act_1_ok 33 rfl) ?_
  refine hr_iload_n X (tL_at tL_act_1_ok 34 rfl) rfl ?_
  refine hr_sipush (nI 360) X (tL_at tL_act_1_ok 35 rfl) (by decide) ?_
  refine hl_idiv X (tL_at tL_act_1_ok 36 rfl) (by omega) (by decide) (by decide) ?_
  refine hr_callS X kCL_224 (tL_at tL_act_1_ok 37 rfl) (c_L_row cA (by omega)) rfl rfl rfl (Nat.le_of_ble_eq_true rfl) ⟨⟨(Nat.le_of_ble_eq_true rfl), (Nat.le_of_ble_eq_true rfl)⟩, (Nat.le_of_ble_eq_true rfl), (Nat.le_of_ble_eq_true rfl)⟩ (fun v0 M0 hp => ?_)
  obtain ⟨rfl, rfl⟩ := hp
  refine hr_widen (k2 := 0) (n2 := 0) (Nat.le_of_ble_eq_true rfl) (Nat.le_of_ble_eq_true rfl) ?_
  refine hl_call X kSL_words (tL_at tL_act_1_ok 38 rfl) (c_L_words cA hI hJ hQ (nI (m / 64 % 4)) (nI sh) (nI (m / 64 / 12 % 3)) (nI (1 + (((m / 64) / 36) % 10))) (nI (lA_row ((m / 64) / 360)))) rfl rfl rfl (Nat.le_of_ble_eq_true rfl) 16 166 ⟨⟨(Nat.le_of_ble_eq_true rfl), (Nat.le_of_ble_eq_true rfl)⟩, (Nat.le_of_ble_eq_true rfl), (Nat.le_of_ble_eq_true rfl)⟩ (Nat.le_of_ble_eq_true rfl) (Nat.le_of_ble_eq_true rfl) (fun M9 hQ9 => ?_)
  exact hr_iret X (tL_at tL_act_1_ok 39 rfl) (Nat.le_of_ble_eq_true rfl) (Nat.le_of_ble_eq_true rfl) ⟨rfl, hQ9⟩
set_option maxHeartbeats 4000000 in
set_option maxRecDepth 100000 in
theorem w_A_drops {C : hm_C} {nm : String} {cA : Nat → ClassId} {sg : mm_S} {N M : hm_M} {b nr m sh nn : Nat} (X : hm_X C RL cL_act 9 (some .int) nm r_L_act cA) (hI : sp_I sg) (hJ : sp_J sg) (hm : m < 2 ^ 31) (hQ : ls_Q cA N b sg M) : hm_W C 0 0 (hm_T C (lw_R cA N b (lcf lNI lNS lNS (sp_thDrop sg (nI (m / 64 % 4)) (nI sh) (nI (m / 64 / 12 % 3))) (sg 5 (nN (nI sh)))) (if (sp_thDrop sg (nI (m / 64 % 4)) (nI sh) (nI (m / 64 / 12 % 3))) = 0 then (sp_rev sg (nN (nI (m / 64 % 4))) (nN (nI sh)) (nN (nI (m / 64 / 12 % 3))) 3 0 0 0) else sg)) r_L_act.cells r_L_act.slots) M 249 [some (.ref b), some (.ref nr), some (.int (nI m)), some (.int (nI (m / 64))), some (.int (nI sh)), some (.int (nI (m / 64 % 4))), some (.int (nI (m / 64 % 12))), some (.int (nI (m / 64 / 12 % 3))), some (.int (nI (m / 64 / 4 % nn)))] [] := by
  refine hr_aload_n X (tL_at tL_act_1_ok 40 rfl) rfl (Or.inr ⟨_, rfl⟩) ?_
  refine hr_iload X (tL_at tL_act_1_ok 41 rfl) rfl ?_
  refine hr_iload X (tL_at tL_act_1_ok 42 rfl) rfl ?_
  refine hr_iload X (tL_at tL_act_1_ok 43 rfl) rfl ?_
  refine hl_call X kSL_drops (tL_at tL_act_1_ok 44 rfl) (c_L_drops cA hI hJ hQ (nI (m / 64 % 4)) (nI sh) (nI (m / 64 / 12 % 3))) rfl rfl rfl (Nat.le_of_ble_eq_true rfl) 16 166 ⟨⟨(Nat.le_of_ble_eq_true rfl), (Nat.le_of_ble_eq_true rfl)⟩, (Nat.le_of_ble_eq_true rfl), (Nat.le_of_ble_eq_true rfl)⟩ (Nat.le_of_ble_eq_true rfl) (Nat.le_of_ble_eq_true rfl) (fun M9 hQ9 => ?_)
  exact hr_iret X (tL_at tL_act_1_ok 45 rfl) (Nat.le_of_ble_eq_true rfl) (Nat.le_of_ble_eq_true rfl) ⟨rfl, hQ9⟩
set_option maxHeartbeats 4000000 in
set_option maxRecDepth 100000 in
theorem w_A_adopts {C : hm_C} {nm : String} {cA : Nat → ClassId} {sg : mm_S} {N M : hm_M} {b nr m sh nn : Nat} (X : hm_X C RL cL_act 9 (some .int) nm r_L_act cA) (hI : sp_I sg) (hJ : sp_J sg) (hm : m < 2 ^ 31) (hQ : ls_Q cA N b sg M) : hm_W C 0 0 (hm_T C (lw_R cA N b (lcf lNI lNI lNI (sp_thAdopt sg (nI (m / 64 % 4)) (nI sh) (nI (m / 64 / 4 % nn))) (sg 10 (4 * nN (nI sh) + nN (nI (m / 64 % 4))))) (if (sp_thAdopt sg (nI (m / 64 % 4)) (nI sh) (nI (m / 64 / 4 % nn))) = 0 then (mm_up sg 10 (4 * nN (nI sh) + nN (nI (m / 64 % 4))) (nI (m / 64 / 4 % nn))) else sg)) r_L_act.cells r_L_act.slots) M 260 [some (.ref b), some (.ref nr), some (.int (nI m)), some (.int (nI (m / 64))), some (.int (nI sh)), some (.int (nI (m / 64 % 4))), some (.int (nI (m / 64 % 12))), some (.int (nI (m / 64 / 12 % 3))), some (.int (nI (m / 64 / 4 % nn)))] [] := by
  refine hr_aload_n X (tL_at tL_act_1_ok 46 rfl) rfl (Or.inr ⟨_, rfl⟩) ?_
  refine hr_iload X (tL_at tL_act_1_ok 47 rfl) rfl ?_
  refine hr_iload X (tL_at tL_act_1_ok 48 rfl) rfl ?_
  refine hr_iload X (tL_at tL_act_1_ok 49 rfl) rfl ?_
  refine hl_call X kSL_adopts (tL_at tL_act_1_ok 50 rfl) (c_L_adopts cA hI hJ hQ (nI (m / 64 % 4)) (nI sh) (nI (m / 64 / 4 % nn))) rfl rfl rfl (Nat.le_of_ble_eq_true rfl) 16 166 ⟨⟨(Nat.le_of_ble_eq_true rfl), (Nat.le_of_ble_eq_true rfl)⟩, (Nat.le_of_ble_eq_true rfl), (Nat.le_of_ble_eq_true rfl)⟩ (Nat.le_of_ble_eq_true rfl) (Nat.le_of_ble_eq_true rfl) (fun M9 hQ9 => ?_)
  exact hr_iret X (tL_at tL_act_1_ok 51 rfl) (Nat.le_of_ble_eq_true rfl) (Nat.le_of_ble_eq_true rfl) ⟨rfl, hQ9⟩
set_option maxHeartbeats 4000000 in
set_option maxRecDepth 100000 in
theorem w_A_folds {C : hm_C} {nm : String} {cA : Nat → ClassId} {sg : mm_S} {N M : hm_M} {b nr m sh nn : Nat} (X : hm_X C RL cL_act 9 (some .int) nm r_L_act cA) (hI : sp_I sg) (hJ : sp_J sg) (hm : m < 2 ^ 31) (hQ : ls_Q cA N b sg M) : hm_W C 0 0 (hm_T C (lw_R cA N b (lcf lNI lNS lNS (sp_thFold sg (nI sh) (nI (m / 64 / 4 % nn))) (sp_pass sg (16 * nN (nI sh) + nN (nI (m / 64 / 4 % nn))) (sp_toO sg (nN (nI sh)) (nN (nI (m / 64 / 4 % nn)))) false)) (if (sp_thFold sg (nI sh) (nI (m / 64 / 4 % nn))) = 0 then (sp_foldS sg (nN (nI sh)) (nN (nI (m / 64 / 4 % nn)))) else sg)) r_L_act.cells r_L_act.slots) M 271 [some (.ref b), some (.ref nr), some (.int (nI m)), some (.int (nI (m / 64))), some (.int (nI sh)), some (.int (nI (m / 64 % 4))), some (.int (nI (m / 64 % 12))), some (.int (nI (m / 64 / 12 % 3))), some (.int (nI (m / 64 / 4 % nn)))] [] := by
  refine hr_aload_n X (tL_at tL_act_1_ok 52 rfl) rfl (Or.inr ⟨_, rfl⟩) ?_
  refine hr_iload X (tL_at tL_act_1_ok 53 rfl) rfl ?_
  refine hr_iload X (tL_at tL_act_1_ok 54 rfl) rfl ?_
  refine hl_call X kSL_folds (tL_at tL_act_1_ok 55 rfl) (c_L_folds cA hI hJ hQ (nI sh) (nI (m / 64 / 4 % nn))) rfl rfl rfl (Nat.le_of_ble_eq_true rfl) 16 166 ⟨⟨(Nat.le_of_ble_eq_true rfl), (Nat.le_of_ble_eq_true rfl)⟩, (Nat.le_of_ble_eq_true rfl), (Nat.le_of_ble_eq_true rfl)⟩ (Nat.le_of_ble_eq_true rfl) (Nat.le_of_ble_eq_true rfl) (fun M9 hQ9 => ?_)
  exact hr_iret X (tL_at tL_act_1_ok 56 rfl) (Nat.le_of_ble_eq_true rfl) (Nat.le_of_ble_eq_true rfl) ⟨rfl, hQ9⟩
set_option maxHeartbeats 4000000 in
set_option maxRecDepth 100000 in
theorem w_A_mendsNumber {C : hm_C} {nm : String} {cA : Nat → ClassId} {sg : mm_S} {N M : hm_M} {b nr m sh nn : Nat} (X : hm_X C RL cL_act 9 (some .int) nm r_L_act cA) (hI : sp_I sg) (hJ : sp_J sg) (hm : m < 2 ^ 31) (hQ : ls_Q cA N b sg M) : hm_W C 0 0 (hm_T C (lw_R cA N b (lcf lNI lNA lNS (sp_thMen sg (nI sh) (nI (m / 64 / 4 % nn)) (nI (((m / 64) / 64) % 3)) (sp_in (((nI (((m / 64) / 192) % 9)) - (nI 4))) (-1000) 1000 && sp_in (nI (((m / 64) / 1728) % 4)) 0 100) 0) (sp_mendN sg (nN (nI sh)) (sp_menE sg (nN (nI sh)) (nN (nI (m / 64 / 4 % nn))) (nN (nI (((m / 64) / 64) % 3))) 0) (((nI (((m / 64) / 192) % 9)) - (nI 4))) (nI (((m / 64) / 1728) % 4)))) (if (sp_thMen sg (nI sh) (nI (m / 64 / 4 % nn)) (nI (((m / 64) / 64) % 3)) (sp_in (((nI (((m / 64) / 192) % 9)) - (nI 4))) (-1000) 1000 && sp_in (nI (((m / 64) / 1728) % 4)) 0 100) 0) = 0 then (sp_mend sg (nN (nI sh)) (sp_menE sg (nN (nI sh)) (nN (nI (m / 64 / 4 % nn))) (nN (nI (((m / 64) / 64) % 3))) 0) (((nI (((m / 64) / 192) % 9)) - (nI 4))) (nI (((m / 64) / 1728) % 4))) else sg)) r_L_act.cells r_L_act.slots) M 280 [some (.ref b), some (.ref nr), some (.int (nI m)), some (.int (nI (m / 64))), some (.int (nI sh)), some (.int (nI (m / 64 % 4))), some (.int (nI (m / 64 % 12))), some (.int (nI (m / 64 / 12 % 3))), some (.int (nI (m / 64 / 4 % nn)))] [] := by
  refine hr_aload_n X (tL_at tL_act_1_ok 57 rfl) rfl (Or.inr ⟨_, rfl⟩) ?_
  refine hr_iload X (tL_at tL_act_1_ok 58 rfl) rfl ?_
  refine hr_iload X (tL_at tL_act_1_ok 59 rfl) rfl ?_
  refine hr_iload_n X (tL_at tL_act_2_ok 0 rfl) rfl ?_
  refine hr_bipush (nI 64) X (tL_at tL_act_2_ok 1 rfl) (by decide) ?_
  refine hl_idiv X (tL_at tL_act_2_ok 2 rfl) (by omega) (by decide) (by decide) ?_
  refine hr_iconst (nI 3) X (tL_at tL_act_2_ok 3 rfl) (by decide) ?_
  refine hl_irem X (tL_at tL_act_2_ok 4 rfl) (by omega) (by decide) (by decide) ?_
  refine hr_iload_n X (tL_at tL_act_2_ok 5 rfl) rfl ?_
  refine hr_sipush (nI 192) X (tL_at tL_act_2_ok 6 rfl) (by decide) ?_
  refine hl_idiv X (tL_at tL_act_2_ok 7 rfl) (by omega) (by decide) (by decide) ?_
  refine hr_bipush (nI 9) X (tL_at tL_act_2_ok 8 rfl) (by decide) ?_
  refine hl_irem X (tL_at tL_act_2_ok 9 rfl) (by omega) (by decide) (by decide) ?_
  refine hr_iconst (nI 4) X (tL_at tL_act_2_ok 10 rfl) (by decide) ?_
  refine hr_isub X (tL_at tL_act_2_ok 11 rfl) ?_
  refine hr_iload_n X (tL_at tL_act_2_ok 12 rfl) rfl ?_
  refine hr_sipush (nI 1728) X (tL_at tL_act_2_ok 13 rfl) (by decide) ?_
  refine hl_idiv X (tL_at tL_act_2_ok 14 rfl) (by omega) (by decide) (by decide) ?_
  refine hr_iconst (nI 4) X (tL_at tL_act_2_ok 15 rfl) (by decide) ?_
  refine hl_irem X (tL_at tL_act_2_ok 16 rfl) (by omega) (by decide) (by decide) ?_
  refine hl_call X kSL_mendsNumber (tL_at tL_act_2_ok 17 rfl) (c_L_mendsNumber cA hI hJ hQ (nI sh) (nI (m / 64 / 4 % nn)) (nI (((m / 64) / 64) % 3)) (((nI (((m / 64) / 192) % 9)) - (nI 4))) (nI (((m / 64) / 1728) % 4))) rfl rfl rfl (Nat.le_of_ble_eq_true rfl) 16 166 ⟨⟨(Nat.le_of_ble_eq_true rfl), (Nat.le_of_ble_eq_true rfl)⟩, (Nat.le_of_ble_eq_true rfl), (Nat.le_of_ble_eq_true rfl)⟩ (Nat.le_of_ble_eq_true rfl) (Nat.le_of_ble_eq_true rfl) (fun M9 hQ9 => ?_)
  exact hr_iret X (tL_at tL_act_2_ok 18 rfl) (Nat.le_of_ble_eq_true rfl) (Nat.le_of_ble_eq_true rfl) ⟨rfl, hQ9⟩
set_option maxHeartbeats 4000000 in
set_option maxRecDepth 100000 in
theorem w_A_mendsChoice {C : hm_C} {nm : String} {cA : Nat → ClassId} {sg : mm_S} {N M : hm_M} {b nr m sh nn : Nat} (X : hm_X C RL cL_act 9 (some .int) nm r_L_act cA) (hI : sp_I sg) (hJ : sp_J sg) (hm : m < 2 ^ 31) (hQ : ls_Q cA N b sg M) : hm_W C 0 0 (hm_T C (lw_R cA N b (lcf lNI lNA lNS (sp_thMen sg (nI sh) (nI (m / 64 / 4 % nn)) (nI (((m / 64) / 64) % 3)) (sp_in (nI (((m / 64) / 192) % 32)) 0 31) 1) (sp_mendN sg (nN (nI sh)) (sp_menE sg (nN (nI sh)) (nN (nI (m / 64 / 4 % nn))) (nN (nI (((m / 64) / 64) % 3))) 1) (nI (((m / 64) / 192) % 32)) 0)) (if (sp_thMen sg (nI sh) (nI (m / 64 / 4 % nn)) (nI (((m / 64) / 64) % 3)) (sp_in (nI (((m / 64) / 192) % 32)) 0 31) 1) = 0 then (sp_mend sg (nN (nI sh)) (sp_menE sg (nN (nI sh)) (nN (nI (m / 64 / 4 % nn))) (nN (nI (((m / 64) / 64) % 3))) 1) (nI (((m / 64) / 192) % 32)) 0) else sg)) r_L_act.cells r_L_act.slots) M 312 [some (.ref b), some (.ref nr), some (.int (nI m)), some (.int (nI (m / 64))), some (.int (nI sh)), some (.int (nI (m / 64 % 4))), some (.int (nI (m / 64 % 12))), some (.int (nI (m / 64 / 12 % 3))), some (.int (nI (m / 64 / 4 % nn)))] [] := by
  refine hr_aload_n X (tL_at tL_act_2_ok 19 rfl) rfl (Or.inr ⟨_, rfl⟩) ?_
  refine hr_iload X (tL_at tL_act_2_ok 20 rfl) rfl ?_
  refine hr_iload X (tL_at tL_act_2_ok 21 rfl) rfl ?_
  refine hr_iload_n X (tL_at tL_act_2_ok 22 rfl) rfl ?_
  refine hr_bipush (nI 64) X (tL_at tL_act_2_ok 23 rfl) (by decide) ?_
  refine hl_idiv X (tL_at tL_act_2_ok 24 rfl) (by omega) (by decide) (by decide) ?_
  refine hr_iconst (nI 3) X (tL_at tL_act_2_ok 25 rfl) (by decide) ?_
  refine hl_irem X (tL_at tL_act_2_ok 26 rfl) (by omega) (by decide) (by decide) ?_
  refine hr_iload_n X (tL_at tL_act_2_ok 27 rfl) rfl ?_
  refine hr_sipush (nI 192) X (tL_at tL_act_2_ok 28 rfl) (by decide) ?_
  refine hl_idiv X (tL_at tL_act_2_ok 29 rfl) (by omega) (by decide) (by decide) ?_
  refine hr_bipush (nI 32) X (tL_at tL_act_2_ok 30 rfl) (by decide) ?_
  refine hl_irem X (tL_at tL_act_2_ok 31 rfl) (by omega) (by decide) (by decide) ?_
  refine hl_call X kSL_mendsChoice (tL_at tL_act_2_ok 32 rfl) (c_L_mendsChoice cA hI hJ hQ (nI sh) (nI (m / 64 / 4 % nn)) (nI (((m / 64) / 64) % 3)) (nI (((m / 64) / 192) % 32))) rfl rfl rfl (Nat.le_of_ble_eq_true rfl) 16 166 ⟨⟨(Nat.le_of_ble_eq_true rfl), (Nat.le_of_ble_eq_true rfl)⟩, (Nat.le_of_ble_eq_true rfl), (Nat.le_of_ble_eq_true rfl)⟩ (Nat.le_of_ble_eq_true rfl) (Nat.le_of_ble_eq_true rfl) (fun M9 hQ9 => ?_)
  exact hr_iret X (tL_at tL_act_2_ok 33 rfl) (Nat.le_of_ble_eq_true rfl) (Nat.le_of_ble_eq_true rfl) ⟨rfl, hQ9⟩
set_option maxHeartbeats 4000000 in
set_option maxRecDepth 100000 in
theorem w_A_mendsWords {C : hm_C} {nm : String} {cA : Nat → ClassId} {sg : mm_S} {N M : hm_M} {b nr m sh nn : Nat} (X : hm_X C RL cL_act 9 (some .int) nm r_L_act cA) (hI : sp_I sg) (hJ : sp_J sg) (hm : m < 2 ^ 31) (hQ : ls_Q cA N b sg M) : hm_W C 0 0 (hm_T C (lw_R cA N b (lcf lNI lNA lNS (sp_thMenW sg (nI sh) (nI (m / 64 / 4 % nn)) (nI (((m / 64) / 64) % 3)) (nI (lA_row ((m / 64) / 192)))) (sp_mendN sg (nN (nI sh)) (sp_menE sg (nN (nI sh)) (nN (nI (m / 64 / 4 % nn))) (nN (nI (((m / 64) / 64) % 3))) 2) (nI (lA_row ((m / 64) / 192))) 0)) (if (sp_thMenW sg (nI sh) (nI (m / 64 / 4 % nn)) (nI (((m / 64) / 64) % 3)) (nI (lA_row ((m / 64) / 192)))) = 0 then (sp_mend sg (nN (nI sh)) (sp_menE sg (nN (nI sh)) (nN (nI (m / 64 / 4 % nn))) (nN (nI (((m / 64) / 64) % 3))) 2) (nI (lA_row ((m / 64) / 192))) 0) else sg)) r_L_act.cells r_L_act.slots) M 335 [some (.ref b), some (.ref nr), some (.int (nI m)), some (.int (nI (m / 64))), some (.int (nI sh)), some (.int (nI (m / 64 % 4))), some (.int (nI (m / 64 % 12))), some (.int (nI (m / 64 / 12 % 3))), some (.int (nI (m / 64 / 4 % nn)))] [] := by
  refine hr_aload_n X (tL_at tL_act_2_ok 34 rfl) rfl (Or.inr ⟨_, rfl⟩) ?_
  refine hr_iload X (tL_at tL_act_2_ok 35 rfl) rfl ?_
  refine hr_iload X (tL_at tL_act_2_ok 36 rfl) rfl ?_
  refine hr_iload_n X (tL_at tL_act_2_ok 37 rfl) rfl ?_
  refine hr_bipush (nI 64) X (tL_at tL_act_2_ok 38 rfl) (by decide) ?_
  refine hl_idiv X (tL_at tL_act_2_ok 39 rfl) (by omega) (by decide) (by decide) ?_
  refine hr_iconst (nI 3) X (tL_at tL_act_2_ok 40 rfl) (by decide) ?_
  refine hl_irem X (tL_at tL_act_2_ok 41 rfl) (by omega) (by decide) (by decide) ?_
  refine hr_iload_n X (tL_at tL_act_2_ok 42 rfl) rfl ?_
  refine hr_sipush (nI 192) X (tL_at tL_act_2_ok 43 rfl) (by decide) ?_
  refine hl_idiv X (tL_at tL_act_2_ok 44 rfl) (by omega) (by decide) (by decide) ?_
  refine hr_callS X kCL_224 (tL_at tL_act_2_ok 45 rfl) (c_L_row cA (by omega)) rfl rfl rfl (Nat.le_of_ble_eq_true rfl) ⟨⟨(Nat.le_of_ble_eq_true rfl), (Nat.le_of_ble_eq_true rfl)⟩, (Nat.le_of_ble_eq_true rfl), (Nat.le_of_ble_eq_true rfl)⟩ (fun v0 M0 hp => ?_)
  obtain ⟨rfl, rfl⟩ := hp
  refine hr_widen (k2 := 0) (n2 := 0) (Nat.le_of_ble_eq_true rfl) (Nat.le_of_ble_eq_true rfl) ?_
  refine hl_call X kSL_mendsWords (tL_at tL_act_2_ok 46 rfl) (c_L_mendsWords cA hI hJ hQ (nI sh) (nI (m / 64 / 4 % nn)) (nI (((m / 64) / 64) % 3)) (nI (lA_row ((m / 64) / 192)))) rfl rfl rfl (Nat.le_of_ble_eq_true rfl) 16 166 ⟨⟨(Nat.le_of_ble_eq_true rfl), (Nat.le_of_ble_eq_true rfl)⟩, (Nat.le_of_ble_eq_true rfl), (Nat.le_of_ble_eq_true rfl)⟩ (Nat.le_of_ble_eq_true rfl) (Nat.le_of_ble_eq_true rfl) (fun M9 hQ9 => ?_)
  exact hr_iret X (tL_at tL_act_2_ok 47 rfl) (Nat.le_of_ble_eq_true rfl) (Nat.le_of_ble_eq_true rfl) ⟨rfl, hQ9⟩
set_option maxHeartbeats 4000000 in
set_option maxRecDepth 100000 in
theorem w_A_opens {C : hm_C} {nm : String} {cA : Nat → ClassId} {sg : mm_S} {N M : hm_M} {b nr m sh nn : Nat} (X : hm_X C RL cL_act 9 (some .int) nm r_L_act cA) (hI : sp_I sg) (hJ : sp_J sg) (hm : m < 2 ^ 31) (hQ : ls_Q cA N b sg M) : hm_W C 0 0 (hm_T C (lw_R cA N b (lcf lNI lNS lNS (sp_thOpen sg (nI (m / 64 % 12)) (nI sh)) (sg 10 (4 * nN (nI sh) + nN (nI (m / 64 % 12)) / 3))) (if (sp_thOpen sg (nI (m / 64 % 12)) (nI sh)) = 0 then (sp_openS sg (nN (nI (m / 64 % 12))) (nN (nI sh))) else sg)) r_L_act.cells r_L_act.slots) M 358 [some (.ref b), some (.ref nr), some (.int (nI m)), some (.int (nI (m / 64))), some (.int (nI sh)), some (.int (nI (m / 64 % 4))), some (.int (nI (m / 64 % 12))), some (.int (nI (m / 64 / 12 % 3))), some (.int (nI (m / 64 / 4 % nn)))] [] := by
  refine hr_aload_n X (tL_at tL_act_2_ok 48 rfl) rfl (Or.inr ⟨_, rfl⟩) ?_
  refine hr_iload X (tL_at tL_act_2_ok 49 rfl) rfl ?_
  refine hr_iload X (tL_at tL_act_2_ok 50 rfl) rfl ?_
  refine hl_call X kSL_opens (tL_at tL_act_2_ok 51 rfl) (c_L_opens cA hI hJ hQ (nI (m / 64 % 12)) (nI sh)) rfl rfl rfl (Nat.le_of_ble_eq_true rfl) 16 166 ⟨⟨(Nat.le_of_ble_eq_true rfl), (Nat.le_of_ble_eq_true rfl)⟩, (Nat.le_of_ble_eq_true rfl), (Nat.le_of_ble_eq_true rfl)⟩ (Nat.le_of_ble_eq_true rfl) (Nat.le_of_ble_eq_true rfl) (fun M9 hQ9 => ?_)
  exact hr_iret X (tL_at tL_act_2_ok 52 rfl) (Nat.le_of_ble_eq_true rfl) (Nat.le_of_ble_eq_true rfl) ⟨rfl, hQ9⟩
set_option maxHeartbeats 4000000 in
set_option maxRecDepth 100000 in
theorem w_A_hands {C : hm_C} {nm : String} {cA : Nat → ClassId} {sg : mm_S} {N M : hm_M} {b nr m sh nn : Nat} (X : hm_X C RL cL_act 9 (some .int) nm r_L_act cA) (hI : sp_I sg) (hJ : sp_J sg) (hm : m < 2 ^ 31) (hQ : ls_Q cA N b sg M) : hm_W C 0 0 (hm_T C (lw_R cA N b (lcf lNI lNS lNS (sp_thHand sg (nI (m / 64 % 12)) (nI sh)) (sp_due sg (sp_k (nI (m / 64 % 12)) (nI sh)))) (if (sp_thHand sg (nI (m / 64 % 12)) (nI sh)) = 0 then (sp_handS sg (sp_k (nI (m / 64 % 12)) (nI sh))) else sg)) r_L_act.cells r_L_act.slots) M 367 [some (.ref b), some (.ref nr), some (.int (nI m)), some (.int (nI (m / 64))), some (.int (nI sh)), some (.int (nI (m / 64 % 4))), some (.int (nI (m / 64 % 12))), some (.int (nI (m / 64 / 12 % 3))), some (.int (nI (m / 64 / 4 % nn)))] [] := by
  refine hr_aload_n X (tL_at tL_act_2_ok 53 rfl) rfl (Or.inr ⟨_, rfl⟩) ?_
  refine hr_iload X (tL_at tL_act_2_ok 54 rfl) rfl ?_
  refine hr_iload X (tL_at tL_act_2_ok 55 rfl) rfl ?_
  refine hl_call X kSL_hands (tL_at tL_act_2_ok 56 rfl) (c_L_hands cA hI hJ hQ (nI (m / 64 % 12)) (nI sh)) rfl rfl rfl (Nat.le_of_ble_eq_true rfl) 16 166 ⟨⟨(Nat.le_of_ble_eq_true rfl), (Nat.le_of_ble_eq_true rfl)⟩, (Nat.le_of_ble_eq_true rfl), (Nat.le_of_ble_eq_true rfl)⟩ (Nat.le_of_ble_eq_true rfl) (Nat.le_of_ble_eq_true rfl) (fun M9 hQ9 => ?_)
  exact hr_iret X (tL_at tL_act_2_ok 57 rfl) (Nat.le_of_ble_eq_true rfl) (Nat.le_of_ble_eq_true rfl) ⟨rfl, hQ9⟩
set_option maxHeartbeats 4000000 in
set_option maxRecDepth 100000 in
theorem w_A_says {C : hm_C} {nm : String} {cA : Nat → ClassId} {sg : mm_S} {N M : hm_M} {b nr m sh nn : Nat} (X : hm_X C RL cL_act 9 (some .int) nm r_L_act cA) (hI : sp_I sg) (hJ : sp_J sg) (hm : m < 2 ^ 31) (hQ : ls_Q cA N b sg M) : hm_W C 0 0 (hm_T C (lw_R cA N b (lcf lNI lNA lNS (sp_thSay sg (nI (m / 64 % 12)) (nI sh) (nI (m / 64 / 12 % 3)) (nI (((m / 64) / 36) % 4))) (sp_taken (sp_sayN sg (nN (nI (m / 64 % 12))) (nN (nI sh)) (nN (nI (m / 64 / 12 % 3))) (nI (((m / 64) / 36) % 4))) (sp_k (nI (m / 64 % 12)) (nI sh)))) (if (sp_thSay sg (nI (m / 64 % 12)) (nI sh) (nI (m / 64 / 12 % 3)) (nI (((m / 64) / 36) % 4))) = 0 then (sp_sayN sg (nN (nI (m / 64 % 12))) (nN (nI sh)) (nN (nI (m / 64 / 12 % 3))) (nI (((m / 64) / 36) % 4))) else sg)) r_L_act.cells r_L_act.slots) M 429 [some (.ref b), some (.ref nr), some (.int (nI m)), some (.int (nI (m / 64))), some (.int (nI sh)), some (.int (nI (m / 64 % 4))), some (.int (nI (m / 64 % 12))), some (.int (nI (m / 64 / 12 % 3))), some (.int (nI (m / 64 / 4 % nn)))] [] := by
  refine hr_aload_n X (tL_at tL_act_3_ok 30 rfl) rfl (Or.inr ⟨_, rfl⟩) ?_
  refine hr_iload X (tL_at tL_act_3_ok 31 rfl) rfl ?_
  refine hr_iload X (tL_at tL_act_3_ok 32 rfl) rfl ?_
  refine hr_iload X (tL_at tL_act_3_ok 33 rfl) rfl ?_
  refine hr_iload_n X (tL_at tL_act_3_ok 34 rfl) rfl ?_
  refine hr_bipush (nI 36) X (tL_at tL_act_3_ok 35 rfl) (by decide) ?_
  refine hl_idiv X (tL_at tL_act_3_ok 36 rfl) (by omega) (by decide) (by decide) ?_
  refine hr_iconst (nI 4) X (tL_at tL_act_3_ok 37 rfl) (by decide) ?_
  refine hl_irem X (tL_at tL_act_3_ok 38 rfl) (by omega) (by decide) (by decide) ?_
  refine hl_call X kSL_says (tL_at tL_act_3_ok 39 rfl) (c_L_says cA hI hJ hQ (nI (m / 64 % 12)) (nI sh) (nI (m / 64 / 12 % 3)) (nI (((m / 64) / 36) % 4))) rfl rfl rfl (Nat.le_of_ble_eq_true rfl) 16 166 ⟨⟨(Nat.le_of_ble_eq_true rfl), (Nat.le_of_ble_eq_true rfl)⟩, (Nat.le_of_ble_eq_true rfl), (Nat.le_of_ble_eq_true rfl)⟩ (Nat.le_of_ble_eq_true rfl) (Nat.le_of_ble_eq_true rfl) (fun M9 hQ9 => ?_)
  exact hr_iret X (tL_at tL_act_3_ok 40 rfl) (Nat.le_of_ble_eq_true rfl) (Nat.le_of_ble_eq_true rfl) ⟨rfl, hQ9⟩
set_option maxHeartbeats 4000000 in
set_option maxRecDepth 100000 in
theorem w_A_used {C : hm_C} {nm : String} {cA : Nat → ClassId} {sg : mm_S} {N M : hm_M} {b nr m sh nn : Nat} (X : hm_X C RL cL_act 9 (some .int) nm r_L_act cA) (hI : sp_I sg) (hJ : sp_J sg) (hm : m < 2 ^ 31) (hQ : ls_Q cA N b sg M) (hc : ¬ nI (m / 64 / 4 % 4) ≤ 0) : hm_W C 0 0 (hm_T C (lw_R cA N b (lcf lNI lNI lNI (sp_w (sp_in (nI (m / 64 % 4)) 0 3)) (sp_used sg (nI (m / 64 % 4)))) sg) r_L_act.cells r_L_act.slots) M 376 [some (.ref b), some (.ref nr), some (.int (nI m)), some (.int (nI (m / 64))), some (.int (nI sh)), some (.int (nI (m / 64 % 4))), some (.int (nI (m / 64 % 12))), some (.int (nI (m / 64 / 12 % 3))), some (.int (nI (m / 64 / 4 % nn)))] [] := by
  refine hr_iload_n X (tL_at tL_act_2_ok 58 rfl) rfl ?_
  refine hr_iconst (nI 4) X (tL_at tL_act_2_ok 59 rfl) (by decide) ?_
  refine hl_idiv X (tL_at tL_act_3_ok 0 rfl) (by omega) (by decide) (by decide) ?_
  refine hr_iconst (nI 4) X (tL_at tL_act_3_ok 1 rfl) (by decide) ?_
  refine hl_irem X (tL_at tL_act_3_ok 2 rfl) (by omega) (by decide) (by decide) ?_
  refine hr_if_le 393 X (tL_at tL_act_3_ok 3 rfl) (by decide) (fun c => absurd c hc) (fun _ => ?_)
  refine hr_aload_n X (tL_at tL_act_3_ok 4 rfl) rfl (Or.inr ⟨_, rfl⟩) ?_
  refine hr_iload X (tL_at tL_act_3_ok 5 rfl) rfl ?_
  refine hl_call X kSL_used (tL_at tL_act_3_ok 6 rfl) (c_L_used cA hI hJ hQ (nI (m / 64 % 4))) rfl rfl rfl (Nat.le_of_ble_eq_true rfl) 16 166 ⟨⟨(Nat.le_of_ble_eq_true rfl), (Nat.le_of_ble_eq_true rfl)⟩, (Nat.le_of_ble_eq_true rfl), (Nat.le_of_ble_eq_true rfl)⟩ (Nat.le_of_ble_eq_true rfl) (Nat.le_of_ble_eq_true rfl) (fun M9 hQ9 => ?_)
  refine hr_goto 401 X (tL_at tL_act_3_ok 7 rfl) (by decide) ?_
  exact hr_iret X (tL_at tL_act_3_ok 12 rfl) (Nat.le_of_ble_eq_true rfl) (Nat.le_of_ble_eq_true rfl) ⟨rfl, hQ9⟩
set_option maxHeartbeats 4000000 in
set_option maxRecDepth 100000 in
theorem w_A_closes {C : hm_C} {nm : String} {cA : Nat → ClassId} {sg : mm_S} {N M : hm_M} {b nr m sh nn : Nat} (X : hm_X C RL cL_act 9 (some .int) nm r_L_act cA) (hI : sp_I sg) (hJ : sp_J sg) (hm : m < 2 ^ 31) (hQ : ls_Q cA N b sg M) (hc : nI (m / 64 / 4 % 4) ≤ 0) : hm_W C 0 0 (hm_T C (lw_R cA N b (lcf lNI lNS lNS (sp_thClose sg (nI (m / 64 % 4)) (nI sh)) (sp_clN (mm_up sg 11 (4 * nN (nI sh) + nN (nI (m / 64 % 4))) 1) (12 * nN (nI sh) + 3 * nN (nI (m / 64 % 4))) 3)) (if (sp_thClose sg (nI (m / 64 % 4)) (nI sh)) = 0 then (sp_clS (mm_up sg 11 (4 * nN (nI sh) + nN (nI (m / 64 % 4))) 1) (12 * nN (nI sh) + 3 * nN (nI (m / 64 % 4))) 3) else sg)) r_L_act.cells r_L_act.slots) M 376 [some (.ref b), some (.ref nr), some (.int (nI m)), some (.int (nI (m / 64))), some (.int (nI sh)), some (.int (nI (m / 64 % 4))), some (.int (nI (m / 64 % 12))), some (.int (nI (m / 64 / 12 % 3))), some (.int (nI (m / 64 / 4 % nn)))] [] := by
  refine hr_iload_n X (tL_at tL_act_2_ok 58 rfl) rfl ?_
  refine hr_iconst (nI 4) X (tL_at tL_act_2_ok 59 rfl) (by decide) ?_
  refine hl_idiv X (tL_at tL_act_3_ok 0 rfl) (by omega) (by decide) (by decide) ?_
  refine hr_iconst (nI 4) X (tL_at tL_act_3_ok 1 rfl) (by decide) ?_
  refine hl_irem X (tL_at tL_act_3_ok 2 rfl) (by omega) (by decide) (by decide) ?_
  refine hr_if_le 393 X (tL_at tL_act_3_ok 3 rfl) (by decide) (fun _ => ?_) (fun c => absurd hc c)
  refine hr_aload_n X (tL_at tL_act_3_ok 8 rfl) rfl (Or.inr ⟨_, rfl⟩) ?_
  refine hr_iload X (tL_at tL_act_3_ok 9 rfl) rfl ?_
  refine hr_iload X (tL_at tL_act_3_ok 10 rfl) rfl ?_
  refine hl_call X kSL_closes (tL_at tL_act_3_ok 11 rfl) (c_L_closes cA hI hJ hQ (nI (m / 64 % 4)) (nI sh)) rfl rfl rfl (Nat.le_of_ble_eq_true rfl) 16 166 ⟨⟨(Nat.le_of_ble_eq_true rfl), (Nat.le_of_ble_eq_true rfl)⟩, (Nat.le_of_ble_eq_true rfl), (Nat.le_of_ble_eq_true rfl)⟩ (Nat.le_of_ble_eq_true rfl) (Nat.le_of_ble_eq_true rfl) (fun M9 hQ9 => ?_)
  exact hr_iret X (tL_at tL_act_3_ok 12 rfl) (Nat.le_of_ble_eq_true rfl) (Nat.le_of_ble_eq_true rfl) ⟨rfl, hQ9⟩
set_option maxHeartbeats 4000000 in
set_option maxRecDepth 100000 in
theorem w_A_quotaA {C : hm_C} {nm : String} {cA : Nat → ClassId} {sg : mm_S} {N M : hm_M} {b nr m sh nn : Nat} (X : hm_X C RL cL_act 9 (some .int) nm r_L_act cA) (hI : sp_I sg) (hJ : sp_J sg) (hm : m < 2 ^ 31) (hQ : ls_Q cA N b sg M) (hc : nI (m / 64 / 4 % 3) = 0) : hm_W C 0 0 (hm_T C (lw_R cA N b (lcf lNI lNA lNA (sp_thQuota (nI (m / 64 % 4)) (nI (((m / 64) / 12) % 40))) (sg 12 (nN (nI (m / 64 % 4))))) (if (sp_thQuota (nI (m / 64 % 4)) (nI (((m / 64) / 12) % 40))) = 0 then (mm_up sg 12 (nN (nI (m / 64 % 4))) (nI (((m / 64) / 12) % 40))) else sg)) r_L_act.cells r_L_act.slots) M 402 [some (.ref b), some (.ref nr), some (.int (nI m)), some (.int (nI (m / 64))), some (.int (nI sh)), some (.int (nI (m / 64 % 4))), some (.int (nI (m / 64 % 12))), some (.int (nI (m / 64 / 12 % 3))), some (.int (nI (m / 64 / 4 % nn)))] [] := by
  refine hr_aload_n X (tL_at tL_act_3_ok 13 rfl) rfl (Or.inr ⟨_, rfl⟩) ?_
  refine hr_iload X (tL_at tL_act_3_ok 14 rfl) rfl ?_
  refine hr_iload_n X (tL_at tL_act_3_ok 15 rfl) rfl ?_
  refine hr_iconst (nI 4) X (tL_at tL_act_3_ok 16 rfl) (by decide) ?_
  refine hl_idiv X (tL_at tL_act_3_ok 17 rfl) (by omega) (by decide) (by decide) ?_
  refine hr_iconst (nI 3) X (tL_at tL_act_3_ok 18 rfl) (by decide) ?_
  refine hl_irem X (tL_at tL_act_3_ok 19 rfl) (by omega) (by decide) (by decide) ?_
  refine hr_if_ne 423 X (tL_at tL_act_3_ok 20 rfl) (by decide) (fun c => absurd hc c) (fun _ => ?_)
  refine hr_iload_n X (tL_at tL_act_3_ok 21 rfl) rfl ?_
  refine hr_bipush (nI 12) X (tL_at tL_act_3_ok 22 rfl) (by decide) ?_
  refine hl_idiv X (tL_at tL_act_3_ok 23 rfl) (by omega) (by decide) (by decide) ?_
  refine hr_bipush (nI 40) X (tL_at tL_act_3_ok 24 rfl) (by decide) ?_
  refine hl_irem X (tL_at tL_act_3_ok 25 rfl) (by omega) (by decide) (by decide) ?_
  refine hr_goto 425 X (tL_at tL_act_3_ok 26 rfl) (by decide) ?_
  refine hl_call X kSL_quotas (tL_at tL_act_3_ok 28 rfl) (c_L_quotas cA hI hJ hQ (nI (m / 64 % 4)) (nI (((m / 64) / 12) % 40))) rfl rfl rfl (Nat.le_of_ble_eq_true rfl) 16 166 ⟨⟨(Nat.le_of_ble_eq_true rfl), (Nat.le_of_ble_eq_true rfl)⟩, (Nat.le_of_ble_eq_true rfl), (Nat.le_of_ble_eq_true rfl)⟩ (Nat.le_of_ble_eq_true rfl) (Nat.le_of_ble_eq_true rfl) (fun M9 hQ9 => ?_)
  exact hr_iret X (tL_at tL_act_3_ok 29 rfl) (Nat.le_of_ble_eq_true rfl) (Nat.le_of_ble_eq_true rfl) ⟨rfl, hQ9⟩
set_option maxHeartbeats 4000000 in
set_option maxRecDepth 100000 in
theorem w_A_quotaB {C : hm_C} {nm : String} {cA : Nat → ClassId} {sg : mm_S} {N M : hm_M} {b nr m sh nn : Nat} (X : hm_X C RL cL_act 9 (some .int) nm r_L_act cA) (hI : sp_I sg) (hJ : sp_J sg) (hm : m < 2 ^ 31) (hQ : ls_Q cA N b sg M) (hc : ¬ nI (m / 64 / 4 % 3) = 0) : hm_W C 0 0 (hm_T C (lw_R cA N b (lcf lNI lNA lNA (sp_thQuota (nI (m / 64 % 4)) (nI 100)) (sg 12 (nN (nI (m / 64 % 4))))) (if (sp_thQuota (nI (m / 64 % 4)) (nI 100)) = 0 then (mm_up sg 12 (nN (nI (m / 64 % 4))) (nI 100)) else sg)) r_L_act.cells r_L_act.slots) M 402 [some (.ref b), some (.ref nr), some (.int (nI m)), some (.int (nI (m / 64))), some (.int (nI sh)), some (.int (nI (m / 64 % 4))), some (.int (nI (m / 64 % 12))), some (.int (nI (m / 64 / 12 % 3))), some (.int (nI (m / 64 / 4 % nn)))] [] := by
  refine hr_aload_n X (tL_at tL_act_3_ok 13 rfl) rfl (Or.inr ⟨_, rfl⟩) ?_
  refine hr_iload X (tL_at tL_act_3_ok 14 rfl) rfl ?_
  refine hr_iload_n X (tL_at tL_act_3_ok 15 rfl) rfl ?_
  refine hr_iconst (nI 4) X (tL_at tL_act_3_ok 16 rfl) (by decide) ?_
  refine hl_idiv X (tL_at tL_act_3_ok 17 rfl) (by omega) (by decide) (by decide) ?_
  refine hr_iconst (nI 3) X (tL_at tL_act_3_ok 18 rfl) (by decide) ?_
  refine hl_irem X (tL_at tL_act_3_ok 19 rfl) (by omega) (by decide) (by decide) ?_
  refine hr_if_ne 423 X (tL_at tL_act_3_ok 20 rfl) (by decide) (fun _ => ?_) (fun c => absurd c hc)
  refine hr_bipush (nI 100) X (tL_at tL_act_3_ok 27 rfl) (by decide) ?_
  refine hl_call X kSL_quotas (tL_at tL_act_3_ok 28 rfl) (c_L_quotas cA hI hJ hQ (nI (m / 64 % 4)) (nI 100)) rfl rfl rfl (Nat.le_of_ble_eq_true rfl) 16 166 ⟨⟨(Nat.le_of_ble_eq_true rfl), (Nat.le_of_ble_eq_true rfl)⟩, (Nat.le_of_ble_eq_true rfl), (Nat.le_of_ble_eq_true rfl)⟩ (Nat.le_of_ble_eq_true rfl) (Nat.le_of_ble_eq_true rfl) (fun M9 hQ9 => ?_)
  exact hr_iret X (tL_at tL_act_3_ok 29 rfl) (Nat.le_of_ble_eq_true rfl) (Nat.le_of_ble_eq_true rfl) ⟨rfl, hQ9⟩
def lA_TG : List Nat := [156, 156, 193, 193, 221, 221, 221, 249, 260, 271, 271, 280, 312, 335, 335, 358, 358, 358, 367, 367, 376, 402]
theorem lA_sw : ∀ j, j < 22 → (#[102, 102, 139, 139, 167, 167, 167, 195, 206, 217, 217, 226, 258, 281, 281, 304, 304, 304, 313, 313, 322, 348] : Array Int)[j]? = some ((lA_TG.getD j 0 : Int) - 54) := by decide
def lA_sh (m : Nat) : Nat := if m / 32 % 4 = 0 then 1 else 0
def lA_to (j : Nat) : Nat := if j < 22 then lA_TG.getD j 0 else 429
set_option maxHeartbeats 4000000 in
set_option maxRecDepth 100000 in
theorem w_A_pre {Q : State → Prop} {C : hm_C} {nm : String} {cA : Nat → ClassId} {sg : mm_S} {N M : hm_M} {b nr m sh nn : Nat} {fn : Nat → Int32} (X : hm_X C RL cL_act 9 (some .int) nm r_L_act cA) (hm : m < 2 ^ 31) (hQ : ls_Q cA N b sg M) (hnr : N nr = some (cr_iw cA 0 2 fn)) (hshe : sh = lA_sh m) (hfn : fn sh = nI nn) (hn1 : 1 ≤ nn) (hn2 : nn ≤ 16) (kk : hm_W C 0 0 Q M (lA_to (m % 32)) [some (.ref b), some (.ref nr), some (.int (nI m)), some (.int (nI (m / 64))), some (.int (nI sh)), some (.int (nI (m / 64 % 4))), some (.int (nI (m / 64 % 12))), some (.int (nI (m / 64 / 12 % 3))), some (.int (nI (m / 64 / 4 % nn)))] []) : hm_W C 0 0 Q M 0 [some (.ref b), some (.ref nr), some (.int (nI m)), none, none, none, none, none, none] [] := by
  have hsh : sh < 2 := by
    rw [hshe]
    unfold lA_sh
    split <;> decide
  have J : hm_W C 0 0 Q M 19 [some (.ref b), some (.ref nr), some (.int (nI m)), some (.int (nI (m / 64))), none, none, none, none, none] [.int (nI sh)] := by
    skip
    refine hr_istore X (tL_at tL_act_0_ok 13 rfl) (Nat.le_of_ble_eq_true rfl) ?_
    refine hr_iload_n X (tL_at tL_act_0_ok 14 rfl) rfl ?_
    refine hr_iconst (nI 4) X (tL_at tL_act_0_ok 15 rfl) (by decide) ?_
    refine hl_irem X (tL_at tL_act_0_ok 16 rfl) (by omega) (by decide) (by decide) ?_
    refine hr_istore X (tL_at tL_act_0_ok 17 rfl) (Nat.le_of_ble_eq_true rfl) ?_
    refine hr_iload_n X (tL_at tL_act_0_ok 18 rfl) rfl ?_
    refine hr_bipush (nI 12) X (tL_at tL_act_0_ok 19 rfl) (by decide) ?_
    refine hl_irem X (tL_at tL_act_0_ok 20 rfl) (by omega) (by decide) (by decide) ?_
    refine hr_istore X (tL_at tL_act_0_ok 21 rfl) (Nat.le_of_ble_eq_true rfl) ?_
    refine hr_iload_n X (tL_at tL_act_0_ok 22 rfl) rfl ?_
    refine hr_bipush (nI 12) X (tL_at tL_act_0_ok 23 rfl) (by decide) ?_
    refine hl_idiv X (tL_at tL_act_0_ok 24 rfl) (by omega) (by decide) (by decide) ?_
    refine hr_iconst (nI 3) X (tL_at tL_act_0_ok 25 rfl) (by decide) ?_
    refine hl_irem X (tL_at tL_act_0_ok 26 rfl) (by omega) (by decide) (by decide) ?_
    refine hr_istore X (tL_at tL_act_0_ok 27 rfl) (Nat.le_of_ble_eq_true rfl) ?_
    refine hr_iload_n X (tL_at tL_act_0_ok 28 rfl) rfl ?_
    refine hr_iconst (nI 4) X (tL_at tL_act_0_ok 29 rfl) (by decide) ?_
    refine hl_idiv X (tL_at tL_act_0_ok 30 rfl) (by omega) (by decide) (by decide) ?_
    refine hr_aload_n X (tL_at tL_act_0_ok 31 rfl) rfl (Or.inr ⟨_, rfl⟩) ?_
    refine hr_iload X (tL_at tL_act_0_ok 32 rfl) rfl ?_
    refine hl_iald X (tL_at tL_act_0_ok 33 rfl) (ls_at hQ hnr) hsh (by decide) ?_
    rw [hfn]
    refine hl_irem X (tL_at tL_act_0_ok 34 rfl) (by omega) (by omega) (by omega) ?_
    refine hr_istore X (tL_at tL_act_0_ok 35 rfl) (Nat.le_of_ble_eq_true rfl) ?_
    refine hr_iload_n X (tL_at tL_act_0_ok 36 rfl) rfl ?_
    refine hr_bipush (nI 32) X (tL_at tL_act_0_ok 37 rfl) (by decide) ?_
    refine hl_irem X (tL_at tL_act_0_ok 38 rfl) (by omega) (by decide) (by decide) ?_
    by_cases hj : m % 32 < 22
    · have ht : (nI (m % 32)).toInt = ((m % 32 : Nat) : Int) := nI_toInt (by omega)
      unfold lA_to at kk
      rw [if_pos hj] at kk
      have e1 := lA_sw (m % 32) hj
      refine hr_tableIn (lA_TG.getD (m % 32) 0) X (tL_at tL_act_0_ok 39 rfl) (by rw [ht]; omega) (by rw [ht]; omega) (off := (lA_TG.getD (m % 32) 0 : Int) - 54) ?_ (by omega) kk
      rw [ht, show (((m % 32 : Nat) : Int) - 0).toNat = m % 32 by omega]
      exact e1
    · have ht : (nI (m % 32)).toInt = ((m % 32 : Nat) : Int) := nI_toInt (by omega)
      unfold lA_to at kk
      rw [if_neg hj] at kk
      exact hr_tableOut 429 X (tL_at tL_act_0_ok 39 rfl) (Or.inr (by rw [ht]; omega)) (by decide) kk
  refine hr_iload_n X (tL_at tL_act_0_ok 0 rfl) rfl ?_
  refine hr_bipush (nI 64) X (tL_at tL_act_0_ok 1 rfl) (by decide) ?_
  refine hl_idiv X (tL_at tL_act_0_ok 2 rfl) (by omega) (by decide) (by decide) ?_
  refine hr_istore_n X (tL_at tL_act_0_ok 3 rfl) (Nat.le_of_ble_eq_true rfl) ?_
  refine hr_iload_n X (tL_at tL_act_0_ok 4 rfl) rfl ?_
  refine hr_bipush (nI 32) X (tL_at tL_act_0_ok 5 rfl) (by decide) ?_
  refine hl_idiv X (tL_at tL_act_0_ok 6 rfl) (by omega) (by decide) (by decide) ?_
  refine hr_iconst (nI 4) X (tL_at tL_act_0_ok 7 rfl) (by decide) ?_
  refine hl_irem X (tL_at tL_act_0_ok 8 rfl) (by omega) (by decide) (by decide) ?_
  refine hr_if_ne 18 X (tL_at tL_act_0_ok 9 rfl) (by decide) (fun c => ?_) (fun c => ?_)
  · have hz : ¬ m / 32 % 4 = 0 := fun q => c (by rw [q]; rfl)
    rw [show sh = 0 from by rw [hshe]; exact if_neg hz] at J
    refine hr_iconst (nI 0) X (tL_at tL_act_0_ok 12 rfl) (by decide) ?_
    exact J
  · have hz : m / 32 % 4 = 0 := (nI_eq (b := 0) (by omega) (by decide)).mp c
    rw [show sh = 1 from by rw [hshe]; exact if_pos hz] at J
    refine hr_iconst (nI 1) X (tL_at tL_act_0_ok 10 rfl) (by decide) ?_
    refine hr_goto 19 X (tL_at tL_act_0_ok 11 rfl) (by decide) ?_
    exact J
