/-! reading calls: answer -/
def cr_st (sg : mm_S) (k : Nat) : Int32 := if sg 13 k = 0 then 0 else if sg 13 k = 2 then 2 else 1
set_option maxHeartbeats 4000000 in
set_option maxRecDepth 100000 in
theorem c_X5_answer (cA : Nat → ClassId) {sg ta : mm_S} {ad : Nat → Nat → Nat} {M0 M : hm_M} (hR : cr_R cA sg ta ad M0 M) (hI : sp_I sg) (p s : Int32) : hm_XMet cA yX5_answer cX5_answer 4 (some .int) r_X5_answer [.ref (ad 0 0), .int p, .int s] M (fun v' M' => (sp_in p 0 11 && sp_isS sg s) = true ∧ v' = some (.int (cr_st sg (sp_k p s))) ∧ M = M') (fun E M' => (sp_in p 0 11 && sp_isS sg s) = false ∧ E = "java/lang/IndexOutOfBoundsException" ∧ M = M') := by
  refine hm_xmet 1 (by decide +kernel) (fun w h => by simp only [List.mem_cons, List.not_mem_nil, or_false] at h; rcases h with rfl | rfl | rfl <;> rfl) rfl (fun C X XE => ?_)
  show hm_W C 0 0 _ M 0 [some (.ref (ad 0 0)), some (.int p), some (.int s), none] []
  refine hr_aload_n X dX5_answer_0 rfl (Or.inr ⟨_, rfl⟩) ?_
  refine hr_iload_n X dX5_answer_1 rfl ?_
  refine hr_iload_n X dX5_answer_2 rfl ?_
  refine hr_callVX X XE kC5_225 dX5_answer_3 (c_X5_answerAt cA hR hI p s) hR.c0 rfl rfl rfl rfl (Nat.le_of_ble_eq_true rfl) ⟨⟨(Nat.le_of_ble_eq_true rfl), (Nat.le_of_ble_eq_true rfl)⟩, (Nat.le_of_ble_eq_true rfl), (Nat.le_of_ble_eq_true rfl)⟩ (Nat.le_of_ble_eq_true rfl) (Nat.le_of_ble_eq_true rfl) (fun _ _ h => ⟨h.1, h.2⟩) (fun v M3 hp3 => ?_)
  obtain ⟨⟨a, b, ha, hs, rfl, hb, rfl, hz, rfl⟩, rfl⟩ := hp3
  obtain ⟨ha1, ha4⟩ := cr_isS_4 hI hs
  have ek : sp_k (nI b) (nI a) = 12 * a + b := by rw [sp_k, show nN (nI a) = a from nI_clamp (by omega), show nN (nI b) = b from nI_clamp (by omega)]
  refine hr_astore_n X dX5_answer_6 (Nat.le_of_ble_eq_true rfl) (hm_rf _) ?_
  refine hr_aload_n X dX5_answer_7 rfl (hm_rf _) ?_
  refine hr_ifnonnull 13 X dX5_answer_8 (by decide) (fun a8 c8 => ?_) (fun c8 => ?_)
  · have hn : ¬ sg 13 (12 * a + b) = 0 := fun q => by rw [if_pos q] at c8; cases c8
    have h16 := hR.c16 (cr_isK_at ha1 hb hn)
    rw [if_neg hn]
    refine hr_aload_n X dX5_answer_13 rfl (hm_rf _) ?_
    refine hr_get X kF5_208 dX5_answer_14 h16 rfl ?_
    refine hr_if_eq 24 X dX5_answer_17 (by decide) (fun c17 => ?_) (fun c17 => ?_)
    · have h2 : cr_st sg (12 * a + b) = 1 := by
        by_cases q : sg 13 (12 * a + b) = 2
        · rw [if_pos q] at c17; cases c17
        · rw [cr_st, if_neg hn, if_neg q]
      refine hr_iconst (1) X dX5_answer_24 (by decide) ?_
      exact hr_iretX X dX5_answer_25 (Nat.le_of_ble_eq_true rfl) (Nat.le_of_ble_eq_true rfl) ⟨hz, by rw [ek, h2], rfl⟩
    · have h2 : cr_st sg (12 * a + b) = 2 := by
        by_cases q : sg 13 (12 * a + b) = 2
        · rw [cr_st, if_neg hn, if_pos q]
        · rw [if_neg q] at c17; exact absurd rfl c17
      refine hr_iconst (2) X dX5_answer_20 (by decide) ?_
      refine hr_goto 25 X dX5_answer_21 (by decide) ?_
      exact hr_iretX X dX5_answer_25 (Nat.le_of_ble_eq_true rfl) (Nat.le_of_ble_eq_true rfl) ⟨hz, by rw [ek, h2], rfl⟩
  · have hn : sg 13 (12 * a + b) = 0 := by
      by_cases q : sg 13 (12 * a + b) = 0
      · exact q
      · rw [if_neg q] at c8; cases c8
    refine hr_iconst (0) X dX5_answer_11 (by decide) ?_
    exact hr_iretX X dX5_answer_12 (Nat.le_of_ble_eq_true rfl) (Nat.le_of_ble_eq_true rfl) ⟨hz, by rw [ek, cr_st, if_pos hn], rfl⟩
