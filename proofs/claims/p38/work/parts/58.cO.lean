/-! reading calls: fingerprints, by the system's own count -/
set_option maxHeartbeats 4000000 in
set_option maxRecDepth 100000 in
theorem c_X5_fingerprints (cA : Nat → ClassId) {sg ta : mm_S} {ad : Nat → Nat → Nat} {M0 M : hm_M} (hR : cr_R cA sg ta ad M0 M) (hI : sp_I sg) (p s : Int32) : hm_XMet cA yX5_fingerprints cX5_fingerprints 4 (some .int) r_X5_fingerprints [.ref (ad 0 0), .int p, .int s] M (fun v' M' => (sp_in p 0 11 && sp_isS sg s) = true ∧ v' = some (.int (if sg 13 (sp_k p s) = 0 then 0 else ta 2 (sp_k p s))) ∧ M = M') (fun E M' => (sp_in p 0 11 && sp_isS sg s) = false ∧ E = "java/lang/IndexOutOfBoundsException" ∧ M = M') := by
  refine hm_xmet 1 (by decide +kernel) (fun w h => by simp only [List.mem_cons, List.not_mem_nil, or_false] at h; rcases h with rfl | rfl | rfl <;> rfl) rfl (fun C X XE => ?_)
  show hm_W C 0 0 _ M 0 [some (.ref (ad 0 0)), some (.int p), some (.int s), none] []
  refine hr_aload_n X dX5_fingerprints_0 rfl (Or.inr ⟨_, rfl⟩) ?_
  refine hr_iload_n X dX5_fingerprints_1 rfl ?_
  refine hr_iload_n X dX5_fingerprints_2 rfl ?_
  refine hr_callVX X XE kC5_225 dX5_fingerprints_3 (c_X5_answerAt cA hR hI p s) hR.c0 rfl rfl rfl rfl (Nat.le_of_ble_eq_true rfl) ⟨⟨(Nat.le_of_ble_eq_true rfl), (Nat.le_of_ble_eq_true rfl)⟩, (Nat.le_of_ble_eq_true rfl), (Nat.le_of_ble_eq_true rfl)⟩ (Nat.le_of_ble_eq_true rfl) (Nat.le_of_ble_eq_true rfl) (fun _ _ h => ⟨h.1, h.2⟩) (fun v M3 hp3 => ?_)
  obtain ⟨⟨a, b, ha, hs, rfl, hb, rfl, hz, rfl⟩, rfl⟩ := hp3
  obtain ⟨ha1, ha4⟩ := cr_isS_4 hI hs
  have ek : sp_k (nI b) (nI a) = 12 * a + b := by rw [sp_k, show nN (nI a) = a from nI_clamp (by omega), show nN (nI b) = b from nI_clamp (by omega)]
  refine hr_astore_n X dX5_fingerprints_6 (Nat.le_of_ble_eq_true rfl) (hm_rf _) ?_
  refine hr_aload_n X dX5_fingerprints_7 rfl (hm_rf _) ?_
  refine hr_ifnonnull 15 X dX5_fingerprints_8 (by decide) (fun a8 c8 => ?_) (fun c8 => ?_)
  · have hn : ¬ sg 13 (12 * a + b) = 0 := fun q => by rw [if_pos q] at c8; cases c8
    have h16 := hR.c16 (cr_isK_at ha1 hb hn)
    have hv : (if sg 13 (sp_k (nI b) (nI a)) = 0 then (0 : Int32) else ta 2 (sp_k (nI b) (nI a))) = ta 2 (12 * a + b) := by rw [ek, if_neg hn]
    rw [if_neg hn]
    refine hr_aload_n X dX5_fingerprints_15 rfl (hm_rf _) ?_
    refine hr_get X kF5_232 dX5_fingerprints_16 h16 rfl ?_
    exact hr_iretX X dX5_fingerprints_19 (Nat.le_of_ble_eq_true rfl) (Nat.le_of_ble_eq_true rfl) ⟨hz, by rw [hv], rfl⟩
  · have hn : sg 13 (12 * a + b) = 0 := by
      by_cases q : sg 13 (12 * a + b) = 0
      · exact q
      · rw [if_neg q] at c8; cases c8
    have hv : (if sg 13 (sp_k (nI b) (nI a)) = 0 then (0 : Int32) else ta 2 (sp_k (nI b) (nI a))) = 0 := by rw [ek, if_pos hn]
    refine hr_iconst (0) X dX5_fingerprints_11 (by decide) ?_
    refine hr_goto 19 X dX5_fingerprints_12 (by decide) ?_
    exact hr_iretX X dX5_fingerprints_19 (Nat.le_of_ble_eq_true rfl) (Nat.le_of_ble_eq_true rfl) ⟨hz, by rw [hv], rfl⟩
