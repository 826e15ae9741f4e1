/-! answers looked up; mark, told -/
def cr_an (sg : mm_S) (k : Nat) : Option Nat := if sg 13 k = 0 then none else some k
theorem cr_isK_at {sg : mm_S} {a p : Nat} (ha : a < sp_n sg) (hp : p < 12) (h : ¬ sg 13 (12 * a + p) = 0) : cr_isK sg (12 * a + p) = true := by
  unfold cr_isK
  rw [show (12 * a + p) / 12 = a by omega, decide_eq_true ha, decide_eq_false h]
  rfl
set_option maxHeartbeats 4000000 in
set_option maxRecDepth 100000 in
theorem c_X5_answerAt (cA : Nat → ClassId) {sg ta : mm_S} {ad : Nat → Nat → Nat} {M0 M : hm_M} (hR : cr_R cA sg ta ad M0 M) (hI : sp_I sg) (p s : Int32) : hm_XMet cA yX5_answerAt cX5_answerAt 3 (some (.object "SheetVault$Answer")) r_X5_answerAt [.ref (ad 0 0), .int p, .int s] M (fun v' M' => (∃ a b, a < 4 ∧ cr_isS sg a = true ∧ s = nI a ∧ b < 12 ∧ p = nI b ∧ (sp_in p 0 11 && sp_isS sg s) = true ∧ v' = some (va_rf (if sg 13 (12 * a + b) = 0 then none else some (ad 16 (12 * a + b))))) ∧ M = M') (fun E M' => (sp_in p 0 11 && sp_isS sg s) = false ∧ E = "java/lang/IndexOutOfBoundsException" ∧ M = M') := by
  refine hm_xmet 0 (by decide +kernel) (fun w h => by simp only [List.mem_cons, List.not_mem_nil, or_false] at h; rcases h with rfl | rfl | rfl <;> rfl) rfl (fun C X XE => ?_)
  show hm_W C 0 0 _ M 0 [some (.ref (ad 0 0)), some (.int p), some (.int s)] []
  refine hr_iload_n X dX5_answerAt_0 rfl ?_
  refine hr_callSX X XE kC5_153 dX5_answerAt_1 (c_X5_checkPupil cA (M := M) p) rfl rfl rfl (Nat.le_of_ble_eq_true rfl) ⟨⟨(Nat.le_of_ble_eq_true rfl), (Nat.le_of_ble_eq_true rfl)⟩, (Nat.le_of_ble_eq_true rfl), (Nat.le_of_ble_eq_true rfl)⟩ (Nat.le_of_ble_eq_true rfl) (Nat.le_of_ble_eq_true rfl) (fun _ _ h => ⟨sb_andF1 h.1, h.2⟩) (fun v M1 hp1 => ?_)
  obtain ⟨h1, rfl, rfl⟩ := hp1
  obtain ⟨b, hb, rfl⟩ := sp_in_p h1
  refine hr_aload_n X dX5_answerAt_4 rfl (Or.inr ⟨_, rfl⟩) ?_
  refine hr_iload_n X dX5_answerAt_5 rfl ?_
  refine hr_callVX X XE kC5_49 dX5_answerAt_6 (c_X5_sheetAt cA hR hI s) hR.c0 rfl rfl rfl rfl (Nat.le_of_ble_eq_true rfl) ⟨⟨(Nat.le_of_ble_eq_true rfl), (Nat.le_of_ble_eq_true rfl)⟩, (Nat.le_of_ble_eq_true rfl), (Nat.le_of_ble_eq_true rfl)⟩ (Nat.le_of_ble_eq_true rfl) (Nat.le_of_ble_eq_true rfl) (fun _ _ h => ⟨sb_andF2 h.1, h.2⟩) (fun v M6 hp6 => ?_)
  obtain ⟨⟨a, ha, hs, rfl, rfl⟩, rfl⟩ := hp6
  obtain ⟨ha1, ha4⟩ := cr_isS_4 hI hs
  refine hr_get X kF5_160 dX5_answerAt_9 (hR.c8 hs) rfl ?_
  refine hr_iload_n X dX5_answerAt_12 rfl ?_
  refine hr_aald 6 X rfl dX5_answerAt_13 (hR.c12 hs) (mm_in rfl (by omega) (by decide)).1 ?_
  rw [nI_clamp (by omega)]
  exact hr_aretX X dX5_answerAt_14 (hm_rf _) (Nat.le_of_ble_eq_true rfl) (Nat.le_of_ble_eq_true rfl) ⟨⟨a, b, ha, hs, rfl, hb, rfl, sb_andT h1 (by rw [← cr_isS_nat hI ha]; exact hs), rfl⟩, rfl⟩
set_option maxHeartbeats 4000000 in
set_option maxRecDepth 100000 in
theorem c_X5_mark (cA : Nat → ClassId) {sg ta : mm_S} {ad : Nat → Nat → Nat} {M0 M : hm_M} (hR : cr_R cA sg ta ad M0 M) (hI : sp_I sg) (p s : Int32) : hm_XMet cA yX5_mark cX5_mark 4 (some .int) r_X5_mark [.ref (ad 0 0), .int p, .int s] M (fun v' M' => (sp_in p 0 11 && sp_isS sg s) = true ∧ v' = some (.int (if sg 13 (sp_k p s) = 0 then -1 else sp_rMark sg (sp_k p s))) ∧ M = M') (fun E M' => (sp_in p 0 11 && sp_isS sg s) = false ∧ E = "java/lang/IndexOutOfBoundsException" ∧ M = M') := by
  refine hm_xmet 1 (by decide +kernel) (fun w h => by simp only [List.mem_cons, List.not_mem_nil, or_false] at h; rcases h with rfl | rfl | rfl <;> rfl) rfl (fun C X XE => ?_)
  show hm_W C 0 0 _ M 0 [some (.ref (ad 0 0)), some (.int p), some (.int s), none] []
  refine hr_aload_n X dX5_mark_0 rfl (Or.inr ⟨_, rfl⟩) ?_
  refine hr_iload_n X dX5_mark_1 rfl ?_
  refine hr_iload_n X dX5_mark_2 rfl ?_
  refine hr_callVX X XE kC5_225 dX5_mark_3 (c_X5_answerAt cA hR hI p s) hR.c0 rfl rfl rfl rfl (Nat.le_of_ble_eq_true rfl) ⟨⟨(Nat.le_of_ble_eq_true rfl), (Nat.le_of_ble_eq_true rfl)⟩, (Nat.le_of_ble_eq_true rfl), (Nat.le_of_ble_eq_true rfl)⟩ (Nat.le_of_ble_eq_true rfl) (Nat.le_of_ble_eq_true rfl) (fun _ _ h => ⟨h.1, h.2⟩) (fun v M3 hp3 => ?_)
  obtain ⟨⟨a, b, ha, hs, rfl, hb, rfl, hz, rfl⟩, rfl⟩ := hp3
  obtain ⟨ha1, ha4⟩ := cr_isS_4 hI hs
  have ek : sp_k (nI b) (nI a) = 12 * a + b := by rw [sp_k, show nN (nI a) = a from nI_clamp (by omega), show nN (nI b) = b from nI_clamp (by omega)]
  refine hr_astore_n X dX5_mark_6 (Nat.le_of_ble_eq_true rfl) (hm_rf _) ?_
  refine hr_aload_n X dX5_mark_7 rfl (hm_rf _) ?_
  refine hr_ifnonnull 15 X dX5_mark_8 (by decide) (fun a8 c8 => ?_) (fun c8 => ?_)
  · have hn : ¬ sg 13 (12 * a + b) = 0 := fun q => by rw [if_pos q] at c8; cases c8
    have h16 := hR.c16 (cr_isK_at ha1 hb hn)
    have hv : (if sg 13 (sp_k (nI b) (nI a)) = 0 then (-1 : Int32) else sp_rMark sg (sp_k (nI b) (nI a))) = sp_rMark sg (12 * a + b) := by rw [ek, if_neg hn]
    rw [if_neg hn]
    refine hr_aload_n X dX5_mark_15 rfl (hm_rf _) ?_
    refine hr_get X kF5_219 dX5_mark_16 h16 rfl ?_
    exact hr_iretX X dX5_mark_19 (Nat.le_of_ble_eq_true rfl) (Nat.le_of_ble_eq_true rfl) ⟨hz, by rw [hv], rfl⟩
  · have hn : sg 13 (12 * a + b) = 0 := by
      by_cases q : sg 13 (12 * a + b) = 0
      · exact q
      · rw [if_neg q] at c8; cases c8
    have hv : (if sg 13 (sp_k (nI b) (nI a)) = 0 then (-1 : Int32) else sp_rMark sg (sp_k (nI b) (nI a))) = -1 := by rw [ek, if_pos hn]
    refine hr_iconst (-1) X dX5_mark_11 (by decide) ?_
    refine hr_goto 19 X dX5_mark_12 (by decide) ?_
    exact hr_iretX X dX5_mark_19 (Nat.le_of_ble_eq_true rfl) (Nat.le_of_ble_eq_true rfl) ⟨hz, by rw [hv], rfl⟩
set_option maxHeartbeats 4000000 in
set_option maxRecDepth 100000 in
theorem c_X5_told (cA : Nat → ClassId) {sg ta : mm_S} {ad : Nat → Nat → Nat} {M0 M : hm_M} (hR : cr_R cA sg ta ad M0 M) (hI : sp_I sg) (p s : Int32) : hm_XMet cA yX5_told cX5_told 4 (some .int) r_X5_told [.ref (ad 0 0), .int p, .int s] M (fun v' M' => (sp_in p 0 11 && sp_isS sg s) = true ∧ v' = some (.int (if sg 13 (sp_k p s) = 0 then 0 else sg 16 (sp_k p s))) ∧ M = M') (fun E M' => (sp_in p 0 11 && sp_isS sg s) = false ∧ E = "java/lang/IndexOutOfBoundsException" ∧ M = M') := by
  refine hm_xmet 1 (by decide +kernel) (fun w h => by simp only [List.mem_cons, List.not_mem_nil, or_false] at h; rcases h with rfl | rfl | rfl <;> rfl) rfl (fun C X XE => ?_)
  show hm_W C 0 0 _ M 0 [some (.ref (ad 0 0)), some (.int p), some (.int s), none] []
  refine hr_aload_n X dX5_told_0 rfl (Or.inr ⟨_, rfl⟩) ?_
  refine hr_iload_n X dX5_told_1 rfl ?_
  refine hr_iload_n X dX5_told_2 rfl ?_
  refine hr_callVX X XE kC5_225 dX5_told_3 (c_X5_answerAt cA hR hI p s) hR.c0 rfl rfl rfl rfl (Nat.le_of_ble_eq_true rfl) ⟨⟨(Nat.le_of_ble_eq_true rfl), (Nat.le_of_ble_eq_true rfl)⟩, (Nat.le_of_ble_eq_true rfl), (Nat.le_of_ble_eq_true rfl)⟩ (Nat.le_of_ble_eq_true rfl) (Nat.le_of_ble_eq_true rfl) (fun _ _ h => ⟨h.1, h.2⟩) (fun v M3 hp3 => ?_)
  obtain ⟨⟨a, b, ha, hs, rfl, hb, rfl, hz, rfl⟩, rfl⟩ := hp3
  obtain ⟨ha1, ha4⟩ := cr_isS_4 hI hs
  have ek : sp_k (nI b) (nI a) = 12 * a + b := by rw [sp_k, show nN (nI a) = a from nI_clamp (by omega), show nN (nI b) = b from nI_clamp (by omega)]
  refine hr_astore_n X dX5_told_6 (Nat.le_of_ble_eq_true rfl) (hm_rf _) ?_
  refine hr_aload_n X dX5_told_7 rfl (hm_rf _) ?_
  refine hr_ifnonnull 15 X dX5_told_8 (by decide) (fun a8 c8 => ?_) (fun c8 => ?_)
  · have hn : ¬ sg 13 (12 * a + b) = 0 := fun q => by rw [if_pos q] at c8; cases c8
    have h16 := hR.c16 (cr_isK_at ha1 hb hn)
    have hv : (if sg 13 (sp_k (nI b) (nI a)) = 0 then (0 : Int32) else sg 16 (sp_k (nI b) (nI a))) = sg 16 (12 * a + b) := by rw [ek, if_neg hn]
    rw [if_neg hn]
    refine hr_aload_n X dX5_told_15 rfl (hm_rf _) ?_
    refine hr_get X kF5_229 dX5_told_16 h16 rfl ?_
    exact hr_iretX X dX5_told_19 (Nat.le_of_ble_eq_true rfl) (Nat.le_of_ble_eq_true rfl) ⟨hz, by rw [hv], rfl⟩
  · have hn : sg 13 (12 * a + b) = 0 := by
      by_cases q : sg 13 (12 * a + b) = 0
      · exact q
      · rw [if_neg q] at c8; cases c8
    have hv : (if sg 13 (sp_k (nI b) (nI a)) = 0 then (0 : Int32) else sg 16 (sp_k (nI b) (nI a))) = 0 := by rw [ek, if_pos hn]
    refine hr_iconst (0) X dX5_told_11 (by decide) ?_
    refine hr_goto 19 X dX5_told_12 (by decide) ?_
    exact hr_iretX X dX5_told_19 (Nat.le_of_ble_eq_true rfl) (Nat.le_of_ble_eq_true rfl) ⟨hz, by rw [hv], rfl⟩
