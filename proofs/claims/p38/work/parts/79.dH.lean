/-! hand, close: the system's methods -/
/-- how far a group's answers are gone through -/
def cl_n (g p : Nat) : Nat := min (p - 3 * g) 3
theorem cl_n_y {g p : Nat} (h : p / 3 = g) : cl_n g p = p - 3 * g ∧ cl_n g (p + 1) = p - 3 * g + 1 := by unfold cl_n; omega
theorem cl_n_n {g p : Nat} (h : p / 3 ≠ g) : cl_n g (p + 1) = cl_n g p := by unfold cl_n; omega
theorem sp_clS_s {sg1 : mm_S} {b n : Nat} (h : ¬ sp_clS sg1 b n 13 (b + n) = 1) : sp_clS sg1 b (n + 1) = sp_clS sg1 b n := by rw [sp_clS, if_neg h]
theorem sp_clS_y {sg1 : mm_S} {b n : Nat} (h : sp_clS sg1 b n 13 (b + n) = 1) : sp_clS sg1 b (n + 1) = sp_fgT (sp_clS sg1 b n) (b + n) 5 := by rw [sp_clS, if_pos h]
theorem sp_clN_s {sg1 : mm_S} {b n : Nat} (h : ¬ sp_clS sg1 b n 13 (b + n) = 2) : sp_clN sg1 b (n + 1) = sp_clN sg1 b n := sp_is_st (if_neg h)
theorem sp_clN_y {sg1 : mm_S} {b n : Nat} (h : sp_clS sg1 b n 13 (b + n) = 2) : sp_clN sg1 b (n + 1) = sp_clN sg1 b n + 1 := sp_is_up (if_pos h)
theorem sp_clS_1 {sg1 : mm_S} {b : Nat} : ∀ n, sp_clS sg1 b n 1 = sg1 1
  | 0 => rfl
  | n + 1 => by
    unfold sp_clS
    split
    · rw [sp_fgT_j (by decide), sp_clS_1 n]
    · exact sp_clS_1 n
theorem sp_clS_I {sg1 : mm_S} (hI : sp_I sg1) {b : Nat} : ∀ n, sp_I (sp_clS sg1 b n)
  | 0 => hI
  | n + 1 => by
    unfold sp_clS
    split
    · exact (sp_clS_I hI n).fgt
    · exact sp_clS_I hI n
theorem sp_clS_J {sg1 : mm_S} (hJ : sp_J sg1) {b : Nat} : ∀ n, sp_J (sp_clS sg1 b n)
  | 0 => hJ
  | n + 1 => by
    unfold sp_clS
    split
    · next h => exact (sp_clS_J hJ n).fgt h
    · exact sp_clS_J hJ n
theorem sp_I.cls {sg : mm_S} (hI : sp_I sg) {y : Nat} : sp_I (mm_up sg 11 y 1) := by
  have hn : sp_n (mm_up sg 11 y 1) = sp_n sg := by unfold sp_n; rw [mm_up_j (by decide)]
  refine ⟨hI.i1, hI.i2, hI.i3, ⟨hI.i4.1, fun z hz => ?_, hI.i4.2.2⟩, hI.i5, hI.i6, hI.i7, hI.i9, hI.i12, hI.i13⟩
  by_cases w : z = y
  · rw [w, mm_up_s]; exact Or.inr rfl
  · rw [mm_up_x w]; exact hI.i4.2.1 z hz
theorem sp_J.cls {sg : mm_S} (hJ : sp_J sg) {a g : Nat} (ha : a < sp_n sg) (hg : g < 4) : sp_J (mm_up sg 11 (4 * a + g) 1) := by
  have hn : sp_n (mm_up sg 11 (4 * a + g) 1) = sp_n sg := by unfold sp_n; rw [mm_up_j (by decide)]
  refine ⟨hJ.1, hJ.2.1, fun s h1 h2 g' h3 => ?_⟩
  rw [hn] at h1
  rw [mm_up_j (by decide), mm_up_x (by omega)]
  exact hJ.2.2 s h1 h2 g' h3
theorem cr_ok.cls {sg ta : mm_S} (hok : cr_ok sg ta) (hI : sp_I sg) {y : Nat} : cr_ok (mm_up sg 11 y 1) ta := by
  refine ⟨fun g hg => ?_, fun k hk h2 => ?_, fun k hk h0 => ?_, hok.2.2.2⟩
  · rw [sp_used_congr rfl rfl rfl rfl rfl rfl rfl]
    exact hok.1 g hg
  · rw [sp_due_loc hI hk (sg' := mm_up sg 11 y 1) ⟨rfl, rfl, rfl, rfl, rfl, rfl, fun _ _ => ⟨rfl, rfl, rfl, rfl, fun _ _ => rfl⟩⟩]
    exact hok.2.1 k hk h2
  · rw [sp_prs_loc hI hk (sg' := mm_up sg 11 y 1) ⟨rfl, rfl, rfl, rfl, rfl, rfl, fun _ _ => ⟨rfl, rfl, rfl, rfl, fun _ _ => rfl⟩⟩ rfl rfl]
    exact hok.2.2.1 k hk h0
set_option maxHeartbeats 4000000 in
set_option maxRecDepth 100000 in
theorem c_X5_hand (cA : Nat → ClassId) {sg ta : mm_S} {ad : Nat → Nat → Nat} {M0 M : hm_M} (hR : cr_R cA sg ta ad M0 M) (hI : sp_I sg) (hok : cr_ok sg ta) (p s : Int32) : hm_XMet cA yX5_hand cX5_hand 5 (some .int) r_X5_hand [.ref (ad 0 0), .int p, .int s] M (fun v' M' => sp_thHand sg p s = 0 ∧ v' = some (.int (sp_due sg (sp_k p s))) ∧ ∃ ta' : mm_S, cr_R cA (sp_handS sg (sp_k p s)) ta' ad M0 M' ∧ cr_ok (sp_handS sg (sp_k p s)) ta') (fun E M' => ((sp_thHand sg p s = 1 ∧ E = "java/lang/IndexOutOfBoundsException") ∨ (sp_thHand sg p s = 2 ∧ E = "java/lang/IllegalStateException")) ∧ cr_R cA sg ta ad M0 M') := by
  refine hm_xmet 2 (by decide +kernel) (fun w h => by simp only [List.mem_cons, List.not_mem_nil, or_false] at h; rcases h with rfl | rfl | rfl <;> rfl) rfl (fun C X XE => ?_)
  show hm_W C 0 0 _ M 0 [some (.ref (ad 0 0)), some (.int p), some (.int s), none, none] []
  refine hr_iload_n X dX5_hand_0 rfl ?_
  refine hr_callSX X XE kC5_153 dX5_hand_1 (c_X5_checkPupil cA (M := M) p) rfl rfl rfl (Nat.le_of_ble_eq_true rfl) ⟨⟨(Nat.le_of_ble_eq_true rfl), (Nat.le_of_ble_eq_true rfl)⟩, (Nat.le_of_ble_eq_true rfl), (Nat.le_of_ble_eq_true rfl)⟩ (Nat.le_of_ble_eq_true rfl) (Nat.le_of_ble_eq_true rfl) (fun _ _ h => ⟨(Or.inl ⟨(show sp_thHand sg p s = 1 by unfold sp_thHand sp_both; rw [h.1]; rfl), h.2.1⟩), (h.2.2 ▸ hR)⟩) (fun v M1 hp1 => ?_)
  obtain ⟨h1, rfl, rfl⟩ := hp1
  obtain ⟨p, hp, rfl⟩ := sp_in_p h1
  refine hr_aload_n X dX5_hand_4 rfl (Or.inr ⟨_, rfl⟩) ?_
  refine hr_iload_n X dX5_hand_5 rfl ?_
  refine hr_callVX X XE kC5_49 dX5_hand_6 (c_X5_sheetAt cA hR hI s) hR.c0 rfl rfl rfl rfl (Nat.le_of_ble_eq_true rfl) ⟨⟨(Nat.le_of_ble_eq_true rfl), (Nat.le_of_ble_eq_true rfl)⟩, (Nat.le_of_ble_eq_true rfl), (Nat.le_of_ble_eq_true rfl)⟩ (Nat.le_of_ble_eq_true rfl) (Nat.le_of_ble_eq_true rfl) (fun _ _ h => ⟨(Or.inl ⟨(show sp_thHand sg (nI p) s = 1 by unfold sp_thHand sp_both; rw [h.1, Bool.and_false]; rfl), h.2.1⟩), (h.2.2 ▸ hR)⟩) (fun v M6 hp6 => ?_)
  obtain ⟨⟨a, ha, hs, rfl, rfl⟩, rfl⟩ := hp6
  obtain ⟨ha1, ha4⟩ := cr_isS_4 hI hs
  have hS1 : sp_isS sg (nI a) = true := by rw [← cr_isS_nat hI ha]; exact hs
  have hb1 : sp_both sg (nI p) (nI a) = true := sb_andT h1 hS1
  have en : nN (nI a) = a := nI_clamp (by omega)
  have en2 : nN (nI p) = p := nI_clamp (by omega)
  have ek : sp_k (nI p) (nI a) = 12 * a + p := by rw [sp_k, en, en2]
  refine hr_astore_n X dX5_hand_9 (Nat.le_of_ble_eq_true rfl) (Or.inr ⟨_, rfl⟩) ?_
  refine hr_aload_n X dX5_hand_10 rfl (Or.inr ⟨_, rfl⟩) ?_
  refine hr_iload_n X dX5_hand_11 rfl ?_
  refine hr_callSX X XE kC5_176 dX5_hand_12 (c_X5_openAnswer cA hR hI a p hs hp) rfl rfl rfl (Nat.le_of_ble_eq_true rfl) ⟨⟨(Nat.le_of_ble_eq_true rfl), (Nat.le_of_ble_eq_true rfl)⟩, (Nat.le_of_ble_eq_true rfl), (Nat.le_of_ble_eq_true rfl)⟩ (Nat.le_of_ble_eq_true rfl) (Nat.le_of_ble_eq_true rfl) (fun _ _ h => ⟨(Or.inr ⟨(show sp_thHand sg (nI p) (nI a) = 2 by unfold sp_thHand; rw [hb1, if_pos rfl, ek, if_neg h.1]), h.2.1⟩), (h.2.2 ▸ hR)⟩) (fun v M12 hp12 => ?_)
  obtain ⟨h13, rfl, rfl⟩ := hp12
  have hz : sp_thHand sg (nI p) (nI a) = 0 := by unfold sp_thHand; rw [hb1, if_pos rfl, ek, if_pos h13]
  have hK := cr_isK_at ha1 hp (show ¬ sg 13 (12 * a + p) = 0 by rw [h13]; decide)
  have hkA : ¬ (mm_up (mm_up sg 13 (12 * a + p) 2) 15 (12 * a + p) (-1)) 13 (12 * a + p) = 0 := by rw [mm_up_j (by decide), mm_up_s]; decide
  have hKA : cr_isK (mm_up (mm_up sg 13 (12 * a + p) 2) 15 (12 * a + p) (-1)) (12 * a + p) = true := by
    unfold cr_isK sp_n
    rw [mm_up_j (j' := 1) (by decide), mm_up_j (j' := 1) (by decide), mm_up_j (j' := 13) (by decide), mm_up_s, show (12 * a + p) / 12 = a by omega]
    exact sb_andT (decide_eq_true ha1) (by decide)
  have hIA := hI.hnd (v := -1) h13
  refine hr_astore X dX5_hand_15 (Nat.le_of_ble_eq_true rfl) (Or.inr ⟨_, rfl⟩) ?_
  refine hr_aload X dX5_hand_17 rfl (Or.inr ⟨_, rfl⟩) ?_
  refine hr_iconst (1) X dX5_hand_19 (by decide) ?_
  refine hr_put X kF5_208 dX5_hand_20 (hR.c16 hK) rfl rfl (Nat.le_of_ble_eq_true rfl) ?_
  refine hr_hand hR hK h13 (by
    unfold sp_rMark
    rw [h13]
    rfl) (fun M20 hR => ?_)
  refine hr_aload X dX5_hand_23 rfl (Or.inr ⟨_, rfl⟩) ?_
  refine hr_aload_n X dX5_hand_25 rfl (Or.inr ⟨_, rfl⟩) ?_
  refine hr_aload X dX5_hand_26 rfl (Or.inr ⟨_, rfl⟩) ?_
  refine hr_iconst (0) X dX5_hand_28 (by decide) ?_
  refine hr_callV X kC5_212 dX5_hand_29 ((show hm_Met cA yX5_grade cX5_grade _ _ r_X5_grade [.ref (ad 0 0), .ref (ad 16 (12 * a + p)), .int 0] _ _ from c_X5_grade cA hR hIA (show cr_o2 (mm_up (mm_up sg 13 (12 * a + p) 2) 15 (12 * a + p) (-1)) ta from by
    unfold cr_o2
    rw [mm_up_j (j' := 17) (by decide), mm_up_j (j' := 17) (by decide), mm_up_j (j' := 18) (by decide), mm_up_j (j' := 18) (by decide), mm_up_j (j' := 20) (by decide), mm_up_j (j' := 20) (by decide), mm_up_j (j' := 21) (by decide), mm_up_j (j' := 21) (by decide)]
    exact hok.o2) (12 * a + p) (by omega) hkA false)) hR.c0 rfl rfl rfl rfl (Nat.le_of_ble_eq_true rfl) ⟨⟨(Nat.le_of_ble_eq_true rfl), (Nat.le_of_ble_eq_true rfl)⟩, (Nat.le_of_ble_eq_true rfl), (Nat.le_of_ble_eq_true rfl)⟩ (fun v M29 hp29 => ?_)
  obtain ⟨rfl, ta1, hR, hta⟩ := hp29
  rw [show sp_due (mm_up (mm_up sg 13 (12 * a + p) 2) 15 (12 * a + p) (-1)) (12 * a + p) = sp_due sg (12 * a + p) from sp_due_congr2 (fun j h13 h15 _ _ => (mm_up_j h15).trans (mm_up_j h13)) _]
  refine hr_put X kF5_216 dX5_hand_32 (hR.c16 hKA) rfl rfl (Nat.le_of_ble_eq_true rfl) ?_
  refine hr_w16 hR hKA (sg' := (mm_up (mm_up sg 13 (12 * a + p) 2) 15 (12 * a + p) (-1))) (ta' := mm_up ta1 1 (12 * a + p) (sp_due sg (12 * a + p))) (fun _ _ _ => rfl) (fun _ _ => ⟨rfl, rfl⟩) (fun j h1 _ => mm_up_j h1) (fun z hz => ⟨mm_up_x hz, by rw [mm_up_j (by decide)]⟩) (by rw [mm_up_s (sg := ta1), mm_up_j (sg := ta1) (j' := 2) (by decide)]; rfl) (fun M32 hR => ?_)
  refine hr_aload X dX5_hand_35 rfl (Or.inr ⟨_, rfl⟩) ?_
  refine hr_aload X dX5_hand_37 rfl (Or.inr ⟨_, rfl⟩) ?_
  refine hr_get X kF5_216 dX5_hand_39 (hR.c16 hKA) rfl ?_
  rw [mm_up_s (sg := ta1)]
  refine hr_put X kF5_219 dX5_hand_42 (hR.c16 hKA) rfl rfl (Nat.le_of_ble_eq_true rfl) ?_
  refine hr_w16 hR hKA (sg' := sp_handS sg (12 * a + p)) (ta' := mm_up ta1 1 (12 * a + p) (sp_due sg (12 * a + p))) (fun j h15 _ => by rw [mm_up_j h15]; exact mm_up_j h15) (fun z hz => ⟨by rw [sp_handS_x hz, mm_up_xj hz, mm_up_xj hz], by rw [sp_handS_x hz, mm_up_xj hz, mm_up_xj hz]⟩) (fun _ _ _ => rfl) (fun _ _ => ⟨rfl, rfl⟩) (by
    unfold sp_rMark
    rw [sp_handS_13, if_pos rfl, if_pos rfl, sp_handS_j (i := 14) (by decide) (by decide), sp_handS_j (i := 16) (by decide) (by decide), show sp_handS sg (12 * a + p) 15 (12 * a + p) = sp_due sg (12 * a + p) from mm_up_s, mm_up_j (sg := mm_up sg 13 (12 * a + p) 2) (j' := 14) (by decide), mm_up_j (sg := sg) (j' := 14) (by decide), mm_up_j (sg := mm_up sg 13 (12 * a + p) 2) (j' := 13) (by decide), mm_up_s (j := 13), mm_up_j (sg := mm_up sg 13 (12 * a + p) 2) (j' := 16) (by decide), mm_up_j (sg := sg) (j' := 16) (by decide)]
    rfl) (fun M42 hR => ?_)
  have hIH : sp_I (sp_handS sg (12 * a + p)) := hI.hnd h13
  have hkH : ¬ (sp_handS sg (12 * a + p)) 13 (12 * a + p) = 0 := by rw [sp_handS_13]; decide
  have hKH : cr_isK (sp_handS sg (12 * a + p)) (12 * a + p) = true := cr_isK_at (by unfold sp_n; rw [sp_handS_j (by decide) (by decide)]; exact ha1) hp hkH
  refine hr_aload X dX5_hand_45 rfl (Or.inr ⟨_, rfl⟩) ?_
  refine hr_callV X kC5_222 dX5_hand_47 (c_X0_findPrints cA hR hIH (show cr_o2 (sp_handS sg (12 * a + p)) _ from by
    unfold cr_o2
    rw [sp_handS_j (i := 17) (by decide) (by decide), sp_handS_j (i := 18) (by decide) (by decide), sp_handS_j (i := 20) (by decide) (by decide), sp_handS_j (i := 21) (by decide) (by decide)]
    exact hok.o2.congr ((mm_up_j (by decide)).trans (hta 8 (by decide))) ((mm_up_j (by decide)).trans (hta 4 (by decide)))) (12 * a + p) (by omega) hkH) (hR.c16 hKH) rfl rfl rfl rfl (Nat.le_of_ble_eq_true rfl) ⟨⟨(Nat.le_of_ble_eq_true rfl), (Nat.le_of_ble_eq_true rfl)⟩, (Nat.le_of_ble_eq_true rfl), (Nat.le_of_ble_eq_true rfl)⟩ (fun v M47 hp47 => ?_)
  obtain ⟨rfl, ta2, hR, hP, hU⟩ := hp47
  have hok2 := cr_ok_hand hI hok h13 (ta' := ta2) (by rw [hU.1 1 (by decide) (by decide), mm_up_s]) hP (fun i h1 h2 h3 h5 => by rw [hU.1 i h2 h3, mm_up_j h1, hta i h5]) (fun y hy => ⟨by rw [hU.1 1 (by decide) (by decide), mm_up_x hy, hta 1 (by decide)], by rw [(hU.2 y hy).1, mm_up_j (by decide), hta 2 (by decide)], fun i hi => by rw [(hU.2 y hy).2 i hi, mm_up_j (by decide), hta 3 (by decide)]⟩)
  refine hr_aload X dX5_hand_50 rfl (Or.inr ⟨_, rfl⟩) ?_
  refine hr_get X kF5_219 dX5_hand_52 (hR.c16 hKH) rfl ?_
  rw [show sp_rMark (sp_handS sg (12 * a + p)) (12 * a + p) = sp_due sg (12 * a + p) by unfold sp_rMark; rw [sp_handS_13, if_pos rfl]; exact mm_up_s]
  exact hr_iretX X dX5_hand_55 (Nat.le_of_ble_eq_true rfl) (Nat.le_of_ble_eq_true rfl) ⟨hz, by rw [ek], ta2, by rw [ek]; exact hR, by rw [ek]; exact hok2⟩
set_option maxHeartbeats 4000000 in
set_option maxRecDepth 100000 in
theorem c_X5_close (cA : Nat → ClassId) {sg ta : mm_S} {ad : Nat → Nat → Nat} {M0 M : hm_M} (hR : cr_R cA sg ta ad M0 M) (hI : sp_I sg) (hok : cr_ok sg ta) (g s : Int32) : hm_XMet cA yX5_close cX5_close 7 (some .int) r_X5_close [.ref (ad 0 0), .int g, .int s] M (fun v' M' => sp_thClose sg g s = 0 ∧ v' = some (.int (sp_clN (mm_up sg 11 (4 * nN s + nN g) 1) (12 * nN s + 3 * nN g) 3)) ∧ ∃ ta' : mm_S, cr_R cA (sp_clS (mm_up sg 11 (4 * nN s + nN g) 1) (12 * nN s + 3 * nN g) 3) ta' ad M0 M' ∧ cr_ok (sp_clS (mm_up sg 11 (4 * nN s + nN g) 1) (12 * nN s + 3 * nN g) 3) ta') (fun E M' => ((sp_thClose sg g s = 1 ∧ E = "java/lang/IndexOutOfBoundsException") ∨ (sp_thClose sg g s = 2 ∧ E = "java/lang/IllegalStateException")) ∧ cr_R cA sg ta ad M0 M') := by
  refine hm_xmet 4 (by decide +kernel) (fun w h => by simp only [List.mem_cons, List.not_mem_nil, or_false] at h; rcases h with rfl | rfl | rfl <;> rfl) rfl (fun C X XE => ?_)
  show hm_W C 0 0 _ M 0 [some (.ref (ad 0 0)), some (.int g), some (.int s), none, none, none, none] []
  refine hr_iload_n X dX5_close_0 rfl ?_
  refine hr_callSX X XE kC5_45 dX5_close_1 (c_X5_checkClass cA (M := M) g) rfl rfl rfl (Nat.le_of_ble_eq_true rfl) ⟨⟨(Nat.le_of_ble_eq_true rfl), (Nat.le_of_ble_eq_true rfl)⟩, (Nat.le_of_ble_eq_true rfl), (Nat.le_of_ble_eq_true rfl)⟩ (Nat.le_of_ble_eq_true rfl) (Nat.le_of_ble_eq_true rfl) (fun _ _ h => ⟨(Or.inl ⟨(show sp_thClose sg g s = 1 by unfold sp_thClose sp_cs; rw [h.1]; rfl), h.2.1⟩), (h.2.2 ▸ hR)⟩) (fun v M1 hp1 => ?_)
  obtain ⟨h1, rfl, rfl⟩ := hp1
  obtain ⟨g, hg, rfl⟩ := sp_in_g h1
  refine hr_aload_n X dX5_close_4 rfl (Or.inr ⟨_, rfl⟩) ?_
  refine hr_iload_n X dX5_close_5 rfl ?_
  refine hr_callVX X XE kC5_49 dX5_close_6 (c_X5_sheetAt cA hR hI s) hR.c0 rfl rfl rfl rfl (Nat.le_of_ble_eq_true rfl) ⟨⟨(Nat.le_of_ble_eq_true rfl), (Nat.le_of_ble_eq_true rfl)⟩, (Nat.le_of_ble_eq_true rfl), (Nat.le_of_ble_eq_true rfl)⟩ (Nat.le_of_ble_eq_true rfl) (Nat.le_of_ble_eq_true rfl) (fun _ _ h => ⟨(Or.inl ⟨(show sp_thClose sg (nI g) s = 1 by unfold sp_thClose sp_cs; rw [h.1, Bool.and_false]; rfl), h.2.1⟩), (h.2.2 ▸ hR)⟩) (fun v M6 hp6 => ?_)
  obtain ⟨⟨a, ha, hs, rfl, rfl⟩, rfl⟩ := hp6
  obtain ⟨ha1, ha4⟩ := cr_isS_4 hI hs
  have hC1 : sp_cs sg (nI g) (nI a) = true := sb_andT h1 (by rw [← cr_isS_nat hI ha]; exact hs)
  have en : nN (nI a) = a := nI_clamp (by omega)
  have en2 : nN (nI g) = g := nI_clamp (by omega)
  refine hr_astore_n X dX5_close_9 (Nat.le_of_ble_eq_true rfl) (Or.inr ⟨_, rfl⟩) ?_
  refine hr_aload_n X dX5_close_10 rfl (Or.inr ⟨_, rfl⟩) ?_
  refine hr_get X kF5_166 dX5_close_11 (hR.c8 hs) rfl ?_
  refine hr_iload_n X dX5_close_14 rfl ?_
  refine hr_zald X dX5_close_15 (hR.c11 hs) (mm_in rfl (by omega) (by decide)).1 ?_
  rw [nI_clamp (by omega)]
  refine hr_if_eq 29 X dX5_close_16 (by decide) (fun c16 => ?_) (fun c16 => ?_)
  · have hz : sp_thClose sg (nI g) (nI a) = 0 := by unfold sp_thClose; rw [hC1, if_pos rfl, en, en2, if_pos c16]
    refine hr_aload_n X dX5_close_29 rfl (Or.inr ⟨_, rfl⟩) ?_
    refine hr_get X kF5_166 dX5_close_30 (hR.c8 hs) rfl ?_
    refine hr_iload_n X dX5_close_33 rfl ?_
    refine hr_iconst (1) X dX5_close_34 (by decide) ?_
    refine hr_zast X dX5_close_35 (hR.c11 hs) (mm_in rfl (by omega) (by decide)).1 ?_
    rw [nI_clamp (by omega)]
    refine hr_w11 hR hs hg (fun M35 hR => ?_)
    have hI1 : sp_I (mm_up sg 11 (4 * a + g) 1) := hI.cls
    have hok1 : cr_ok (mm_up sg 11 (4 * a + g) 1) ta := hok.cls hI
    refine hr_iconst (0) X dX5_close_36 (by decide) ?_
    refine hr_istore X dX5_close_37 (Nat.le_of_ble_eq_true rfl) ?_
    refine hr_iconst (0) X dX5_close_39 (by decide) ?_
    refine hr_istore X dX5_close_40 (Nat.le_of_ble_eq_true rfl) ?_
    have lp42 : ∀ (f : Nat) (p : Nat) (y6 : Option Value) (M9 : hm_M) (t9 : mm_S), cr_R cA (sp_clS (mm_up sg 11 (4 * a + g) 1) (12 * a + 3 * g) (cl_n g p)) t9 ad M0 M9 → cr_ok (sp_clS (mm_up sg 11 (4 * a + g) 1) (12 * a + 3 * g) (cl_n g p)) t9 → p ≤ 12 → 12 < p + f → hm_W C (0 + r_X5_checkClass.cells + r_X5_sheetAt.cells) (0 + r_X5_checkClass.slots + r_X5_sheetAt.slots) (hm_TX C (fun v' M' => sp_thClose sg (nI g) (nI a) = 0 ∧ v' = some (.int (sp_clN (mm_up sg 11 (4 * nN (nI a) + nN (nI g)) 1) (12 * nN (nI a) + 3 * nN (nI g)) 3)) ∧ ∃ ta' : mm_S, cr_R cA (sp_clS (mm_up sg 11 (4 * nN (nI a) + nN (nI g)) 1) (12 * nN (nI a) + 3 * nN (nI g)) 3) ta' ad M0 M' ∧ cr_ok (sp_clS (mm_up sg 11 (4 * nN (nI a) + nN (nI g)) 1) (12 * nN (nI a) + 3 * nN (nI g)) 3) ta') (fun E M' => ((sp_thClose sg (nI g) (nI a) = 1 ∧ E = "java/lang/IndexOutOfBoundsException") ∨ (sp_thClose sg (nI g) (nI a) = 2 ∧ E = "java/lang/IllegalStateException")) ∧ cr_R cA sg ta ad M0 M') r_X5_close.cells r_X5_close.slots) M9 42 [some (.ref (ad 0 0)), some (.int (nI g)), some (.int (nI a)), some (.ref (ad 8 a)), some (.int (sp_clN (mm_up sg 11 (4 * a + g) 1) (12 * a + 3 * g) (cl_n g p))), some (.int (nI p)), y6] [] := by
      intro f
      induction f with
      | zero => intro p y6 M9 t9 hR hok g1 g2; exact absurd g2 (by omega)
      | succ f ih =>
        intro p y6 M9 t9 hR hok g1 g2
        refine hr_iload X dX5_close_42 rfl ?_
        refine hr_bipush (12) X dX5_close_44 (by decide) ?_
        refine hr_icmp_ge 114 X dX5_close_46 (by decide) (fun c46 => ?_) (fun c46 => ?_)
        · have hz : p = 12 := by have := (nI_leI (a := 12) (by decide) (by omega)).mp c46; omega
          subst hz
          have e12 : cl_n g 12 = 3 := by unfold cl_n; omega
          rw [e12] at hR hok ⊢
          refine hr_iload X dX5_close_114 rfl ?_
          exact hr_iretX X dX5_close_116 (Nat.le_of_ble_eq_true rfl) (Nat.le_of_ble_eq_true rfl) ⟨hz, by rw [en, en2], _, by rw [en, en2]; exact hR, by rw [en, en2]; exact hok⟩
        · have hp : p < 12 := by
            rcases Nat.lt_or_ge p 12 with q | q
            · exact q
            · exact absurd (nI_le (by omega) (by omega)) c46
          have hIp : sp_I (sp_clS (mm_up sg 11 (4 * a + g) 1) (12 * a + 3 * g) (cl_n g p)) := sp_clS_I hI1 _
          have hsp : cr_isS (sp_clS (mm_up sg 11 (4 * a + g) 1) (12 * a + 3 * g) (cl_n g p)) a = true := by unfold cr_isS sp_n; rw [sp_clS_1, mm_up_j (by decide)]; exact hs
          have hap := (cr_isS_4 hIp hsp).1
          refine hr_aload_n X dX5_close_49 rfl (Or.inr ⟨_, rfl⟩) ?_
          refine hr_get X kF5_160 dX5_close_50 (hR.c8 hsp) rfl ?_
          refine hr_iload X dX5_close_53 rfl ?_
          refine hr_aald 6 X rfl dX5_close_55 (hR.c12 hsp) (mm_in rfl (by omega) (by decide)).1 ?_
          rw [nI_clamp (by omega)]
          refine hr_astore X dX5_close_56 (Nat.le_of_ble_eq_true rfl) (hm_rf _) ?_
          refine hr_aload X dX5_close_58 rfl (hm_rf _) ?_
          have J108 : ∀ (y6 : Option Value) (M9 : hm_M) (t9 : mm_S), cr_R cA (sp_clS (mm_up sg 11 (4 * a + g) 1) (12 * a + 3 * g) (cl_n g (p + 1))) t9 ad M0 M9 → cr_ok (sp_clS (mm_up sg 11 (4 * a + g) 1) (12 * a + 3 * g) (cl_n g (p + 1))) t9 → hm_W C (0 + r_X5_checkClass.cells + r_X5_sheetAt.cells) (0 + r_X5_checkClass.slots + r_X5_sheetAt.slots) (hm_TX C (fun v' M' => sp_thClose sg (nI g) (nI a) = 0 ∧ v' = some (.int (sp_clN (mm_up sg 11 (4 * nN (nI a) + nN (nI g)) 1) (12 * nN (nI a) + 3 * nN (nI g)) 3)) ∧ ∃ ta' : mm_S, cr_R cA (sp_clS (mm_up sg 11 (4 * nN (nI a) + nN (nI g)) 1) (12 * nN (nI a) + 3 * nN (nI g)) 3) ta' ad M0 M' ∧ cr_ok (sp_clS (mm_up sg 11 (4 * nN (nI a) + nN (nI g)) 1) (12 * nN (nI a) + 3 * nN (nI g)) 3) ta') (fun E M' => ((sp_thClose sg (nI g) (nI a) = 1 ∧ E = "java/lang/IndexOutOfBoundsException") ∨ (sp_thClose sg (nI g) (nI a) = 2 ∧ E = "java/lang/IllegalStateException")) ∧ cr_R cA sg ta ad M0 M') r_X5_close.cells r_X5_close.slots) M9 108 [some (.ref (ad 0 0)), some (.int (nI g)), some (.int (nI a)), some (.ref (ad 8 a)), some (.int (sp_clN (mm_up sg 11 (4 * a + g) 1) (12 * a + 3 * g) (cl_n g (p + 1)))), some (.int (nI p)), y6] [] := by
            intro y6 M9 t9 hR hok
            refine hr_iinc (1) X dX5_close_108 rfl (by decide) ?_
            refine hr_goto 42 X dX5_close_111 (by decide) ?_
            rw [nI_1]
            exact ih (p + 1) _ _ _ hR hok (by omega) (by omega)
          refine hr_ifnull 108 X dX5_close_60 (by decide) (fun c60 => ?_) (fun a60 c60 => ?_)
          · have h0 : (sp_clS (mm_up sg 11 (4 * a + g) 1) (12 * a + 3 * g) (cl_n g p)) 13 (12 * a + p) = 0 := by
              by_cases q : (sp_clS (mm_up sg 11 (4 * a + g) 1) (12 * a + 3 * g) (cl_n g p)) 13 (12 * a + p) = 0
              · exact q
              · rw [if_neg q] at c60; cases c60
            obtain ⟨hzS, hzN⟩ : (sp_clS (mm_up sg 11 (4 * a + g) 1) (12 * a + 3 * g) (cl_n g (p + 1))) = (sp_clS (mm_up sg 11 (4 * a + g) 1) (12 * a + 3 * g) (cl_n g p)) ∧ sp_clN (mm_up sg 11 (4 * a + g) 1) (12 * a + 3 * g) (cl_n g (p + 1)) = sp_clN (mm_up sg 11 (4 * a + g) 1) (12 * a + 3 * g) (cl_n g p) := by
              by_cases z : p / 3 = g
              · obtain ⟨z1, z2⟩ := cl_n_y z
                rw [z1] at h0
                rw [z1, z2]
                rw [show 12 * a + p = 12 * a + 3 * g + (p - 3 * g) by omega] at h0
                exact ⟨sp_clS_s (by rw [h0]; decide), sp_clN_s (by rw [h0]; decide)⟩
              · rw [cl_n_n z]
                exact ⟨rfl, rfl⟩
            rw [← hzS] at hR hok
            exact hl_loc (by rw [hzN] <;> rfl) (J108 _ _ _ hR hok)
          · have h0 : ¬ (sp_clS (mm_up sg 11 (4 * a + g) 1) (12 * a + 3 * g) (cl_n g p)) 13 (12 * a + p) = 0 := fun q => by rw [if_pos q] at c60; cases c60
            have hK := cr_isK_at hap hp h0
            rw [if_neg h0]
            refine hr_iload X dX5_close_63 rfl ?_
            refine hr_callS X kC5_156 dX5_close_65 (c_X5_classOf cA (M := _) (nI p)) rfl rfl rfl (Nat.le_of_ble_eq_true rfl) ⟨⟨(Nat.le_of_ble_eq_true rfl), (Nat.le_of_ble_eq_true rfl)⟩, (Nat.le_of_ble_eq_true rfl), (Nat.le_of_ble_eq_true rfl)⟩ (fun v M65 hp => ?_)
            obtain ⟨rfl, rfl⟩ := hp
            rw [mm_d3 (by omega)]
            refine hr_iload_n X dX5_close_68 rfl ?_
            refine hr_icmp_eq 75 X dX5_close_69 (by decide) (fun c69 => ?_) (fun c69 => ?_)
            · have z : p / 3 = g := (nI_eq (by omega) (by omega)).mp c69
              obtain ⟨z1, z2⟩ := cl_n_y z
              rw [z1] at hR hok h0 hK hIp hsp ⊢
              rw [z2] at J108
              have ekp : 12 * a + p = 12 * a + 3 * g + (p - 3 * g) := by omega
              refine hr_aload X dX5_close_75 rfl (Or.inr ⟨_, rfl⟩) ?_
              refine hr_get X kF5_208 dX5_close_77 (hR.c16 hK) rfl ?_
              refine hr_if_eq 89 X dX5_close_80 (by decide) (fun c80 => ?_) (fun c80 => ?_)
              · have h1 : sp_clS (mm_up sg 11 (4 * a + g) 1) (12 * a + 3 * g) (p - 3 * g) 13 (12 * a + p) = 1 := by
                  rcases hIp.i9 a p ha4 hp with ⟨x, -⟩ | ⟨x | x, -⟩
                  · exact absurd x h0
                  · exact x
                  · rw [if_pos x] at c80; cases c80
                have h1b := h1
                rw [ekp] at h1b
                have hzS := sp_clS_y h1b
                have hzN : sp_clN (mm_up sg 11 (4 * a + g) 1) (12 * a + 3 * g) (p - 3 * g + 1) = sp_clN (mm_up sg 11 (4 * a + g) 1) (12 * a + 3 * g) (p - 3 * g) := sp_clN_s (by rw [h1b]; decide)
                refine hr_aload_n X dX5_close_89 rfl (Or.inr ⟨_, rfl⟩) ?_
                refine hr_iload_n X dX5_close_90 rfl ?_
                refine hr_aload X dX5_close_91 rfl (Or.inr ⟨_, rfl⟩) ?_
                refine hr_callV X kC5_207 dX5_close_93 (c_X0_size cA hR (12 * a + p) hK) (hR.c16 hK) rfl rfl rfl rfl (Nat.le_of_ble_eq_true rfl) ⟨⟨(Nat.le_of_ble_eq_true rfl), (Nat.le_of_ble_eq_true rfl)⟩, (Nat.le_of_ble_eq_true rfl), (Nat.le_of_ble_eq_true rfl)⟩ (fun v M93 hp => ?_)
                obtain ⟨rfl, rfl⟩ := hp
                refine hr_ineg X dX5_close_96 ?_
                refine hr_callV X kC5_122 dX5_close_97 (c_X5_addUse cA hR hIp (nI g) (-(sp_taken (sp_clS (mm_up sg 11 (4 * a + g) 1) (12 * a + 3 * g) (p - 3 * g)) (12 * a + p)))) hR.c0 rfl rfl rfl rfl (Nat.le_of_ble_eq_true rfl) ⟨⟨(Nat.le_of_ble_eq_true rfl), (Nat.le_of_ble_eq_true rfl)⟩, (Nat.le_of_ble_eq_true rfl), (Nat.le_of_ble_eq_true rfl)⟩ (fun v M97 hp97 => ?_)
                obtain ⟨rfl, -, hp97⟩ := hp97
                have hR := hp97 (sp_nat_in (b := 3) (by decide) (by omega))
                rw [show nN (nI g) = g from nI_clamp (by omega)] at hR
                have hok := cr_ok_fgt hIp hok (k := 12 * a + p) (by omega) h1
                rw [show (12 * a + p) % 12 / 3 = g by omega] at hok
                refine hr_aload_n X dX5_close_100 rfl (Or.inr ⟨_, rfl⟩) ?_
                refine hr_get X kF5_160 dX5_close_101 (hR.c8 hsp) rfl ?_
                refine hr_iload X dX5_close_104 rfl ?_
                refine hr_null X dX5_close_106 ?_
                refine hr_aastN 6 X rfl dX5_close_107 (hR.c12 hsp) (mm_in rfl (by omega) (by decide)).1 ?_
                rw [nI_clamp (by omega)]
                refine hr_fgt hR hsp hp (fun M107 hR => ?_)
                rw [ekp] at hR hok
                rw [← hzS] at hR hok
                exact hl_loc (by rw [hzN] <;> rfl) (J108 _ _ _ hR hok)
              · have h2 : sp_clS (mm_up sg 11 (4 * a + g) 1) (12 * a + 3 * g) (p - 3 * g) 13 (12 * a + p) = 2 := by
                  by_cases x : sp_clS (mm_up sg 11 (4 * a + g) 1) (12 * a + 3 * g) (p - 3 * g) 13 (12 * a + p) = 2
                  · exact x
                  · rw [if_neg x] at c80; exact absurd rfl c80
                rw [ekp] at h2
                have hzS : sp_clS (mm_up sg 11 (4 * a + g) 1) (12 * a + 3 * g) (p - 3 * g + 1) = sp_clS (mm_up sg 11 (4 * a + g) 1) (12 * a + 3 * g) (p - 3 * g) := sp_clS_s (by rw [h2]; decide)
                have hzN : sp_clN (mm_up sg 11 (4 * a + g) 1) (12 * a + 3 * g) (p - 3 * g + 1) = sp_clN (mm_up sg 11 (4 * a + g) 1) (12 * a + 3 * g) (p - 3 * g) + 1 := sp_clN_y h2
                refine hr_iinc (1) X dX5_close_83 rfl (by decide) ?_
                refine hr_goto 108 X dX5_close_86 (by decide) ?_
                rw [← hzS] at hR hok
                exact hl_loc (by rw [hzN] <;> rfl) (J108 _ _ _ hR hok)
            · have z : p / 3 ≠ g := fun q => c69 (by rw [q])
              have hzS := congrArg (sp_clS (mm_up sg 11 (4 * a + g) 1) (12 * a + 3 * g)) (cl_n_n z)
              have hzN := congrArg (sp_clN (mm_up sg 11 (4 * a + g) 1) (12 * a + 3 * g)) (cl_n_n z)
              refine hr_goto 108 X dX5_close_72 (by decide) ?_
              rw [← hzS] at hR hok
              exact hl_loc (by rw [hzN] <;> rfl) (J108 _ _ _ hR hok)
    have z := lp42 13 0 none _ _ (show cr_R cA (sp_clS (mm_up sg 11 (4 * a + g) 1) (12 * a + 3 * g) (cl_n g 0)) ta ad M0 _ from by rw [show cl_n g 0 = 0 by unfold cl_n; omega]; exact hR) (by rw [show cl_n g 0 = 0 by unfold cl_n; omega]; exact hok1) (by decide) (by decide)
    rw [show cl_n g 0 = 0 by unfold cl_n; omega] at z
    exact z
  · have hno : sp_thClose sg (nI g) (nI a) = 2 := by unfold sp_thClose; rw [hC1, if_pos rfl, en, en2, if_neg c16]
    exact hr_throw X XE kT5_37_170_41 dX5_close_19 dX5_close_22 dX5_close_23 dX5_close_25 dX5_close_28 rfl ⟨(Nat.le_of_ble_eq_true rfl), (Nat.le_of_ble_eq_true rfl), (Nat.le_of_ble_eq_true rfl), (Nat.le_of_ble_eq_true rfl)⟩ (Nat.le_of_ble_eq_true rfl) (Nat.le_of_ble_eq_true rfl) ⟨Or.inr ⟨hno, rfl⟩, hR⟩
