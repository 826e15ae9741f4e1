/-! fold: the system's method -/
set_option maxHeartbeats 4000000 in
set_option maxRecDepth 100000 in
theorem c_X5_addUse_r (cA : Nat → ClassId) {M : hm_M} {v u : Nat} {v0 v1 v2 v4 v5 v6 : Value} {f : Nat → Int32} (hV : M v = some (.inr (5, [v0, v1, v2, .ref u, v4, v5, v6]))) (hU : M u = some (cr_iw cA 0 4 f)) (g : Nat) (hg : g < 4) (growth : Int32) : hm_Met cA yX5_addUse cX5_addUse 3 none r_X5_addUse [.ref v, .int (nI g), .int growth] M (fun v' M' => v' = none ∧ M' = hm_up M u (cr_iw cA 0 4 (upd f g (f g + growth)))) := by
  refine hm_met 0 (by decide +kernel) (fun w h => by simp only [List.mem_cons, List.not_mem_nil, or_false] at h; rcases h with rfl | rfl | rfl <;> rfl) rfl (fun C X => ?_)
  show hm_W C 0 0 _ M 0 [some (.ref v), some (.int (nI g)), some (.int growth)] []
  have hin : sp_in (nI g) 0 3 = true := sp_nat_in (b := 3) (by decide) (by omega)
  refine hr_iload_n X dX5_addUse_0 rfl ?_
  refine hr_callS X kC5_390 dX5_addUse_1 (c_X5_isClass cA (M := M) (nI g)) rfl rfl rfl (Nat.le_of_ble_eq_true rfl) ⟨⟨(Nat.le_of_ble_eq_true rfl), (Nat.le_of_ble_eq_true rfl)⟩, (Nat.le_of_ble_eq_true rfl), (Nat.le_of_ble_eq_true rfl)⟩ (fun v M1 hp => ?_)
  obtain ⟨rfl, rfl⟩ := hp
  rw [hin]
  refine hr_if_eq 17 X dX5_addUse_4 (by decide) (fun c4 => ?_) (fun c4 => ?_)
  · exact absurd c4 (by decide)
  · refine hr_aload_n X dX5_addUse_7 rfl (Or.inr ⟨_, rfl⟩) ?_
    refine hr_get X kF5_23 dX5_addUse_8 hV rfl ?_
    refine hr_iload_n X dX5_addUse_11 rfl ?_
    refine hr_dup2 X dX5_addUse_12 rfl rfl ?_
    refine hr_iald X dX5_addUse_13 hU (mm_in rfl (by omega) (by decide)).1 ?_
    rw [nI_clamp (by omega)]
    refine hr_iload_n X dX5_addUse_14 rfl ?_
    refine hr_iadd X dX5_addUse_15 ?_
    refine hr_iast X dX5_addUse_16 hU (mm_in rfl (by omega) (by decide)).1 ?_
    rw [nI_clamp (by omega)]
    exact hr_vret X dX5_addUse_17 (Nat.le_of_ble_eq_true rfl) (Nat.le_of_ble_eq_true rfl) ⟨rfl, rfl⟩
set_option maxHeartbeats 4000000 in
set_option maxRecDepth 100000 in
theorem c_X5_fold (cA : Nat → ClassId) {sg ta : mm_S} {ad : Nat → Nat → Nat} {M0 M : hm_M} (hR : cr_R cA sg ta ad M0 M) (hI : sp_I sg) (hok : cr_ok sg ta) (s v : Int32) : hm_XMet cA yX5_fold cX5_fold 8 (some .int) r_X5_fold [.ref (ad 0 0), .int s, .int v] M (fun v' M' => sp_thFold sg s v = 0 ∧ v' = some (.int (sp_pass sg (16 * nN s + nN v) (sp_toO sg (nN s) (nN v)) false)) ∧ ∃ (ta' : mm_S) (ad' : Nat → Nat → Nat), cr_R cA (sp_foldS sg (nN s) (nN v)) ta' ad' M0 M' ∧ cr_ok (sp_foldS sg (nN s) (nN v)) ta' ∧ ad' 0 0 = ad 0 0) (fun E M' => ((sp_thFold sg s v = 1 ∧ E = "java/lang/IndexOutOfBoundsException") ∨ (sp_thFold sg s v = 2 ∧ E = "java/lang/IllegalStateException")) ∧ cr_R cA sg ta ad M0 M') := by
  refine hm_xmet 5 (by decide +kernel) (fun w h => by simp only [List.mem_cons, List.not_mem_nil, or_false] at h; rcases h with rfl | rfl | rfl <;> rfl) rfl (fun C X XE => ?_)
  show hm_W C 0 0 _ M 0 [some (.ref (ad 0 0)), some (.int s), some (.int v), none, none, none, none, none] []
  refine hr_aload_n X dX5_fold_0 rfl (Or.inr ⟨_, rfl⟩) ?_
  refine hr_iload_n X dX5_fold_1 rfl ?_
  refine hr_callVX X XE kC5_49 dX5_fold_2 (c_X5_sheetAt cA hR hI s) hR.c0 rfl rfl rfl rfl (Nat.le_of_ble_eq_true rfl) ⟨⟨(Nat.le_of_ble_eq_true rfl), (Nat.le_of_ble_eq_true rfl)⟩, (Nat.le_of_ble_eq_true rfl), (Nat.le_of_ble_eq_true rfl)⟩ (Nat.le_of_ble_eq_true rfl) (Nat.le_of_ble_eq_true rfl) (fun _ _ h => ⟨(Or.inl ⟨(show sp_thFold sg s v = 1 by unfold sp_thFold; rw [sp_isV_S h.1]; rfl), h.2.1⟩), (h.2.2 ▸ hR)⟩) (fun v M2 hp2 => ?_)
  obtain ⟨⟨a, ha, hs, rfl, rfl⟩, rfl⟩ := hp2
  obtain ⟨ha1, ha4⟩ := cr_isS_4 hI hs
  refine hr_astore_n X dX5_fold_5 (Nat.le_of_ble_eq_true rfl) (Or.inr ⟨_, rfl⟩) ?_
  refine hr_aload_n X dX5_fold_6 rfl (Or.inr ⟨_, rfl⟩) ?_
  refine hr_iload_n X dX5_fold_7 rfl ?_
  refine hr_callSX X XE kC5_86 dX5_fold_8 (c_X5_versionAt cA hR hI a hs v) rfl rfl rfl (Nat.le_of_ble_eq_true rfl) ⟨⟨(Nat.le_of_ble_eq_true rfl), (Nat.le_of_ble_eq_true rfl)⟩, (Nat.le_of_ble_eq_true rfl), (Nat.le_of_ble_eq_true rfl)⟩ (Nat.le_of_ble_eq_true rfl) (Nat.le_of_ble_eq_true rfl) (fun _ _ h => ⟨(Or.inl ⟨(show sp_thFold sg (nI a) v = 1 by unfold sp_thFold; rw [h.1]; rfl), h.2.1⟩), (h.2.2 ▸ hR)⟩) (fun v M8 hp8 => ?_)
  obtain ⟨⟨c, hc, hn, rfl, rfl⟩, rfl⟩ := hp8
  have hv : sp_th sg a c := ⟨hc, hn⟩
  have hx := cr_isV_th ha1 hv
  have hV := sp_isV_yes hI ha4 hs hc hn
  have en : nN (nI a) = a := nI_clamp (by omega)
  have en2 : nN (nI c) = c := nI_clamp (by omega)
  refine hr_astore X dX5_fold_11 (Nat.le_of_ble_eq_true rfl) (Or.inr ⟨_, rfl⟩) ?_
  refine hr_aload_n X dX5_fold_13 rfl (Or.inr ⟨_, rfl⟩) ?_
  refine hr_aload X dX5_fold_14 rfl (Or.inr ⟨_, rfl⟩) ?_
  refine hr_callV X kC5_94 dX5_fold_16 (c_X3_canFold cA hR hI a c hs hv) (hR.c8 hs) rfl rfl rfl rfl (Nat.le_of_ble_eq_true rfl) ⟨⟨(Nat.le_of_ble_eq_true rfl), (Nat.le_of_ble_eq_true rfl)⟩, (Nat.le_of_ble_eq_true rfl), (Nat.le_of_ble_eq_true rfl)⟩ (fun v M16 hp => ?_)
  obtain ⟨rfl, rfl⟩ := hp
  refine hr_if_ne 32 X dX5_fold_19 (by decide) (fun c19 => ?_) (fun c19 => ?_)
  · have hneed := sb_notT (hm_bI_ne.mp c19)
    have hfd := sp_fd_of hI ha1 hv hneed
    have h16 : ¬ sp_ch sg a c 16 = -2 := by
      unfold sp_need at hneed
      rw [Bool.or_eq_false_iff] at hneed
      exact of_decide_eq_false hneed.2
    obtain ⟨gx, hgx, ogx⟩ : ∃ g, g < 4 ∧ sg 4 (16 * a + c) = nI g := by
      rcases (hI.i3 a ha1).2 c hv with ⟨q, -⟩ | ⟨u, g, -, -, -, q1, q2⟩
      · exact absurd q hfd.2.2.1
      · exact ⟨g, q1, q2⟩
    refine hr_aload_n X dX5_fold_32 rfl (Or.inr ⟨_, rfl⟩) ?_
    refine hr_aload X dX5_fold_33 rfl (Or.inr ⟨_, rfl⟩) ?_
    refine hr_callV X kC5_100 dX5_fold_35 (c_X3_childOf cA hR hI a c hs hv h16) (hR.c8 hs) rfl rfl rfl rfl (Nat.le_of_ble_eq_true rfl) ⟨⟨(Nat.le_of_ble_eq_true rfl), (Nat.le_of_ble_eq_true rfl)⟩, (Nat.le_of_ble_eq_true rfl), (Nat.le_of_ble_eq_true rfl)⟩ (fun v M35 hp => ?_)
    obtain ⟨rfl, rfl⟩ := hp
    refine hr_astore X dX5_fold_38 (Nat.le_of_ble_eq_true rfl) (hm_rf _) ?_
    refine hr_aload X dX5_fold_40 rfl (Or.inr ⟨_, rfl⟩) ?_
    refine hr_callV X kC5_104 dX5_fold_42 (c_X4_size cA hR hI (16 * a + c) hx) (hR.c13 hx) rfl rfl rfl rfl (Nat.le_of_ble_eq_true rfl) ⟨⟨(Nat.le_of_ble_eq_true rfl), (Nat.le_of_ble_eq_true rfl)⟩, (Nat.le_of_ble_eq_true rfl), (Nat.le_of_ble_eq_true rfl)⟩ (fun v M42 hp => ?_)
    obtain ⟨rfl, rfl⟩ := hp
    refine hr_istore X dX5_fold_45 (Nat.le_of_ble_eq_true rfl) ?_
    refine hr_iconst (0) X dX5_fold_47 (by decide) ?_
    refine hr_istore X dX5_fold_48 (Nat.le_of_ble_eq_true rfl) ?_
    refine hr_aload X dX5_fold_50 rfl (hm_rf _) ?_
    have hz0 : sp_cFold sg a c = true → sp_thFold sg (nI a) (nI c) = 0 := fun q => by
      unfold sp_thFold
      rw [hV, en, en2, q]
      rfl
    have J119 : sp_cFold sg a c = true → ∀ (M9 : hm_M) (f9 : Nat → Int32) (mv : Int32), M9 (ad 0 0) = some (.inr (5, [.ref (ad 1 0), .int (sg 1 0), .ref (ad 2 0), .ref (ad 3 0), .ref (ad 4 0), .ref (ad 5 0), .ref (ad 6 0)])) → M9 (ad 3 0) = some (cr_iw cA 0 4 f9) → M9 (ad 13 (16 * a + c)) = some (.inr (4, [.int (nI ((16 * a + c) % 16)), .int (sg 4 (16 * a + c)), va_rf ((cr_up sg (16 * a + c)).map (ad 13)), .ref (ad 14 (16 * a + c))])) → M9 (ad 8 a) = some (.inr (3, [.ref (ad 9 a), .int (sg 5 a), .ref (ad 10 a), .ref (ad 11 a), .ref (ad 12 a)])) → M9 (ad 9 a) = some (cr_rw cA 4 16 (fun w => if sg 2 (16 * a + w) = 0 then none else some (ad 13 (16 * a + w)))) → (sp_pass sg (16 * a + c) none false) - mv = sp_pass sg (16 * a + c) (sp_toO sg a c) false → (∀ ta9 : mm_S, (∀ j, j ≠ 0 → ta9 j = ta j) → ta9 0 = upd f9 gx (f9 gx + -(sp_pass sg (16 * a + c) none false)) → (∀ g, g < 4 → ta9 0 g = sp_used (sp_fdF sg a c (sp_toO sg a c)) (nI g)) ∧ (∀ y, (sp_toO sg a c) = some y → (hm_up (hm_up M9 (ad 3 0) (cr_iw cA 0 4 (upd f9 gx (f9 gx + -(sp_pass sg (16 * a + c) none false))))) (ad 9 a) (cr_rw cA 4 16 (va_up (fun w => if sg 2 (16 * a + w) = 0 then none else some (ad 13 (16 * a + w))) c none))) (ad 14 y) = some (cr_rw cA 5 5 (fun t => if t < 5 ∧ cr_row sg ad y t = none then cr_row sg ad (16 * a + c) t else cr_row sg ad y t)) ∧ (hm_up (hm_up M9 (ad 3 0) (cr_iw cA 0 4 (upd f9 gx (f9 gx + -(sp_pass sg (16 * a + c) none false))))) (ad 9 a) (cr_rw cA 4 16 (va_up (fun w => if sg 2 (16 * a + w) = 0 then none else some (ad 13 (16 * a + w))) c none))) (ad 13 y) = some (.inr (4, [.int (nI (y % 16)), .int (sg 4 y), va_rf ((cr_up sg (16 * a + c)).map (ad 13)), .ref (ad 14 y)]))) ∧ (∀ q z e, cr_cell cA sg ta ad q z = some e → ¬ (q = 3 ∧ z = 0) → ¬ (q = 9 ∧ z = a) → (∀ y, (sp_toO sg a c) = some y → ¬ (q = 14 ∧ z = y) ∧ ¬ (q = 13 ∧ z = y)) → (hm_up (hm_up M9 (ad 3 0) (cr_iw cA 0 4 (upd f9 gx (f9 gx + -(sp_pass sg (16 * a + c) none false))))) (ad 9 a) (cr_rw cA 4 16 (va_up (fun w => if sg 2 (16 * a + w) = 0 then none else some (ad 13 (16 * a + w))) c none))) (ad q z) = some e) ∧ ∀ b e, M0 b = some e → (hm_up (hm_up M9 (ad 3 0) (cr_iw cA 0 4 (upd f9 gx (f9 gx + -(sp_pass sg (16 * a + c) none false))))) (ad 9 a) (cr_rw cA 4 16 (va_up (fun w => if sg 2 (16 * a + w) = 0 then none else some (ad 13 (16 * a + w))) c none))) b = some e) → hm_W C (0 + r_X5_sheetAt.cells + r_X5_versionAt.cells) (0 + r_X5_sheetAt.slots + r_X5_versionAt.slots) (hm_TX C (fun v' M' => sp_thFold sg (nI a) (nI c) = 0 ∧ v' = some (.int (sp_pass sg (16 * nN (nI a) + nN (nI c)) (sp_toO sg (nN (nI a)) (nN (nI c))) false)) ∧ ∃ (ta' : mm_S) (ad' : Nat → Nat → Nat), cr_R cA (sp_foldS sg (nN (nI a)) (nN (nI c))) ta' ad' M0 M' ∧ cr_ok (sp_foldS sg (nN (nI a)) (nN (nI c))) ta' ∧ ad' 0 0 = ad 0 0) (fun E M' => ((sp_thFold sg (nI a) (nI c) = 1 ∧ E = "java/lang/IndexOutOfBoundsException") ∨ (sp_thFold sg (nI a) (nI c) = 2 ∧ E = "java/lang/IllegalStateException")) ∧ cr_R cA sg ta ad M0 M') r_X5_fold.cells r_X5_fold.slots) M9 119 [some (.ref (ad 0 0)), some (.int (nI a)), some (.int (nI c)), some (.ref (ad 8 a)), some (.ref (ad 13 (16 * a + c))), some (va_rf ((sp_chO sg a c).map (fun d => ad 13 (16 * a + d)))), some (.int (sp_pass sg (16 * a + c) none false)), some (.int mv)] [] := by
      intro hcF M9 f9 mv k0 k3 k13 k8 k9 kmv kk9
      refine hr_aload_n X dX5_fold_119 rfl (Or.inr ⟨_, rfl⟩) ?_
      refine hr_aload X dX5_fold_120 rfl (Or.inr ⟨_, rfl⟩) ?_
      refine hr_get X kF5_113 dX5_fold_122 k13 rfl ?_
      rw [ogx]
      refine hr_iload X dX5_fold_125 rfl ?_
      refine hr_ineg X dX5_fold_127 ?_
      refine hr_callV X kC5_122 dX5_fold_128 (c_X5_addUse_r cA k0 k3 gx hgx (-(sp_pass sg (16 * a + c) none false))) k0 rfl rfl rfl rfl (Nat.le_of_ble_eq_true rfl) ⟨⟨(Nat.le_of_ble_eq_true rfl), (Nat.le_of_ble_eq_true rfl)⟩, (Nat.le_of_ble_eq_true rfl), (Nat.le_of_ble_eq_true rfl)⟩ (fun v M128 hp128 => ?_)
      obtain ⟨rfl, rfl⟩ := hp128
      have n13 : ad 13 (16 * a + c) ≠ ad 3 0 := fun q => by rw [q, k3] at k13; cases k13
      have n8 : ad 8 a ≠ ad 3 0 := fun q => by rw [q, k3] at k8; cases k8
      have n9 : ad 9 a ≠ ad 3 0 := hR.ne (q := 9) (x := a) (q' := 3) (x' := 0) (if_pos hs) rfl (by decide)
      have k13b := (hm_up_n n13 (e := cr_iw cA 0 4 (upd f9 gx (f9 gx + -(sp_pass sg (16 * a + c) none false))))).trans k13
      rw [show (16 * a + c) % 16 = c by omega] at k13b
      refine hr_aload_n X dX5_fold_131 rfl (Or.inr ⟨_, rfl⟩) ?_
      refine hr_aload X dX5_fold_132 rfl (Or.inr ⟨_, rfl⟩) ?_
      refine hr_callV X kC5_129 dX5_fold_134 (c_X3_remove cA (v := c) ((hm_up_n n8).trans k8) k13b ((hm_up_n n9).trans k9) hc) ((hm_up_n n8).trans k8) rfl rfl rfl rfl (Nat.le_of_ble_eq_true rfl) ⟨⟨(Nat.le_of_ble_eq_true rfl), (Nat.le_of_ble_eq_true rfl)⟩, (Nat.le_of_ble_eq_true rfl), (Nat.le_of_ble_eq_true rfl)⟩ (fun v M134 hp134 => ?_)
      obtain ⟨rfl, rfl⟩ := hp134
      obtain ⟨w1, w2, w3, w4⟩ := kk9 (cr_tj ta 0 (upd f9 gx (f9 gx + -(sp_pass sg (16 * a + c) none false)))) (fun j hj => cr_tj_n hj) cr_tj_s
      refine hr_fold (ta' := cr_tj ta 0 (upd f9 gx (f9 gx + -(sp_pass sg (16 * a + c) none false)))) hI hfd hR (fun j hj => cr_tj_n hj) ((hm_up_n n9.symm).trans (by rw [hm_up_s, cr_tj_s])) hm_up_s w2 w3 w4 (fun M134 hR2 => ?_)
      refine hr_iload X dX5_fold_137 rfl ?_
      refine hr_iload X dX5_fold_139 rfl ?_
      refine hr_isub X dX5_fold_141 ?_
      exact hr_iretX X dX5_fold_142 (Nat.le_of_ble_eq_true rfl) (Nat.le_of_ble_eq_true rfl) ⟨hz0 hcF, by rw [en, en2, kmv], _, _, by rw [en, en2]; exact hR2, by rw [en, en2]; exact cr_ok_fold hI hok hfd w1 (fun j hj => cr_tj_n hj), if_neg (fun (w : (0 : Nat) = 15 ∧ _) => absurd w.1 (by decide))⟩
    refine hr_ifnull 119 X dX5_fold_52 (by decide) (fun c52 => ?_) (fun a52 c52 => ?_)
    · have hno : sp_chO sg a c = none := by
        cases hq : sp_chO sg a c with
        | none => rfl
        | some d => rw [hq] at c52; cases c52
      have hto : sp_toO sg a c = none := by unfold sp_toO; rw [hno]; rfl
      have hcF : sp_cFold sg a c = true := by
        unfold sp_cFold
        rw [hneed, hno]
        rfl
      refine J119 hcF _ (ta 0) 0 hR.c0 hR.c3 (hR.c13 hx) (hR.c8 hs) (hR.c9 hs) ?_ (fun ta9 j1 j2 => ⟨fun g hg => ?_, fun y hy => (by rw [hto] at hy; cases hy), fun q z e he h3 h9 _ => ?_, fun b e he => ?_⟩)
      · rw [hto, Int32.sub_zero]
      · rw [j2, sp_used_fold hI hfd, hto, ← hok.1 g hg]
        dsimp only [cr_mvd]
        rw [Int32.zero_add, ogx]
        by_cases q : g = gx
        · rw [q, upd_s, if_pos rfl]
        · rw [upd_n q, if_neg (fun w => q ((nI_eq (by omega) (by omega)).mp w).symm), Int32.add_zero]
      · rw [hm_up_n (cr_at_ne hR he (q1 := 9) (y1 := a) (if_pos hs) h9), hm_up_n (cr_at_ne hR he (q1 := 3) (y1 := 0) rfl h3)]
        exact hR.at he
      · rw [hm_up_n (fun q => by rw [q, (hR.1 9 a _ (if_pos hs)).2] at he; cases he), hm_up_n (fun q => by rw [q, (hR.1 3 0 _ rfl).2] at he; cases he)]
        exact hR.2.2 b e he
    · obtain ⟨d, hd⟩ : ∃ d, sp_chO sg a c = some d := by
        cases hq : sp_chO sg a c with
        | none => rw [hq] at c52; cases c52
        | some d => exact ⟨d, rfl⟩
      have hto : sp_toO sg a c = some (16 * a + d) := by unfold sp_toO; rw [hd]; rfl
      obtain ⟨d9, e1, hth, hpar, hlt⟩ := hfd.2.2.2.2.2.2 _ hto
      have ed : d = d9 := by omega
      subst ed
      have d16 := hth.1
      have hy := cr_isV_th ha1 hth
      obtain ⟨gy, hgy, ogy⟩ : ∃ g, g < 4 ∧ sg 4 (16 * a + d) = nI g := by
        rcases (hI.i3 a ha1).2 d hth with ⟨q, -⟩ | ⟨u, g, -, -, -, q1, q2⟩
        · omega
        · exact ⟨g, q1, q2⟩
      have l13 : ∀ d, cr_isV sg (16 * a + d) = true → ∀ {ta : mm_S}, cr_cell cA sg ta ad 13 (16 * a + d) = some _ := fun d h {_} => if_pos h
      have l14 : ∀ d, cr_isV sg (16 * a + d) = true → ∀ {ta : mm_S}, cr_cell cA sg ta ad 14 (16 * a + d) = some _ := fun d h {_} => if_pos h
      rw [hd]
      refine hr_aload X dX5_fold_55 rfl (Or.inr ⟨_, rfl⟩) ?_
      refine hr_aload X dX5_fold_57 rfl (hm_rf _) ?_
      refine hr_callV X kC5_110 dX5_fold_59 (c_X4_sizeMissingIn cA hR hI (16 * a + c) (16 * a + d) hx hy) (hR.c13 hx) rfl rfl rfl rfl (Nat.le_of_ble_eq_true rfl) ⟨⟨(Nat.le_of_ble_eq_true rfl), (Nat.le_of_ble_eq_true rfl)⟩, (Nat.le_of_ble_eq_true rfl), (Nat.le_of_ble_eq_true rfl)⟩ (fun v M59 hp => ?_)
      obtain ⟨rfl, rfl⟩ := hp
      refine hr_istore X dX5_fold_62 (Nat.le_of_ble_eq_true rfl) ?_
      refine hr_aload X dX5_fold_64 rfl (hm_rf _) ?_
      refine hr_get X kF5_113 dX5_fold_66 (hR.c13 hy) rfl ?_
      refine hr_aload X dX5_fold_69 rfl (Or.inr ⟨_, rfl⟩) ?_
      refine hr_get X kF5_113 dX5_fold_71 (hR.c13 hx) rfl ?_
      have J101 : sp_cFold sg a c = true → hm_W C (0 + r_X5_sheetAt.cells + r_X5_versionAt.cells) (0 + r_X5_sheetAt.slots + r_X5_versionAt.slots) (hm_TX C (fun v' M' => sp_thFold sg (nI a) (nI c) = 0 ∧ v' = some (.int (sp_pass sg (16 * nN (nI a) + nN (nI c)) (sp_toO sg (nN (nI a)) (nN (nI c))) false)) ∧ ∃ (ta' : mm_S) (ad' : Nat → Nat → Nat), cr_R cA (sp_foldS sg (nN (nI a)) (nN (nI c))) ta' ad' M0 M' ∧ cr_ok (sp_foldS sg (nN (nI a)) (nN (nI c))) ta' ∧ ad' 0 0 = ad 0 0) (fun E M' => ((sp_thFold sg (nI a) (nI c) = 1 ∧ E = "java/lang/IndexOutOfBoundsException") ∨ (sp_thFold sg (nI a) (nI c) = 2 ∧ E = "java/lang/IllegalStateException")) ∧ cr_R cA sg ta ad M0 M') r_X5_fold.cells r_X5_fold.slots) M 101 [some (.ref (ad 0 0)), some (.int (nI a)), some (.int (nI c)), some (.ref (ad 8 a)), some (.ref (ad 13 (16 * a + c))), some (va_rf (some (ad 13 (16 * a + d)))), some (.int (sp_pass sg (16 * a + c) none false)), some (.int (sp_pass sg (16 * a + c) (some (16 * a + d)) true))] [] := by
        intro hcF
        refine hr_aload_n X dX5_fold_101 rfl (Or.inr ⟨_, rfl⟩) ?_
        refine hr_aload X dX5_fold_102 rfl (hm_rf _) ?_
        refine hr_get X kF5_113 dX5_fold_104 (hR.c13 hy) rfl ?_
        rw [ogy]
        refine hr_iload X dX5_fold_107 rfl ?_
        refine hr_callV X kC5_122 dX5_fold_109 (c_X5_addUse cA hR hI (nI gy) (sp_pass sg (16 * a + c) (some (16 * a + d)) true)) hR.c0 rfl rfl rfl rfl (Nat.le_of_ble_eq_true rfl) ⟨⟨(Nat.le_of_ble_eq_true rfl), (Nat.le_of_ble_eq_true rfl)⟩, (Nat.le_of_ble_eq_true rfl), (Nat.le_of_ble_eq_true rfl)⟩ (fun v M109 hp109 => ?_)
        obtain ⟨rfl, -, hp109⟩ := hp109
        have hR1 := hp109 (sp_nat_in (b := 3) (by decide) (by omega))
        rw [show nN (nI gy) = gy from nI_clamp (by omega)] at hR1
        have n1414 : ad 14 (16 * a + c) ≠ ad 14 (16 * a + d) := cr_at_ne hR1 (q0 := 14) (q1 := 14) (if_pos hx) (if_pos hy) (fun q => by omega)
        refine hr_aload X dX5_fold_112 rfl (hm_rf _) ?_
        refine hr_aload X dX5_fold_114 rfl (Or.inr ⟨_, rfl⟩) ?_
        refine hr_callV X kC5_125 dX5_fold_116 (c_X4_inherit cA (hR1.c13 hy) (hR1.c13 hx) (hR1.c14 hy) (hR1.c14 hx) n1414 (hm_rf _) (fun t z ht hz => by
          by_cases q : sg 6 (5 * (16 * a + c) + t) = 4
          · rw [if_pos q] at hz; cases hz
          · rw [if_neg q] at hz
            cases hz
            exact ⟨_, hR1.c15 (cr_isE_V hx ht q)⟩)) (hR1.c13 hy) rfl rfl rfl rfl (Nat.le_of_ble_eq_true rfl) ⟨⟨(Nat.le_of_ble_eq_true rfl), (Nat.le_of_ble_eq_true rfl)⟩, (Nat.le_of_ble_eq_true rfl), (Nat.le_of_ble_eq_true rfl)⟩ (fun v M116 hp116 => ?_)
        obtain ⟨rfl, rfl⟩ := hp116
        refine hl_loc (by rw [hd] <;> rfl) (J119 hcF _ (mm_up ta 0 gy (ta 0 gy + sp_pass sg (16 * a + c) (some (16 * a + d)) true) 0) _ ?_ ?_ ?_ ?_ ?_ ?_ (fun ta9 j1 j2 => ⟨fun g hg => ?_, fun y hy2 => ?_, fun q z e he h3 h9 h14 => ?_, fun b e he => ?_⟩))
        · rw [hm_up_n (cr_at_ne hR1 (q0 := 0) (y0 := 0) rfl (l13 d hy) (fun q => by omega)), hm_up_n (cr_at_ne hR1 (q0 := 0) (y0 := 0) rfl (l14 d hy) (fun q => by omega))]
          exact hR1.c0
        · rw [hm_up_n (cr_at_ne hR1 (q0 := 3) (y0 := 0) rfl (l13 d hy) (fun q => by omega)), hm_up_n (cr_at_ne hR1 (q0 := 3) (y0 := 0) rfl (l14 d hy) (fun q => by omega))]
          exact hR1.c3
        · rw [hm_up_n (cr_at_ne hR1 (q0 := 13) (y0 := (16 * a + c)) (if_pos hx) (l13 d hy) (fun q => by omega)), hm_up_n (cr_at_ne hR1 (q0 := 13) (y0 := (16 * a + c)) (if_pos hx) (l14 d hy) (fun q => by omega))]
          exact hR1.c13 hx
        · rw [hm_up_n (cr_at_ne hR1 (q0 := 8) (y0 := a) (if_pos hs) (l13 d hy) (fun q => by omega)), hm_up_n (cr_at_ne hR1 (q0 := 8) (y0 := a) (if_pos hs) (l14 d hy) (fun q => by omega))]
          exact hR1.c8 hs
        · rw [hm_up_n (cr_at_ne hR1 (q0 := 9) (y0 := a) (if_pos hs) (l13 d hy) (fun q => by omega)), hm_up_n (cr_at_ne hR1 (q0 := 9) (y0 := a) (if_pos hs) (l14 d hy) (fun q => by omega))]
          exact hR1.c9 hs
        · rw [hto, sp_pass_sum sg (16 * a + c) (some (16 * a + d)), Int32.add_comm, Int32.add_sub_cancel]
        · rw [j2, sp_used_fold hI hfd, hto, ← hok.1 g hg]
          dsimp only [cr_mvd]
          rw [ogx, ogy, ← Int32.add_assoc]
          by_cases q : g = gx
          · rw [q, upd_s, if_pos rfl]
            congr 1
            by_cases w : gx = gy
            · rw [w, mm_up_s, if_pos rfl]
            · rw [mm_up_x w, if_neg (fun x => w ((nI_eq (by omega) (by omega)).mp x).symm), Int32.add_zero]
          · rw [upd_n q, if_neg (c := nI gx = nI g) (fun w => q ((nI_eq (by omega) (by omega)).mp w).symm), Int32.add_zero]
            by_cases w : g = gy
            · rw [w, mm_up_s, if_pos rfl]
            · rw [mm_up_x w, if_neg (fun x => w ((nI_eq (by omega) (by omega)).mp x).symm), Int32.add_zero]
        · rw [hto] at hy2
          cases hy2
          refine ⟨?_, ?_⟩
          · rw [hm_up_n (cr_at_ne hR1 (q1 := 9) (y1 := a) (l14 d hy) (if_pos hs) (fun q => by omega)), hm_up_n (cr_at_ne hR1 (q1 := 3) (y1 := 0) (l14 d hy) rfl (fun q => by omega)), hm_up_n (cr_at_ne hR1 (l14 d hy) (l13 d hy) (fun q => by omega)), hm_up_s]
            rfl
          · rw [hm_up_n (cr_at_ne hR1 (q1 := 9) (y1 := a) (l13 d hy) (if_pos hs) (fun q => by omega)), hm_up_n (cr_at_ne hR1 (q1 := 3) (y1 := 0) (l13 d hy) rfl (fun q => by omega)), hm_up_s]
        · obtain ⟨x1, x2⟩ := h14 (16 * a + d) hto
          have he1 : cr_cell cA sg (mm_up ta 0 gy (ta 0 gy + sp_pass sg (16 * a + c) (some (16 * a + d)) true)) ad q z = some e := by
            rw [← he]
            by_cases y : q = 3
            · have hz : z ≠ 0 := fun w => h3 ⟨y, w⟩
              rw [cr_cell_0 (by omega) hz, cr_cell_0 (by omega) hz]
            · exact cr_cell_t (fun j hj => mm_up_j (fun w => y (by rw [w] at hj; exact cr_own_of hj)))
          rw [hm_up_n (cr_at_ne hR1 he1 (q1 := 9) (y1 := a) (if_pos hs) h9), hm_up_n (cr_at_ne hR1 he1 (q1 := 3) (y1 := 0) rfl h3), hm_up_n (cr_at_ne hR1 he1 (l13 d hy) x2), hm_up_n (cr_at_ne hR1 he1 (l14 d hy) x1)]
          exact hR1.at he1
        · rw [hm_up_n (fun q => by rw [q, (hR1.1 9 a _ (if_pos hs)).2] at he; cases he), hm_up_n (fun q => by rw [q, (hR1.1 3 0 _ rfl).2] at he; cases he), hm_up_n (fun q => by rw [q, (hR1.1 13 _ _ (l13 d hy)).2] at he; cases he), hm_up_n (fun q => by rw [q, (hR1.1 14 _ _ (l14 d hy)).2] at he; cases he)]
          exact hR1.2.2 b e he
      refine hr_icmp_eq 101 X dX5_fold_74 (by decide) (fun c74 => ?_) (fun c74 => ?_)
      · have hcF : sp_cFold sg a c = true := by
          unfold sp_cFold
          rw [hneed, hd]
          dsimp only
          unfold sp_less sp_fits
          rw [if_pos c74.symm, decide_eq_true (sp_moved_le sg (16 * a + c) (some (16 * a + d)))]
          rfl
        exact J101 hcF
      · refine hr_aload_n X dX5_fold_77 rfl (Or.inr ⟨_, rfl⟩) ?_
        refine hr_aload X dX5_fold_78 rfl (hm_rf _) ?_
        refine hr_get X kF5_113 dX5_fold_80 (hR.c13 hy) rfl ?_
        rw [ogy]
        refine hr_iload X dX5_fold_83 rfl ?_
        refine hr_callV X kC5_116 dX5_fold_85 (c_X5_passesQuota cA hR hI (nI gy) (sp_pass sg (16 * a + c) (some (16 * a + d)) true)) hR.c0 rfl rfl rfl rfl (Nat.le_of_ble_eq_true rfl) ⟨⟨(Nat.le_of_ble_eq_true rfl), (Nat.le_of_ble_eq_true rfl)⟩, (Nat.le_of_ble_eq_true rfl), (Nat.le_of_ble_eq_true rfl)⟩ (fun v M85 hp => ?_)
        obtain ⟨rfl, rfl⟩ := hp
        rw [cr_fits hok hgy]
        refine hr_if_eq 101 X dX5_fold_88 (by decide) (fun c88 => ?_) (fun c88 => ?_)
        · have hcF : sp_cFold sg a c = true := by
            unfold sp_cFold
            rw [hneed, hd]
            dsimp only
            unfold sp_less
            rw [if_neg (fun q => c74 q.symm), Int32.sub_zero, ogy, show nN (nI gy) = gy from nI_clamp (by omega), sb_notF (hm_bI_eq.mp c88)]
            rfl
          exact J101 hcF
        · have hcF : sp_cFold sg a c = false := by
            unfold sp_cFold
            rw [hneed, hd]
            dsimp only
            unfold sp_less
            rw [if_neg (fun q => c74 q.symm), Int32.sub_zero, ogy, show nN (nI gy) = gy from nI_clamp (by omega), sb_notT (hm_bI_ne.mp c88)]
            rfl
          have hno : sp_thFold sg (nI a) (nI c) = 2 := by
            unfold sp_thFold
            rw [hV, en, en2, hcF]
            rfl
          exact hr_throw X XE kT5_37_120_41 dX5_fold_91 dX5_fold_94 dX5_fold_95 dX5_fold_97 dX5_fold_100 rfl ⟨(Nat.le_of_ble_eq_true rfl), (Nat.le_of_ble_eq_true rfl), (Nat.le_of_ble_eq_true rfl), (Nat.le_of_ble_eq_true rfl)⟩ (Nat.le_of_ble_eq_true rfl) (Nat.le_of_ble_eq_true rfl) ⟨Or.inr ⟨hno, rfl⟩, hR⟩
  · have hno : sp_thFold sg (nI a) (nI c) = 2 := by
      unfold sp_thFold sp_cFold
      rw [hV, en, en2, sb_notF (hm_bI_eq.mp c19)]
      rfl
    exact hr_throw X XE kT5_37_98_41 dX5_fold_22 dX5_fold_25 dX5_fold_26 dX5_fold_28 dX5_fold_31 rfl ⟨(Nat.le_of_ble_eq_true rfl), (Nat.le_of_ble_eq_true rfl), (Nat.le_of_ble_eq_true rfl), (Nat.le_of_ble_eq_true rfl)⟩ (Nat.le_of_ble_eq_true rfl) (Nat.le_of_ble_eq_true rfl) ⟨Or.inr ⟨hno, rfl⟩, hR⟩
