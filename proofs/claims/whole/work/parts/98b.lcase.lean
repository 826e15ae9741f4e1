/-! the law: a case a call -/
set_option maxHeartbeats 4000000 in
set_option maxRecDepth 100000 in
theorem w_L_addSheet {C : hm_C} {nm : String} {cA : Nat → ClassId} {k n : Nat} {Q : State → Prop} {M : hm_M} {sc N i b o mo : Nat} {xs : Nat → Int32} {ad : Nat → Nat} {sg : mm_S} {f : Nat → Int64} (X : hm_X C RL cL_law 7 (some .boolean) nm room_1 cA) (S : hm_Scr C sc N xs) (hi : i + 7 ≤ N) (hN : N < 4096) (hk : k + 16 ≤ 601024) (hn : n + 166 ≤ 7293033) (hJ : lw_J cA b o mo ad sg f M) (kk : ∀ (sg9 : mm_S) (f9 : Nat → Int64) (M9 : hm_M), lw_J cA b o mo ad sg9 f9 M9 → hm_W C (k + 16) (n + 166) Q M9 2727 (lw_L sc b mo o i) []) : hm_W C k n Q M 196 (lw_L sc b mo o i) [] := by
  obtain ⟨hI, hJ1, M0, ta, hM, ho, hQ⟩ := hJ
  refine hr_aload_n X (tL_at tL_law_0_ok 25 rfl) rfl (Or.inr ⟨_, rfl⟩) ?_
  refine hr_aload_n X (tL_at tL_law_0_ok 26 rfl) rfl (Or.inr ⟨_, rfl⟩) ?_
  refine hr_callSH X kSL_addSheet (tL_at tL_law_0_ok 27 rfl) (c_L_addSheet cA hI hJ1 hQ ho) rfl rfl rfl (Nat.le_of_ble_eq_true rfl) ⟨⟨(Nat.le_of_ble_eq_true rfl), (Nat.le_of_ble_eq_true rfl)⟩, hk, hn⟩ (fun v M1 hp => ?_)
  obtain ⟨rfl, f1, hf1, hQ1⟩ := hp
  obtain ⟨hM1, ho1⟩ := lw_mm hM ho hQ1
  refine hr_istore X (tL_at tL_law_0_ok 28 rfl) (Nat.le_of_ble_eq_true rfl) ?_
  refine hr_aload_n X (tL_at tL_law_0_ok 29 rfl) rfl (Or.inr ⟨_, rfl⟩) ?_
  refine hr_callV X kCL_133 (tL_at tL_law_0_ok 30 rfl) (c_X6_addSheet cA hM1 hI) hM1.1 rfl rfl rfl rfl (Nat.le_of_ble_eq_true rfl) ⟨⟨(Nat.le_of_ble_eq_true rfl), (Nat.le_of_ble_eq_true rfl)⟩, hk, hn⟩ (fun v M2 hp => ?_)
  obtain ⟨ta2, x, hR2, rfl, hth, hx⟩ := hp
  rw [lw_addE] at hR2
  have hIJ := lw_ij hI hJ1 (lp_addSheet hI hJ1)
  obtain ⟨hJ2, ho2⟩ := lw_ref hIJ.1 hIJ.2 hM ho hQ1 hR2
  refine hr_istore X (tL_at tL_law_0_ok 31 rfl) (Nat.le_of_ble_eq_true rfl) ?_
  show hm_W C _ _ _ _ 209 [some (.ref sc), some (.ref b), some (.ref mo), some (.ref o), some (.int (nI i)), some (.int _), some (.int x)] []
  refine lr_tail X (tL_at tL_law_0_ok 32 rfl) (tL_at tL_law_0_ok 33 rfl) (tL_at tL_law_0_ok 34 rfl) (tL_at tL_law_0_ok 35 rfl) (tL_at tL_law_0_ok 38 rfl) (tL_at tL_law_0_ok 39 rfl) (tL_at tL_law_0_ok 40 rfl) (tL_at tL_law_0_ok 41 rfl) (tL_at tL_law_0_ok 42 rfl) (tL_at tL_law_0_ok 43 rfl) (tL_at tL_law_0_ok 44 rfl) (tL_at tL_law_0_ok 45 rfl) (tL_at tL_law_0_ok 46 rfl) (tL_at tL_law_0_ok 49 rfl) (by decide) hR2 hth ho2 (fun h => (hf1 h).trans (by rw [hx h])) rfl ⟨⟨(Nat.le_of_ble_eq_true rfl), (Nat.le_of_ble_eq_true rfl)⟩, hk, hn⟩ ?_
  exact hr_sub (L2 := lw_L sc b mo o i) (by simp [hm_sub]) (kk _ _ _ hJ2)
set_option maxHeartbeats 4000000 in
set_option maxRecDepth 100000 in
theorem w_L_setNumber {C : hm_C} {nm : String} {cA : Nat → ClassId} {k n : Nat} {Q : State → Prop} {M : hm_M} {sc N i b o mo : Nat} {xs : Nat → Int32} {ad : Nat → Nat} {sg : mm_S} {f : Nat → Int64} (X : hm_X C RL cL_law 7 (some .boolean) nm room_1 cA) (S : hm_Scr C sc N xs) (hi : i + 7 ≤ N) (hN : N < 4096) (hk : k + 16 ≤ 601024) (hn : n + 166 ≤ 7293033) (hJ : lw_J cA b o mo ad sg f M) (kk : ∀ (sg9 : mm_S) (f9 : Nat → Int64) (M9 : hm_M), lw_J cA b o mo ad sg9 f9 M9 → hm_W C (k + 16) (n + 166) Q M9 2727 (lw_L sc b mo o i) []) : hm_W C k n Q M 240 (lw_L sc b mo o i) [] := by
  obtain ⟨hI, hJ1, M0, ta, hM, ho, hQ⟩ := hJ
  refine hr_aload_n X (tL_at tL_law_0_ok 50 rfl) rfl (Or.inr ⟨_, rfl⟩) ?_
  refine lr_arg 1 X S rfl rfl (by decide) (by omega) hN (tL_at tL_law_0_ok 51 rfl) (tL_at tL_law_0_ok 52 rfl) (tL_at tL_law_0_ok 53 rfl) (tL_at tL_law_0_ok 54 rfl) (tL_at tL_law_0_ok 55 rfl) ?_
  refine lr_arg 2 X S rfl rfl (by decide) (by omega) hN (tL_at tL_law_0_ok 56 rfl) (tL_at tL_law_0_ok 57 rfl) (tL_at tL_law_0_ok 58 rfl) (tL_at tL_law_0_ok 59 rfl) (tL_at tL_law_1_ok 0 rfl) ?_
  refine lr_arg 3 X S rfl rfl (by decide) (by omega) hN (tL_at tL_law_1_ok 1 rfl) (tL_at tL_law_1_ok 2 rfl) (tL_at tL_law_1_ok 3 rfl) (tL_at tL_law_1_ok 4 rfl) (tL_at tL_law_1_ok 5 rfl) ?_
  refine lr_arg 4 X S rfl rfl (by decide) (by omega) hN (tL_at tL_law_1_ok 6 rfl) (tL_at tL_law_1_ok 7 rfl) (tL_at tL_law_1_ok 8 rfl) (tL_at tL_law_1_ok 9 rfl) (tL_at tL_law_1_ok 10 rfl) ?_
  refine lr_arg 5 X S rfl rfl (by decide) (by omega) hN (tL_at tL_law_1_ok 11 rfl) (tL_at tL_law_1_ok 12 rfl) (tL_at tL_law_1_ok 13 rfl) (tL_at tL_law_1_ok 14 rfl) (tL_at tL_law_1_ok 15 rfl) ?_
  refine lr_arg6 6 X S rfl rfl (by decide) (by omega) hN (tL_at tL_law_1_ok 16 rfl) (tL_at tL_law_1_ok 17 rfl) (tL_at tL_law_1_ok 18 rfl) (tL_at tL_law_1_ok 19 rfl) (tL_at tL_law_1_ok 20 rfl) ?_
  refine hr_aload_n X (tL_at tL_law_1_ok 21 rfl) rfl (Or.inr ⟨_, rfl⟩) ?_
  refine hr_callSH X kSL_setNumber (tL_at tL_law_1_ok 22 rfl) (c_L_setNumber cA hI hJ1 hQ ho (xs (i + 1)) (xs (i + 2)) (xs (i + 3)) (xs (i + 4)) (xs (i + 5)) (xs (i + 6))) rfl rfl rfl (Nat.le_of_ble_eq_true rfl) ⟨⟨(Nat.le_of_ble_eq_true rfl), (Nat.le_of_ble_eq_true rfl)⟩, hk, hn⟩ (fun v M1 hp => ?_)
  obtain ⟨rfl, f1, hf1, hQ1⟩ := hp
  obtain ⟨hM1, ho1⟩ := lw_mm hM ho hQ1
  refine hr_istore X (tL_at tL_law_1_ok 23 rfl) (Nat.le_of_ble_eq_true rfl) ?_
  refine hr_aload_n X (tL_at tL_law_1_ok 24 rfl) rfl (Or.inr ⟨_, rfl⟩) ?_
  refine lr_arg 1 X S rfl rfl (by decide) (by omega) hN (tL_at tL_law_1_ok 25 rfl) (tL_at tL_law_1_ok 26 rfl) (tL_at tL_law_1_ok 27 rfl) (tL_at tL_law_1_ok 28 rfl) (tL_at tL_law_1_ok 29 rfl) ?_
  refine lr_arg 2 X S rfl rfl (by decide) (by omega) hN (tL_at tL_law_1_ok 30 rfl) (tL_at tL_law_1_ok 31 rfl) (tL_at tL_law_1_ok 32 rfl) (tL_at tL_law_1_ok 33 rfl) (tL_at tL_law_1_ok 34 rfl) ?_
  refine lr_arg 3 X S rfl rfl (by decide) (by omega) hN (tL_at tL_law_1_ok 35 rfl) (tL_at tL_law_1_ok 36 rfl) (tL_at tL_law_1_ok 37 rfl) (tL_at tL_law_1_ok 38 rfl) (tL_at tL_law_1_ok 39 rfl) ?_
  refine lr_arg 4 X S rfl rfl (by decide) (by omega) hN (tL_at tL_law_1_ok 40 rfl) (tL_at tL_law_1_ok 41 rfl) (tL_at tL_law_1_ok 42 rfl) (tL_at tL_law_1_ok 43 rfl) (tL_at tL_law_1_ok 44 rfl) ?_
  refine lr_arg 5 X S rfl rfl (by decide) (by omega) hN (tL_at tL_law_1_ok 45 rfl) (tL_at tL_law_1_ok 46 rfl) (tL_at tL_law_1_ok 47 rfl) (tL_at tL_law_1_ok 48 rfl) (tL_at tL_law_1_ok 49 rfl) ?_
  refine lr_arg6 6 X S rfl rfl (by decide) (by omega) hN (tL_at tL_law_1_ok 50 rfl) (tL_at tL_law_1_ok 51 rfl) (tL_at tL_law_1_ok 52 rfl) (tL_at tL_law_1_ok 53 rfl) (tL_at tL_law_1_ok 54 rfl) ?_
  refine hr_callV X kCL_140 (tL_at tL_law_1_ok 55 rfl) (c_X6_setNumber cA hM1 hI (xs (i + 1)) (xs (i + 2)) (xs (i + 3)) (xs (i + 4)) (xs (i + 5)) (xs (i + 6))) hM1.1 rfl rfl rfl rfl (Nat.le_of_ble_eq_true rfl) ⟨⟨(Nat.le_of_ble_eq_true rfl), (Nat.le_of_ble_eq_true rfl)⟩, hk, hn⟩ (fun v M2 hp => ?_)
  obtain ⟨ta2, x, hR2, rfl, hth, hx⟩ := hp
  have hIJ := lw_ij hI hJ1 (lp_setNumber hI hJ1 (g := xs (i + 1)) (s := xs (i + 2)) (t := xs (i + 3)) (points := xs (i + 4)) (value := xs (i + 5)) (slack := xs (i + 6)))
  obtain ⟨hJ2, ho2⟩ := lw_ref hIJ.1 hIJ.2 hM ho hQ1 hR2
  refine hr_istore X (tL_at tL_law_1_ok 56 rfl) (Nat.le_of_ble_eq_true rfl) ?_
  show hm_W C _ _ _ _ 327 [some (.ref sc), some (.ref b), some (.ref mo), some (.ref o), some (.int (nI i)), some (.int _), some (.int x)] []
  refine lr_tail X (tL_at tL_law_1_ok 57 rfl) (tL_at tL_law_1_ok 58 rfl) (tL_at tL_law_1_ok 59 rfl) (tL_at tL_law_2_ok 0 rfl) (tL_at tL_law_2_ok 3 rfl) (tL_at tL_law_2_ok 4 rfl) (tL_at tL_law_2_ok 5 rfl) (tL_at tL_law_2_ok 6 rfl) (tL_at tL_law_2_ok 7 rfl) (tL_at tL_law_2_ok 8 rfl) (tL_at tL_law_2_ok 9 rfl) (tL_at tL_law_2_ok 10 rfl) (tL_at tL_law_2_ok 11 rfl) (tL_at tL_law_2_ok 14 rfl) (by decide) hR2 hth ho2 (fun h => (hf1 h).trans (by rw [hx h])) rfl ⟨⟨(Nat.le_of_ble_eq_true rfl), (Nat.le_of_ble_eq_true rfl)⟩, hk, hn⟩ ?_
  exact hr_sub (L2 := lw_L sc b mo o i) (by simp [hm_sub]) (kk _ _ _ hJ2)
set_option maxHeartbeats 4000000 in
set_option maxRecDepth 100000 in
theorem w_L_setChoice {C : hm_C} {nm : String} {cA : Nat → ClassId} {k n : Nat} {Q : State → Prop} {M : hm_M} {sc N i b o mo : Nat} {xs : Nat → Int32} {ad : Nat → Nat} {sg : mm_S} {f : Nat → Int64} (X : hm_X C RL cL_law 7 (some .boolean) nm room_1 cA) (S : hm_Scr C sc N xs) (hi : i + 7 ≤ N) (hN : N < 4096) (hk : k + 16 ≤ 601024) (hn : n + 166 ≤ 7293033) (hJ : lw_J cA b o mo ad sg f M) (kk : ∀ (sg9 : mm_S) (f9 : Nat → Int64) (M9 : hm_M), lw_J cA b o mo ad sg9 f9 M9 → hm_W C (k + 16) (n + 166) Q M9 2727 (lw_L sc b mo o i) []) : hm_W C k n Q M 358 (lw_L sc b mo o i) [] := by
  obtain ⟨hI, hJ1, M0, ta, hM, ho, hQ⟩ := hJ
  refine hr_aload_n X (tL_at tL_law_2_ok 15 rfl) rfl (Or.inr ⟨_, rfl⟩) ?_
  refine lr_arg 1 X S rfl rfl (by decide) (by omega) hN (tL_at tL_law_2_ok 16 rfl) (tL_at tL_law_2_ok 17 rfl) (tL_at tL_law_2_ok 18 rfl) (tL_at tL_law_2_ok 19 rfl) (tL_at tL_law_2_ok 20 rfl) ?_
  refine lr_arg 2 X S rfl rfl (by decide) (by omega) hN (tL_at tL_law_2_ok 21 rfl) (tL_at tL_law_2_ok 22 rfl) (tL_at tL_law_2_ok 23 rfl) (tL_at tL_law_2_ok 24 rfl) (tL_at tL_law_2_ok 25 rfl) ?_
  refine lr_arg 3 X S rfl rfl (by decide) (by omega) hN (tL_at tL_law_2_ok 26 rfl) (tL_at tL_law_2_ok 27 rfl) (tL_at tL_law_2_ok 28 rfl) (tL_at tL_law_2_ok 29 rfl) (tL_at tL_law_2_ok 30 rfl) ?_
  refine lr_arg 4 X S rfl rfl (by decide) (by omega) hN (tL_at tL_law_2_ok 31 rfl) (tL_at tL_law_2_ok 32 rfl) (tL_at tL_law_2_ok 33 rfl) (tL_at tL_law_2_ok 34 rfl) (tL_at tL_law_2_ok 35 rfl) ?_
  refine lr_arg 5 X S rfl rfl (by decide) (by omega) hN (tL_at tL_law_2_ok 36 rfl) (tL_at tL_law_2_ok 37 rfl) (tL_at tL_law_2_ok 38 rfl) (tL_at tL_law_2_ok 39 rfl) (tL_at tL_law_2_ok 40 rfl) ?_
  refine hr_aload_n X (tL_at tL_law_2_ok 41 rfl) rfl (Or.inr ⟨_, rfl⟩) ?_
  refine hr_callSH X kSL_setChoice (tL_at tL_law_2_ok 42 rfl) (c_L_setChoice cA hI hJ1 hQ ho (xs (i + 1)) (xs (i + 2)) (xs (i + 3)) (xs (i + 4)) (xs (i + 5))) rfl rfl rfl (Nat.le_of_ble_eq_true rfl) ⟨⟨(Nat.le_of_ble_eq_true rfl), (Nat.le_of_ble_eq_true rfl)⟩, hk, hn⟩ (fun v M1 hp => ?_)
  obtain ⟨rfl, f1, hf1, hQ1⟩ := hp
  obtain ⟨hM1, ho1⟩ := lw_mm hM ho hQ1
  refine hr_istore X (tL_at tL_law_2_ok 43 rfl) (Nat.le_of_ble_eq_true rfl) ?_
  refine hr_aload_n X (tL_at tL_law_2_ok 44 rfl) rfl (Or.inr ⟨_, rfl⟩) ?_
  refine lr_arg 1 X S rfl rfl (by decide) (by omega) hN (tL_at tL_law_2_ok 45 rfl) (tL_at tL_law_2_ok 46 rfl) (tL_at tL_law_2_ok 47 rfl) (tL_at tL_law_2_ok 48 rfl) (tL_at tL_law_2_ok 49 rfl) ?_
  refine lr_arg 2 X S rfl rfl (by decide) (by omega) hN (tL_at tL_law_2_ok 50 rfl) (tL_at tL_law_2_ok 51 rfl) (tL_at tL_law_2_ok 52 rfl) (tL_at tL_law_2_ok 53 rfl) (tL_at tL_law_2_ok 54 rfl) ?_
  refine lr_arg 3 X S rfl rfl (by decide) (by omega) hN (tL_at tL_law_2_ok 55 rfl) (tL_at tL_law_2_ok 56 rfl) (tL_at tL_law_2_ok 57 rfl) (tL_at tL_law_2_ok 58 rfl) (tL_at tL_law_2_ok 59 rfl) ?_
  refine lr_arg 4 X S rfl rfl (by decide) (by omega) hN (tL_at tL_law_3_ok 0 rfl) (tL_at tL_law_3_ok 1 rfl) (tL_at tL_law_3_ok 2 rfl) (tL_at tL_law_3_ok 3 rfl) (tL_at tL_law_3_ok 4 rfl) ?_
  refine lr_arg 5 X S rfl rfl (by decide) (by omega) hN (tL_at tL_law_3_ok 5 rfl) (tL_at tL_law_3_ok 6 rfl) (tL_at tL_law_3_ok 7 rfl) (tL_at tL_law_3_ok 8 rfl) (tL_at tL_law_3_ok 9 rfl) ?_
  refine hr_callV X kCL_144 (tL_at tL_law_3_ok 10 rfl) (c_X6_setChoice cA hM1 hI (xs (i + 1)) (xs (i + 2)) (xs (i + 3)) (xs (i + 4)) (xs (i + 5))) hM1.1 rfl rfl rfl rfl (Nat.le_of_ble_eq_true rfl) ⟨⟨(Nat.le_of_ble_eq_true rfl), (Nat.le_of_ble_eq_true rfl)⟩, hk, hn⟩ (fun v M2 hp => ?_)
  obtain ⟨ta2, x, hR2, rfl, hth, hx⟩ := hp
  have hIJ := lw_ij hI hJ1 (lp_setChoice hI hJ1 (g := xs (i + 1)) (s := xs (i + 2)) (t := xs (i + 3)) (points := xs (i + 4)) (signs := xs (i + 5)))
  obtain ⟨hJ2, ho2⟩ := lw_ref hIJ.1 hIJ.2 hM ho hQ1 hR2
  refine hr_istore X (tL_at tL_law_3_ok 11 rfl) (Nat.le_of_ble_eq_true rfl) ?_
  show hm_W C _ _ _ _ 431 [some (.ref sc), some (.ref b), some (.ref mo), some (.ref o), some (.int (nI i)), some (.int _), some (.int x)] []
  refine lr_tail X (tL_at tL_law_3_ok 12 rfl) (tL_at tL_law_3_ok 13 rfl) (tL_at tL_law_3_ok 14 rfl) (tL_at tL_law_3_ok 15 rfl) (tL_at tL_law_3_ok 18 rfl) (tL_at tL_law_3_ok 19 rfl) (tL_at tL_law_3_ok 20 rfl) (tL_at tL_law_3_ok 21 rfl) (tL_at tL_law_3_ok 22 rfl) (tL_at tL_law_3_ok 23 rfl) (tL_at tL_law_3_ok 24 rfl) (tL_at tL_law_3_ok 25 rfl) (tL_at tL_law_3_ok 26 rfl) (tL_at tL_law_3_ok 29 rfl) (by decide) hR2 hth ho2 (fun h => (hf1 h).trans (by rw [hx h])) rfl ⟨⟨(Nat.le_of_ble_eq_true rfl), (Nat.le_of_ble_eq_true rfl)⟩, hk, hn⟩ ?_
  exact hr_sub (L2 := lw_L sc b mo o i) (by simp [hm_sub]) (kk _ _ _ hJ2)
set_option maxHeartbeats 4000000 in
set_option maxRecDepth 100000 in
theorem w_L_setWords {C : hm_C} {nm : String} {cA : Nat → ClassId} {k n : Nat} {Q : State → Prop} {M : hm_M} {sc N i b o mo : Nat} {xs : Nat → Int32} {ad : Nat → Nat} {sg : mm_S} {f : Nat → Int64} (X : hm_X C RL cL_law 7 (some .boolean) nm room_1 cA) (S : hm_Scr C sc N xs) (hi : i + 7 ≤ N) (hN : N < 4096) (hk : k + 16 ≤ 601024) (hn : n + 166 ≤ 7293033) (hJ : lw_J cA b o mo ad sg f M) (kk : ∀ (sg9 : mm_S) (f9 : Nat → Int64) (M9 : hm_M), lw_J cA b o mo ad sg9 f9 M9 → hm_W C (k + 16) (n + 166) Q M9 2727 (lw_L sc b mo o i) []) : hm_W C k n Q M 462 (lw_L sc b mo o i) [] := by
  obtain ⟨hI, hJ1, M0, ta, hM, ho, hQ⟩ := hJ
  refine hr_aload_n X (tL_at tL_law_3_ok 30 rfl) rfl (Or.inr ⟨_, rfl⟩) ?_
  refine lr_arg 1 X S rfl rfl (by decide) (by omega) hN (tL_at tL_law_3_ok 31 rfl) (tL_at tL_law_3_ok 32 rfl) (tL_at tL_law_3_ok 33 rfl) (tL_at tL_law_3_ok 34 rfl) (tL_at tL_law_3_ok 35 rfl) ?_
  refine lr_arg 2 X S rfl rfl (by decide) (by omega) hN (tL_at tL_law_3_ok 36 rfl) (tL_at tL_law_3_ok 37 rfl) (tL_at tL_law_3_ok 38 rfl) (tL_at tL_law_3_ok 39 rfl) (tL_at tL_law_3_ok 40 rfl) ?_
  refine lr_arg 3 X S rfl rfl (by decide) (by omega) hN (tL_at tL_law_3_ok 41 rfl) (tL_at tL_law_3_ok 42 rfl) (tL_at tL_law_3_ok 43 rfl) (tL_at tL_law_3_ok 44 rfl) (tL_at tL_law_3_ok 45 rfl) ?_
  refine lr_arg 4 X S rfl rfl (by decide) (by omega) hN (tL_at tL_law_3_ok 46 rfl) (tL_at tL_law_3_ok 47 rfl) (tL_at tL_law_3_ok 48 rfl) (tL_at tL_law_3_ok 49 rfl) (tL_at tL_law_3_ok 50 rfl) ?_
  refine lr_arg 5 X S rfl rfl (by decide) (by omega) hN (tL_at tL_law_3_ok 51 rfl) (tL_at tL_law_3_ok 52 rfl) (tL_at tL_law_3_ok 53 rfl) (tL_at tL_law_3_ok 54 rfl) (tL_at tL_law_3_ok 55 rfl) ?_
  refine hr_aload_n X (tL_at tL_law_3_ok 56 rfl) rfl (Or.inr ⟨_, rfl⟩) ?_
  refine hr_callSH X kSL_setWords (tL_at tL_law_3_ok 57 rfl) (c_L_setWords cA hI hJ1 hQ ho (xs (i + 1)) (xs (i + 2)) (xs (i + 3)) (xs (i + 4)) (xs (i + 5))) rfl rfl rfl (Nat.le_of_ble_eq_true rfl) ⟨⟨(Nat.le_of_ble_eq_true rfl), (Nat.le_of_ble_eq_true rfl)⟩, hk, hn⟩ (fun v M1 hp => ?_)
  obtain ⟨rfl, f1, hf1, hQ1⟩ := hp
  obtain ⟨hM1, ho1⟩ := lw_mm hM ho hQ1
  refine hr_istore X (tL_at tL_law_3_ok 58 rfl) (Nat.le_of_ble_eq_true rfl) ?_
  refine hr_aload_n X (tL_at tL_law_3_ok 59 rfl) rfl (Or.inr ⟨_, rfl⟩) ?_
  refine lr_arg 1 X S rfl rfl (by decide) (by omega) hN (tL_at tL_law_4_ok 0 rfl) (tL_at tL_law_4_ok 1 rfl) (tL_at tL_law_4_ok 2 rfl) (tL_at tL_law_4_ok 3 rfl) (tL_at tL_law_4_ok 4 rfl) ?_
  refine lr_arg 2 X S rfl rfl (by decide) (by omega) hN (tL_at tL_law_4_ok 5 rfl) (tL_at tL_law_4_ok 6 rfl) (tL_at tL_law_4_ok 7 rfl) (tL_at tL_law_4_ok 8 rfl) (tL_at tL_law_4_ok 9 rfl) ?_
  refine lr_arg 3 X S rfl rfl (by decide) (by omega) hN (tL_at tL_law_4_ok 10 rfl) (tL_at tL_law_4_ok 11 rfl) (tL_at tL_law_4_ok 12 rfl) (tL_at tL_law_4_ok 13 rfl) (tL_at tL_law_4_ok 14 rfl) ?_
  refine lr_arg 4 X S rfl rfl (by decide) (by omega) hN (tL_at tL_law_4_ok 15 rfl) (tL_at tL_law_4_ok 16 rfl) (tL_at tL_law_4_ok 17 rfl) (tL_at tL_law_4_ok 18 rfl) (tL_at tL_law_4_ok 19 rfl) ?_
  refine lr_arg 5 X S rfl rfl (by decide) (by omega) hN (tL_at tL_law_4_ok 20 rfl) (tL_at tL_law_4_ok 21 rfl) (tL_at tL_law_4_ok 22 rfl) (tL_at tL_law_4_ok 23 rfl) (tL_at tL_law_4_ok 24 rfl) ?_
  refine hr_callV X kCL_147 (tL_at tL_law_4_ok 25 rfl) (c_X6_setWords cA hM1 hI (xs (i + 1)) (xs (i + 2)) (xs (i + 3)) (xs (i + 4)) (xs (i + 5))) hM1.1 rfl rfl rfl rfl (Nat.le_of_ble_eq_true rfl) ⟨⟨(Nat.le_of_ble_eq_true rfl), (Nat.le_of_ble_eq_true rfl)⟩, hk, hn⟩ (fun v M2 hp => ?_)
  obtain ⟨ta2, x, hR2, rfl, hth, hx⟩ := hp
  have hIJ := lw_ij hI hJ1 (lp_setWords hI hJ1 (g := xs (i + 1)) (s := xs (i + 2)) (t := xs (i + 3)) (points := xs (i + 4)) (words := xs (i + 5)))
  obtain ⟨hJ2, ho2⟩ := lw_ref hIJ.1 hIJ.2 hM ho hQ1 hR2
  refine hr_istore X (tL_at tL_law_4_ok 26 rfl) (Nat.le_of_ble_eq_true rfl) ?_
  show hm_W C _ _ _ _ 535 [some (.ref sc), some (.ref b), some (.ref mo), some (.ref o), some (.int (nI i)), some (.int _), some (.int x)] []
  refine lr_tail X (tL_at tL_law_4_ok 27 rfl) (tL_at tL_law_4_ok 28 rfl) (tL_at tL_law_4_ok 29 rfl) (tL_at tL_law_4_ok 30 rfl) (tL_at tL_law_4_ok 33 rfl) (tL_at tL_law_4_ok 34 rfl) (tL_at tL_law_4_ok 35 rfl) (tL_at tL_law_4_ok 36 rfl) (tL_at tL_law_4_ok 37 rfl) (tL_at tL_law_4_ok 38 rfl) (tL_at tL_law_4_ok 39 rfl) (tL_at tL_law_4_ok 40 rfl) (tL_at tL_law_4_ok 41 rfl) (tL_at tL_law_4_ok 44 rfl) (by decide) hR2 hth ho2 (fun h => (hf1 h).trans (by rw [hx h])) rfl ⟨⟨(Nat.le_of_ble_eq_true rfl), (Nat.le_of_ble_eq_true rfl)⟩, hk, hn⟩ ?_
  exact hr_sub (L2 := lw_L sc b mo o i) (by simp [hm_sub]) (kk _ _ _ hJ2)
set_option maxHeartbeats 4000000 in
set_option maxRecDepth 100000 in
theorem w_L_drop {C : hm_C} {nm : String} {cA : Nat → ClassId} {k n : Nat} {Q : State → Prop} {M : hm_M} {sc N i b o mo : Nat} {xs : Nat → Int32} {ad : Nat → Nat} {sg : mm_S} {f : Nat → Int64} (X : hm_X C RL cL_law 7 (some .boolean) nm room_1 cA) (S : hm_Scr C sc N xs) (hi : i + 7 ≤ N) (hN : N < 4096) (hk : k + 16 ≤ 601024) (hn : n + 166 ≤ 7293033) (hJ : lw_J cA b o mo ad sg f M) (kk : ∀ (sg9 : mm_S) (f9 : Nat → Int64) (M9 : hm_M), lw_J cA b o mo ad sg9 f9 M9 → hm_W C (k + 16) (n + 166) Q M9 2727 (lw_L sc b mo o i) []) : hm_W C k n Q M 566 (lw_L sc b mo o i) [] := by
  obtain ⟨hI, hJ1, M0, ta, hM, ho, hQ⟩ := hJ
  refine hr_aload_n X (tL_at tL_law_4_ok 45 rfl) rfl (Or.inr ⟨_, rfl⟩) ?_
  refine lr_arg 1 X S rfl rfl (by decide) (by omega) hN (tL_at tL_law_4_ok 46 rfl) (tL_at tL_law_4_ok 47 rfl) (tL_at tL_law_4_ok 48 rfl) (tL_at tL_law_4_ok 49 rfl) (tL_at tL_law_4_ok 50 rfl) ?_
  refine lr_arg 2 X S rfl rfl (by decide) (by omega) hN (tL_at tL_law_4_ok 51 rfl) (tL_at tL_law_4_ok 52 rfl) (tL_at tL_law_4_ok 53 rfl) (tL_at tL_law_4_ok 54 rfl) (tL_at tL_law_4_ok 55 rfl) ?_
  refine lr_arg 3 X S rfl rfl (by decide) (by omega) hN (tL_at tL_law_4_ok 56 rfl) (tL_at tL_law_4_ok 57 rfl) (tL_at tL_law_4_ok 58 rfl) (tL_at tL_law_4_ok 59 rfl) (tL_at tL_law_5_ok 0 rfl) ?_
  refine hr_aload_n X (tL_at tL_law_5_ok 1 rfl) rfl (Or.inr ⟨_, rfl⟩) ?_
  refine hr_callSH X kSL_drop (tL_at tL_law_5_ok 2 rfl) (c_L_drop cA hI hJ1 hQ ho (xs (i + 1)) (xs (i + 2)) (xs (i + 3))) rfl rfl rfl (Nat.le_of_ble_eq_true rfl) ⟨⟨(Nat.le_of_ble_eq_true rfl), (Nat.le_of_ble_eq_true rfl)⟩, hk, hn⟩ (fun v M1 hp => ?_)
  obtain ⟨rfl, f1, hf1, hQ1⟩ := hp
  obtain ⟨hM1, ho1⟩ := lw_mm hM ho hQ1
  refine hr_istore X (tL_at tL_law_5_ok 3 rfl) (Nat.le_of_ble_eq_true rfl) ?_
  refine hr_aload_n X (tL_at tL_law_5_ok 4 rfl) rfl (Or.inr ⟨_, rfl⟩) ?_
  refine lr_arg 1 X S rfl rfl (by decide) (by omega) hN (tL_at tL_law_5_ok 5 rfl) (tL_at tL_law_5_ok 6 rfl) (tL_at tL_law_5_ok 7 rfl) (tL_at tL_law_5_ok 8 rfl) (tL_at tL_law_5_ok 9 rfl) ?_
  refine lr_arg 2 X S rfl rfl (by decide) (by omega) hN (tL_at tL_law_5_ok 10 rfl) (tL_at tL_law_5_ok 11 rfl) (tL_at tL_law_5_ok 12 rfl) (tL_at tL_law_5_ok 13 rfl) (tL_at tL_law_5_ok 14 rfl) ?_
  refine lr_arg 3 X S rfl rfl (by decide) (by omega) hN (tL_at tL_law_5_ok 15 rfl) (tL_at tL_law_5_ok 16 rfl) (tL_at tL_law_5_ok 17 rfl) (tL_at tL_law_5_ok 18 rfl) (tL_at tL_law_5_ok 19 rfl) ?_
  refine hr_callV X kCL_151 (tL_at tL_law_5_ok 20 rfl) (c_X6_drop cA hM1 hI (xs (i + 1)) (xs (i + 2)) (xs (i + 3))) hM1.1 rfl rfl rfl rfl (Nat.le_of_ble_eq_true rfl) ⟨⟨(Nat.le_of_ble_eq_true rfl), (Nat.le_of_ble_eq_true rfl)⟩, hk, hn⟩ (fun v M2 hp => ?_)
  obtain ⟨ta2, x, hR2, rfl, hth, hx⟩ := hp
  have hIJ := lw_ij hI hJ1 (lp_drop hI hJ1 (g := xs (i + 1)) (s := xs (i + 2)) (t := xs (i + 3)))
  obtain ⟨hJ2, ho2⟩ := lw_ref hIJ.1 hIJ.2 hM ho hQ1 hR2
  refine hr_istore X (tL_at tL_law_5_ok 21 rfl) (Nat.le_of_ble_eq_true rfl) ?_
  show hm_W C _ _ _ _ 615 [some (.ref sc), some (.ref b), some (.ref mo), some (.ref o), some (.int (nI i)), some (.int _), some (.int x)] []
  refine lr_tail X (tL_at tL_law_5_ok 22 rfl) (tL_at tL_law_5_ok 23 rfl) (tL_at tL_law_5_ok 24 rfl) (tL_at tL_law_5_ok 25 rfl) (tL_at tL_law_5_ok 28 rfl) (tL_at tL_law_5_ok 29 rfl) (tL_at tL_law_5_ok 30 rfl) (tL_at tL_law_5_ok 31 rfl) (tL_at tL_law_5_ok 32 rfl) (tL_at tL_law_5_ok 33 rfl) (tL_at tL_law_5_ok 34 rfl) (tL_at tL_law_5_ok 35 rfl) (tL_at tL_law_5_ok 36 rfl) (tL_at tL_law_5_ok 39 rfl) (by decide) hR2 hth ho2 (fun h => (hf1 h).trans (by rw [hx h])) rfl ⟨⟨(Nat.le_of_ble_eq_true rfl), (Nat.le_of_ble_eq_true rfl)⟩, hk, hn⟩ ?_
  exact hr_sub (L2 := lw_L sc b mo o i) (by simp [hm_sub]) (kk _ _ _ hJ2)
set_option maxHeartbeats 4000000 in
set_option maxRecDepth 100000 in
theorem w_L_adopt {C : hm_C} {nm : String} {cA : Nat → ClassId} {k n : Nat} {Q : State → Prop} {M : hm_M} {sc N i b o mo : Nat} {xs : Nat → Int32} {ad : Nat → Nat} {sg : mm_S} {f : Nat → Int64} (X : hm_X C RL cL_law 7 (some .boolean) nm room_1 cA) (S : hm_Scr C sc N xs) (hi : i + 7 ≤ N) (hN : N < 4096) (hk : k + 16 ≤ 601024) (hn : n + 166 ≤ 7293033) (hJ : lw_J cA b o mo ad sg f M) (kk : ∀ (sg9 : mm_S) (f9 : Nat → Int64) (M9 : hm_M), lw_J cA b o mo ad sg9 f9 M9 → hm_W C (k + 16) (n + 166) Q M9 2727 (lw_L sc b mo o i) []) : hm_W C k n Q M 646 (lw_L sc b mo o i) [] := by
  obtain ⟨hI, hJ1, M0, ta, hM, ho, hQ⟩ := hJ
  refine hr_aload_n X (tL_at tL_law_5_ok 40 rfl) rfl (Or.inr ⟨_, rfl⟩) ?_
  refine lr_arg 1 X S rfl rfl (by decide) (by omega) hN (tL_at tL_law_5_ok 41 rfl) (tL_at tL_law_5_ok 42 rfl) (tL_at tL_law_5_ok 43 rfl) (tL_at tL_law_5_ok 44 rfl) (tL_at tL_law_5_ok 45 rfl) ?_
  refine lr_arg 2 X S rfl rfl (by decide) (by omega) hN (tL_at tL_law_5_ok 46 rfl) (tL_at tL_law_5_ok 47 rfl) (tL_at tL_law_5_ok 48 rfl) (tL_at tL_law_5_ok 49 rfl) (tL_at tL_law_5_ok 50 rfl) ?_
  refine lr_arg 3 X S rfl rfl (by decide) (by omega) hN (tL_at tL_law_5_ok 51 rfl) (tL_at tL_law_5_ok 52 rfl) (tL_at tL_law_5_ok 53 rfl) (tL_at tL_law_5_ok 54 rfl) (tL_at tL_law_5_ok 55 rfl) ?_
  refine hr_aload_n X (tL_at tL_law_5_ok 56 rfl) rfl (Or.inr ⟨_, rfl⟩) ?_
  refine hr_callSH X kSL_adopt (tL_at tL_law_5_ok 57 rfl) (c_L_adopt cA hI hJ1 hQ ho (xs (i + 1)) (xs (i + 2)) (xs (i + 3))) rfl rfl rfl (Nat.le_of_ble_eq_true rfl) ⟨⟨(Nat.le_of_ble_eq_true rfl), (Nat.le_of_ble_eq_true rfl)⟩, hk, hn⟩ (fun v M1 hp => ?_)
  obtain ⟨rfl, f1, hf1, hQ1⟩ := hp
  obtain ⟨hM1, ho1⟩ := lw_mm hM ho hQ1
  refine hr_istore X (tL_at tL_law_5_ok 58 rfl) (Nat.le_of_ble_eq_true rfl) ?_
  refine hr_aload_n X (tL_at tL_law_5_ok 59 rfl) rfl (Or.inr ⟨_, rfl⟩) ?_
  refine lr_arg 1 X S rfl rfl (by decide) (by omega) hN (tL_at tL_law_6_ok 0 rfl) (tL_at tL_law_6_ok 1 rfl) (tL_at tL_law_6_ok 2 rfl) (tL_at tL_law_6_ok 3 rfl) (tL_at tL_law_6_ok 4 rfl) ?_
  refine lr_arg 2 X S rfl rfl (by decide) (by omega) hN (tL_at tL_law_6_ok 5 rfl) (tL_at tL_law_6_ok 6 rfl) (tL_at tL_law_6_ok 7 rfl) (tL_at tL_law_6_ok 8 rfl) (tL_at tL_law_6_ok 9 rfl) ?_
  refine lr_arg 3 X S rfl rfl (by decide) (by omega) hN (tL_at tL_law_6_ok 10 rfl) (tL_at tL_law_6_ok 11 rfl) (tL_at tL_law_6_ok 12 rfl) (tL_at tL_law_6_ok 13 rfl) (tL_at tL_law_6_ok 14 rfl) ?_
  refine hr_callV X kCL_154 (tL_at tL_law_6_ok 15 rfl) (c_X6_adopt cA hM1 hI (xs (i + 1)) (xs (i + 2)) (xs (i + 3))) hM1.1 rfl rfl rfl rfl (Nat.le_of_ble_eq_true rfl) ⟨⟨(Nat.le_of_ble_eq_true rfl), (Nat.le_of_ble_eq_true rfl)⟩, hk, hn⟩ (fun v M2 hp => ?_)
  obtain ⟨ta2, x, hR2, rfl, hth, hx⟩ := hp
  have hIJ := lw_ij hI hJ1 (lp_adopt hI hJ1 (g := xs (i + 1)) (s := xs (i + 2)) (v := xs (i + 3)))
  obtain ⟨hJ2, ho2⟩ := lw_ref hIJ.1 hIJ.2 hM ho hQ1 hR2
  refine hr_istore X (tL_at tL_law_6_ok 16 rfl) (Nat.le_of_ble_eq_true rfl) ?_
  show hm_W C _ _ _ _ 695 [some (.ref sc), some (.ref b), some (.ref mo), some (.ref o), some (.int (nI i)), some (.int _), some (.int x)] []
  refine lr_tail X (tL_at tL_law_6_ok 17 rfl) (tL_at tL_law_6_ok 18 rfl) (tL_at tL_law_6_ok 19 rfl) (tL_at tL_law_6_ok 20 rfl) (tL_at tL_law_6_ok 23 rfl) (tL_at tL_law_6_ok 24 rfl) (tL_at tL_law_6_ok 25 rfl) (tL_at tL_law_6_ok 26 rfl) (tL_at tL_law_6_ok 27 rfl) (tL_at tL_law_6_ok 28 rfl) (tL_at tL_law_6_ok 29 rfl) (tL_at tL_law_6_ok 30 rfl) (tL_at tL_law_6_ok 31 rfl) (tL_at tL_law_6_ok 34 rfl) (by decide) hR2 hth ho2 (fun h => (hf1 h).trans (by rw [hx h])) rfl ⟨⟨(Nat.le_of_ble_eq_true rfl), (Nat.le_of_ble_eq_true rfl)⟩, hk, hn⟩ ?_
  exact hr_sub (L2 := lw_L sc b mo o i) (by simp [hm_sub]) (kk _ _ _ hJ2)
set_option maxHeartbeats 4000000 in
set_option maxRecDepth 100000 in
theorem w_L_fold {C : hm_C} {nm : String} {cA : Nat → ClassId} {k n : Nat} {Q : State → Prop} {M : hm_M} {sc N i b o mo : Nat} {xs : Nat → Int32} {ad : Nat → Nat} {sg : mm_S} {f : Nat → Int64} (X : hm_X C RL cL_law 7 (some .boolean) nm room_1 cA) (S : hm_Scr C sc N xs) (hi : i + 7 ≤ N) (hN : N < 4096) (hk : k + 16 ≤ 601024) (hn : n + 166 ≤ 7293033) (hJ : lw_J cA b o mo ad sg f M) (kk : ∀ (sg9 : mm_S) (f9 : Nat → Int64) (M9 : hm_M), lw_J cA b o mo ad sg9 f9 M9 → hm_W C (k + 16) (n + 166) Q M9 2727 (lw_L sc b mo o i) []) : hm_W C k n Q M 726 (lw_L sc b mo o i) [] := by
  obtain ⟨hI, hJ1, M0, ta, hM, ho, hQ⟩ := hJ
  refine hr_aload_n X (tL_at tL_law_6_ok 35 rfl) rfl (Or.inr ⟨_, rfl⟩) ?_
  refine lr_arg 1 X S rfl rfl (by decide) (by omega) hN (tL_at tL_law_6_ok 36 rfl) (tL_at tL_law_6_ok 37 rfl) (tL_at tL_law_6_ok 38 rfl) (tL_at tL_law_6_ok 39 rfl) (tL_at tL_law_6_ok 40 rfl) ?_
  refine lr_arg 2 X S rfl rfl (by decide) (by omega) hN (tL_at tL_law_6_ok 41 rfl) (tL_at tL_law_6_ok 42 rfl) (tL_at tL_law_6_ok 43 rfl) (tL_at tL_law_6_ok 44 rfl) (tL_at tL_law_6_ok 45 rfl) ?_
  refine hr_aload_n X (tL_at tL_law_6_ok 46 rfl) rfl (Or.inr ⟨_, rfl⟩) ?_
  refine hr_callSH X kSL_fold (tL_at tL_law_6_ok 47 rfl) (c_L_fold cA hI hJ1 hQ ho (xs (i + 1)) (xs (i + 2))) rfl rfl rfl (Nat.le_of_ble_eq_true rfl) ⟨⟨(Nat.le_of_ble_eq_true rfl), (Nat.le_of_ble_eq_true rfl)⟩, hk, hn⟩ (fun v M1 hp => ?_)
  obtain ⟨rfl, f1, hf1, hQ1⟩ := hp
  obtain ⟨hM1, ho1⟩ := lw_mm hM ho hQ1
  refine hr_istore X (tL_at tL_law_6_ok 48 rfl) (Nat.le_of_ble_eq_true rfl) ?_
  refine hr_aload_n X (tL_at tL_law_6_ok 49 rfl) rfl (Or.inr ⟨_, rfl⟩) ?_
  refine lr_arg 1 X S rfl rfl (by decide) (by omega) hN (tL_at tL_law_6_ok 50 rfl) (tL_at tL_law_6_ok 51 rfl) (tL_at tL_law_6_ok 52 rfl) (tL_at tL_law_6_ok 53 rfl) (tL_at tL_law_6_ok 54 rfl) ?_
  refine lr_arg 2 X S rfl rfl (by decide) (by omega) hN (tL_at tL_law_6_ok 55 rfl) (tL_at tL_law_6_ok 56 rfl) (tL_at tL_law_6_ok 57 rfl) (tL_at tL_law_6_ok 58 rfl) (tL_at tL_law_6_ok 59 rfl) ?_
  refine hr_callV X kCL_158 (tL_at tL_law_7_ok 0 rfl) (c_X6_fold cA hM1 hI (xs (i + 1)) (xs (i + 2))) hM1.1 rfl rfl rfl rfl (Nat.le_of_ble_eq_true rfl) ⟨⟨(Nat.le_of_ble_eq_true rfl), (Nat.le_of_ble_eq_true rfl)⟩, hk, hn⟩ (fun v M2 hp => ?_)
  obtain ⟨ta2, x, hR2, rfl, hth, hx⟩ := hp
  have hIJ := lw_ij hI hJ1 (lp_fold hI hJ1 (s := xs (i + 1)) (v := xs (i + 2)))
  obtain ⟨hJ2, ho2⟩ := lw_ref hIJ.1 hIJ.2 hM ho hQ1 hR2
  refine hr_istore X (tL_at tL_law_7_ok 1 rfl) (Nat.le_of_ble_eq_true rfl) ?_
  show hm_W C _ _ _ _ 763 [some (.ref sc), some (.ref b), some (.ref mo), some (.ref o), some (.int (nI i)), some (.int _), some (.int x)] []
  refine lr_tail X (tL_at tL_law_7_ok 2 rfl) (tL_at tL_law_7_ok 3 rfl) (tL_at tL_law_7_ok 4 rfl) (tL_at tL_law_7_ok 5 rfl) (tL_at tL_law_7_ok 8 rfl) (tL_at tL_law_7_ok 9 rfl) (tL_at tL_law_7_ok 10 rfl) (tL_at tL_law_7_ok 11 rfl) (tL_at tL_law_7_ok 12 rfl) (tL_at tL_law_7_ok 13 rfl) (tL_at tL_law_7_ok 14 rfl) (tL_at tL_law_7_ok 15 rfl) (tL_at tL_law_7_ok 16 rfl) (tL_at tL_law_7_ok 19 rfl) (by decide) hR2 hth ho2 (fun h => (hf1 h).trans (by rw [hx h])) rfl ⟨⟨(Nat.le_of_ble_eq_true rfl), (Nat.le_of_ble_eq_true rfl)⟩, hk, hn⟩ ?_
  exact hr_sub (L2 := lw_L sc b mo o i) (by simp [hm_sub]) (kk _ _ _ hJ2)
set_option maxHeartbeats 4000000 in
set_option maxRecDepth 100000 in
theorem w_L_sheets {C : hm_C} {nm : String} {cA : Nat → ClassId} {k n : Nat} {Q : State → Prop} {M : hm_M} {sc N i b o mo : Nat} {xs : Nat → Int32} {ad : Nat → Nat} {sg : mm_S} {f : Nat → Int64} (X : hm_X C RL cL_law 7 (some .boolean) nm room_1 cA) (S : hm_Scr C sc N xs) (hi : i + 7 ≤ N) (hN : N < 4096) (hk : k + 16 ≤ 601024) (hn : n + 166 ≤ 7293033) (hJ : lw_J cA b o mo ad sg f M) (kk : ∀ (sg9 : mm_S) (f9 : Nat → Int64) (M9 : hm_M), lw_J cA b o mo ad sg9 f9 M9 → hm_W C (k + 16) (n + 166) Q M9 2727 (lw_L sc b mo o i) []) : hm_W C k n Q M 794 (lw_L sc b mo o i) [] := by
  obtain ⟨hI, hJ1, M0, ta, hM, ho, hQ⟩ := hJ
  have hQ9 : ls_Q cA (hm_up M0 o (lw_o cA f)) b sg M := by rw [hm_up_id ho]; exact hQ
  obtain ⟨hM1, ho1⟩ := lw_mm hM ho hQ9
  obtain ⟨ta5, ad5, hR5, hok5, rfl⟩ := id hQ
  refine hr_aload_n X (tL_at tL_law_7_ok 20 rfl) rfl (Or.inr ⟨_, rfl⟩) ?_
  refine hr_callV X kCL_159 (tL_at tL_law_7_ok 21 rfl) (c_X5_sheets cA hR5 hI) hR5.c0 rfl rfl rfl rfl (Nat.le_of_ble_eq_true rfl) ⟨⟨(Nat.le_of_ble_eq_true rfl), (Nat.le_of_ble_eq_true rfl)⟩, Nat.le_trans (Nat.add_le_add_left (Nat.le_of_ble_eq_true rfl) k) hk, Nat.le_trans (Nat.add_le_add_left (Nat.le_of_ble_eq_true rfl) n) hn⟩ (fun v M1 hp => ?_)
  obtain ⟨rfl, rfl⟩ := hp
  refine hr_aload_n X (tL_at tL_law_7_ok 22 rfl) rfl (Or.inr ⟨_, rfl⟩) ?_
  refine hr_callV X kCL_162 (tL_at tL_law_7_ok 23 rfl) (c_X6_sheets cA hM1) hM1.1 rfl rfl rfl rfl (Nat.le_of_ble_eq_true rfl) ⟨⟨(Nat.le_of_ble_eq_true rfl), (Nat.le_of_ble_eq_true rfl)⟩, Nat.le_trans (Nat.add_le_add_left (Nat.le_of_ble_eq_true rfl) k) hk, Nat.le_trans (Nat.add_le_add_left (Nat.le_of_ble_eq_true rfl) n) hn⟩ (fun v M2 hp => ?_)
  obtain ⟨ta2, x, hR2, rfl, hth, hx⟩ := hp
  obtain ⟨hJ2, ho2⟩ := lw_ref hI hJ1 hM ho hQ9 hR2
  refine hr_icmp_eq 2727 X (tL_at tL_law_7_ok 24 rfl) (by decide) (fun _ => ?_) (fun c => absurd (hx rfl).symm c)
  exact hr_widen (Nat.le_add_right k 16) (Nat.le_add_right n 166) (kk _ _ _ hJ2)
set_option maxHeartbeats 4000000 in
set_option maxRecDepth 100000 in
theorem w_L_versions {C : hm_C} {nm : String} {cA : Nat → ClassId} {k n : Nat} {Q : State → Prop} {M : hm_M} {sc N i b o mo : Nat} {xs : Nat → Int32} {ad : Nat → Nat} {sg : mm_S} {f : Nat → Int64} (X : hm_X C RL cL_law 7 (some .boolean) nm room_1 cA) (S : hm_Scr C sc N xs) (hi : i + 7 ≤ N) (hN : N < 4096) (hk : k + 16 ≤ 601024) (hn : n + 166 ≤ 7293033) (hJ : lw_J cA b o mo ad sg f M) (kk : ∀ (sg9 : mm_S) (f9 : Nat → Int64) (M9 : hm_M), lw_J cA b o mo ad sg9 f9 M9 → hm_W C (k + 16) (n + 166) Q M9 2727 (lw_L sc b mo o i) []) : hm_W C k n Q M 807 (lw_L sc b mo o i) [] := by
  obtain ⟨hI, hJ1, M0, ta, hM, ho, hQ⟩ := hJ
  refine hr_aload_n X (tL_at tL_law_7_ok 27 rfl) rfl (Or.inr ⟨_, rfl⟩) ?_
  refine lr_arg 1 X S rfl rfl (by decide) (by omega) hN (tL_at tL_law_7_ok 28 rfl) (tL_at tL_law_7_ok 29 rfl) (tL_at tL_law_7_ok 30 rfl) (tL_at tL_law_7_ok 31 rfl) (tL_at tL_law_7_ok 32 rfl) ?_
  refine hr_aload_n X (tL_at tL_law_7_ok 33 rfl) rfl (Or.inr ⟨_, rfl⟩) ?_
  refine hr_callSH X kSL_versions (tL_at tL_law_7_ok 34 rfl) (c_L_versions cA hI hJ1 hQ ho (xs (i + 1))) rfl rfl rfl (Nat.le_of_ble_eq_true rfl) ⟨⟨(Nat.le_of_ble_eq_true rfl), (Nat.le_of_ble_eq_true rfl)⟩, hk, hn⟩ (fun v M1 hp => ?_)
  obtain ⟨rfl, f1, hf1, hQ1⟩ := hp
  obtain ⟨hM1, ho1⟩ := lw_mm hM ho hQ1
  refine hr_istore X (tL_at tL_law_7_ok 35 rfl) (Nat.le_of_ble_eq_true rfl) ?_
  refine hr_aload_n X (tL_at tL_law_7_ok 36 rfl) rfl (Or.inr ⟨_, rfl⟩) ?_
  refine lr_arg 1 X S rfl rfl (by decide) (by omega) hN (tL_at tL_law_7_ok 37 rfl) (tL_at tL_law_7_ok 38 rfl) (tL_at tL_law_7_ok 39 rfl) (tL_at tL_law_7_ok 40 rfl) (tL_at tL_law_7_ok 41 rfl) ?_
  refine hr_callV X kCL_166 (tL_at tL_law_7_ok 42 rfl) (c_X6_versions cA hM1 hI (xs (i + 1))) hM1.1 rfl rfl rfl rfl (Nat.le_of_ble_eq_true rfl) ⟨⟨(Nat.le_of_ble_eq_true rfl), (Nat.le_of_ble_eq_true rfl)⟩, hk, hn⟩ (fun v M2 hp => ?_)
  obtain ⟨ta2, x, hR2, rfl, hth, hx⟩ := hp
  obtain ⟨hJ2, ho2⟩ := lw_ref hI hJ1 hM ho hQ1 hR2
  refine hr_istore X (tL_at tL_law_7_ok 43 rfl) (Nat.le_of_ble_eq_true rfl) ?_
  show hm_W C _ _ _ _ 832 [some (.ref sc), some (.ref b), some (.ref mo), some (.ref o), some (.int (nI i)), some (.int _), some (.int x)] []
  refine lr_tail X (tL_at tL_law_7_ok 44 rfl) (tL_at tL_law_7_ok 45 rfl) (tL_at tL_law_7_ok 46 rfl) (tL_at tL_law_7_ok 47 rfl) (tL_at tL_law_7_ok 50 rfl) (tL_at tL_law_7_ok 51 rfl) (tL_at tL_law_7_ok 52 rfl) (tL_at tL_law_7_ok 53 rfl) (tL_at tL_law_7_ok 54 rfl) (tL_at tL_law_7_ok 55 rfl) (tL_at tL_law_7_ok 56 rfl) (tL_at tL_law_7_ok 57 rfl) (tL_at tL_law_7_ok 58 rfl) (tL_at tL_law_8_ok 1 rfl) (by decide) hR2 hth ho2 (fun h => (hf1 h).trans (by rw [hx h])) rfl ⟨⟨(Nat.le_of_ble_eq_true rfl), (Nat.le_of_ble_eq_true rfl)⟩, hk, hn⟩ ?_
  exact hr_sub (L2 := lw_L sc b mo o i) (by simp [hm_sub]) (kk _ _ _ hJ2)
set_option maxHeartbeats 4000000 in
set_option maxRecDepth 100000 in
theorem w_L_head {C : hm_C} {nm : String} {cA : Nat → ClassId} {k n : Nat} {Q : State → Prop} {M : hm_M} {sc N i b o mo : Nat} {xs : Nat → Int32} {ad : Nat → Nat} {sg : mm_S} {f : Nat → Int64} (X : hm_X C RL cL_law 7 (some .boolean) nm room_1 cA) (S : hm_Scr C sc N xs) (hi : i + 7 ≤ N) (hN : N < 4096) (hk : k + 16 ≤ 601024) (hn : n + 166 ≤ 7293033) (hJ : lw_J cA b o mo ad sg f M) (kk : ∀ (sg9 : mm_S) (f9 : Nat → Int64) (M9 : hm_M), lw_J cA b o mo ad sg9 f9 M9 → hm_W C (k + 16) (n + 166) Q M9 2727 (lw_L sc b mo o i) []) : hm_W C k n Q M 863 (lw_L sc b mo o i) [] := by
  obtain ⟨hI, hJ1, M0, ta, hM, ho, hQ⟩ := hJ
  refine hr_aload_n X (tL_at tL_law_8_ok 2 rfl) rfl (Or.inr ⟨_, rfl⟩) ?_
  refine lr_arg 1 X S rfl rfl (by decide) (by omega) hN (tL_at tL_law_8_ok 3 rfl) (tL_at tL_law_8_ok 4 rfl) (tL_at tL_law_8_ok 5 rfl) (tL_at tL_law_8_ok 6 rfl) (tL_at tL_law_8_ok 7 rfl) ?_
  refine lr_arg 2 X S rfl rfl (by decide) (by omega) hN (tL_at tL_law_8_ok 8 rfl) (tL_at tL_law_8_ok 9 rfl) (tL_at tL_law_8_ok 10 rfl) (tL_at tL_law_8_ok 11 rfl) (tL_at tL_law_8_ok 12 rfl) ?_
  refine hr_aload_n X (tL_at tL_law_8_ok 13 rfl) rfl (Or.inr ⟨_, rfl⟩) ?_
  refine hr_callSH X kSL_head (tL_at tL_law_8_ok 14 rfl) (c_L_head cA hI hJ1 hQ ho (xs (i + 1)) (xs (i + 2))) rfl rfl rfl (Nat.le_of_ble_eq_true rfl) ⟨⟨(Nat.le_of_ble_eq_true rfl), (Nat.le_of_ble_eq_true rfl)⟩, hk, hn⟩ (fun v M1 hp => ?_)
  obtain ⟨rfl, f1, hf1, hQ1⟩ := hp
  obtain ⟨hM1, ho1⟩ := lw_mm hM ho hQ1
  refine hr_istore X (tL_at tL_law_8_ok 15 rfl) (Nat.le_of_ble_eq_true rfl) ?_
  refine hr_aload_n X (tL_at tL_law_8_ok 16 rfl) rfl (Or.inr ⟨_, rfl⟩) ?_
  refine lr_arg 1 X S rfl rfl (by decide) (by omega) hN (tL_at tL_law_8_ok 17 rfl) (tL_at tL_law_8_ok 18 rfl) (tL_at tL_law_8_ok 19 rfl) (tL_at tL_law_8_ok 20 rfl) (tL_at tL_law_8_ok 21 rfl) ?_
  refine lr_arg 2 X S rfl rfl (by decide) (by omega) hN (tL_at tL_law_8_ok 22 rfl) (tL_at tL_law_8_ok 23 rfl) (tL_at tL_law_8_ok 24 rfl) (tL_at tL_law_8_ok 25 rfl) (tL_at tL_law_8_ok 26 rfl) ?_
  refine hr_callV X kCL_169 (tL_at tL_law_8_ok 27 rfl) (c_X6_head cA hM1 hI (xs (i + 1)) (xs (i + 2))) hM1.1 rfl rfl rfl rfl (Nat.le_of_ble_eq_true rfl) ⟨⟨(Nat.le_of_ble_eq_true rfl), (Nat.le_of_ble_eq_true rfl)⟩, hk, hn⟩ (fun v M2 hp => ?_)
  obtain ⟨ta2, x, hR2, rfl, hth, hx⟩ := hp
  obtain ⟨hJ2, ho2⟩ := lw_ref hI hJ1 hM ho hQ1 hR2
  refine hr_istore X (tL_at tL_law_8_ok 28 rfl) (Nat.le_of_ble_eq_true rfl) ?_
  show hm_W C _ _ _ _ 900 [some (.ref sc), some (.ref b), some (.ref mo), some (.ref o), some (.int (nI i)), some (.int _), some (.int x)] []
  refine lr_tail X (tL_at tL_law_8_ok 29 rfl) (tL_at tL_law_8_ok 30 rfl) (tL_at tL_law_8_ok 31 rfl) (tL_at tL_law_8_ok 32 rfl) (tL_at tL_law_8_ok 35 rfl) (tL_at tL_law_8_ok 36 rfl) (tL_at tL_law_8_ok 37 rfl) (tL_at tL_law_8_ok 38 rfl) (tL_at tL_law_8_ok 39 rfl) (tL_at tL_law_8_ok 40 rfl) (tL_at tL_law_8_ok 41 rfl) (tL_at tL_law_8_ok 42 rfl) (tL_at tL_law_8_ok 43 rfl) (tL_at tL_law_8_ok 46 rfl) (by decide) hR2 hth ho2 (fun h => (hf1 h).trans (by rw [hx h])) rfl ⟨⟨(Nat.le_of_ble_eq_true rfl), (Nat.le_of_ble_eq_true rfl)⟩, hk, hn⟩ ?_
  exact hr_sub (L2 := lw_L sc b mo o i) (by simp [hm_sub]) (kk _ _ _ hJ2)
set_option maxHeartbeats 4000000 in
set_option maxRecDepth 100000 in
theorem w_L_parent {C : hm_C} {nm : String} {cA : Nat → ClassId} {k n : Nat} {Q : State → Prop} {M : hm_M} {sc N i b o mo : Nat} {xs : Nat → Int32} {ad : Nat → Nat} {sg : mm_S} {f : Nat → Int64} (X : hm_X C RL cL_law 7 (some .boolean) nm room_1 cA) (S : hm_Scr C sc N xs) (hi : i + 7 ≤ N) (hN : N < 4096) (hk : k + 16 ≤ 601024) (hn : n + 166 ≤ 7293033) (hJ : lw_J cA b o mo ad sg f M) (kk : ∀ (sg9 : mm_S) (f9 : Nat → Int64) (M9 : hm_M), lw_J cA b o mo ad sg9 f9 M9 → hm_W C (k + 16) (n + 166) Q M9 2727 (lw_L sc b mo o i) []) : hm_W C k n Q M 931 (lw_L sc b mo o i) [] := by
  obtain ⟨hI, hJ1, M0, ta, hM, ho, hQ⟩ := hJ
  refine hr_aload_n X (tL_at tL_law_8_ok 47 rfl) rfl (Or.inr ⟨_, rfl⟩) ?_
  refine lr_arg 1 X S rfl rfl (by decide) (by omega) hN (tL_at tL_law_8_ok 48 rfl) (tL_at tL_law_8_ok 49 rfl) (tL_at tL_law_8_ok 50 rfl) (tL_at tL_law_8_ok 51 rfl) (tL_at tL_law_8_ok 52 rfl) ?_
  refine lr_arg 2 X S rfl rfl (by decide) (by omega) hN (tL_at tL_law_8_ok 53 rfl) (tL_at tL_law_8_ok 54 rfl) (tL_at tL_law_8_ok 55 rfl) (tL_at tL_law_8_ok 56 rfl) (tL_at tL_law_8_ok 57 rfl) ?_
  refine hr_aload_n X (tL_at tL_law_8_ok 58 rfl) rfl (Or.inr ⟨_, rfl⟩) ?_
  refine hr_callSH X kSL_parent (tL_at tL_law_8_ok 59 rfl) (c_L_parent cA hI hJ1 hQ ho (xs (i + 1)) (xs (i + 2))) rfl rfl rfl (Nat.le_of_ble_eq_true rfl) ⟨⟨(Nat.le_of_ble_eq_true rfl), (Nat.le_of_ble_eq_true rfl)⟩, hk, hn⟩ (fun v M1 hp => ?_)
  obtain ⟨rfl, f1, hf1, hQ1⟩ := hp
  obtain ⟨hM1, ho1⟩ := lw_mm hM ho hQ1
  refine hr_istore X (tL_at tL_law_9_ok 0 rfl) (Nat.le_of_ble_eq_true rfl) ?_
  refine hr_aload_n X (tL_at tL_law_9_ok 1 rfl) rfl (Or.inr ⟨_, rfl⟩) ?_
  refine lr_arg 1 X S rfl rfl (by decide) (by omega) hN (tL_at tL_law_9_ok 2 rfl) (tL_at tL_law_9_ok 3 rfl) (tL_at tL_law_9_ok 4 rfl) (tL_at tL_law_9_ok 5 rfl) (tL_at tL_law_9_ok 6 rfl) ?_
  refine lr_arg 2 X S rfl rfl (by decide) (by omega) hN (tL_at tL_law_9_ok 7 rfl) (tL_at tL_law_9_ok 8 rfl) (tL_at tL_law_9_ok 9 rfl) (tL_at tL_law_9_ok 10 rfl) (tL_at tL_law_9_ok 11 rfl) ?_
  refine hr_callV X kCL_172 (tL_at tL_law_9_ok 12 rfl) (c_X6_parent cA hM1 hI (xs (i + 1)) (xs (i + 2))) hM1.1 rfl rfl rfl rfl (Nat.le_of_ble_eq_true rfl) ⟨⟨(Nat.le_of_ble_eq_true rfl), (Nat.le_of_ble_eq_true rfl)⟩, hk, hn⟩ (fun v M2 hp => ?_)
  obtain ⟨ta2, x, hR2, rfl, hth, hx⟩ := hp
  obtain ⟨hJ2, ho2⟩ := lw_ref hI hJ1 hM ho hQ1 hR2
  refine hr_istore X (tL_at tL_law_9_ok 13 rfl) (Nat.le_of_ble_eq_true rfl) ?_
  show hm_W C _ _ _ _ 968 [some (.ref sc), some (.ref b), some (.ref mo), some (.ref o), some (.int (nI i)), some (.int _), some (.int x)] []
  refine lr_tail X (tL_at tL_law_9_ok 14 rfl) (tL_at tL_law_9_ok 15 rfl) (tL_at tL_law_9_ok 16 rfl) (tL_at tL_law_9_ok 17 rfl) (tL_at tL_law_9_ok 20 rfl) (tL_at tL_law_9_ok 21 rfl) (tL_at tL_law_9_ok 22 rfl) (tL_at tL_law_9_ok 23 rfl) (tL_at tL_law_9_ok 24 rfl) (tL_at tL_law_9_ok 25 rfl) (tL_at tL_law_9_ok 26 rfl) (tL_at tL_law_9_ok 27 rfl) (tL_at tL_law_9_ok 28 rfl) (tL_at tL_law_9_ok 31 rfl) (by decide) hR2 hth ho2 (fun h => (hf1 h).trans (by rw [hx h])) rfl ⟨⟨(Nat.le_of_ble_eq_true rfl), (Nat.le_of_ble_eq_true rfl)⟩, hk, hn⟩ ?_
  exact hr_sub (L2 := lw_L sc b mo o i) (by simp [hm_sub]) (kk _ _ _ hJ2)
set_option maxHeartbeats 4000000 in
set_option maxRecDepth 100000 in
theorem w_L_kindOf {C : hm_C} {nm : String} {cA : Nat → ClassId} {k n : Nat} {Q : State → Prop} {M : hm_M} {sc N i b o mo : Nat} {xs : Nat → Int32} {ad : Nat → Nat} {sg : mm_S} {f : Nat → Int64} (X : hm_X C RL cL_law 7 (some .boolean) nm room_1 cA) (S : hm_Scr C sc N xs) (hi : i + 7 ≤ N) (hN : N < 4096) (hk : k + 16 ≤ 601024) (hn : n + 166 ≤ 7293033) (hJ : lw_J cA b o mo ad sg f M) (kk : ∀ (sg9 : mm_S) (f9 : Nat → Int64) (M9 : hm_M), lw_J cA b o mo ad sg9 f9 M9 → hm_W C (k + 16) (n + 166) Q M9 2727 (lw_L sc b mo o i) []) : hm_W C k n Q M 999 (lw_L sc b mo o i) [] := by
  obtain ⟨hI, hJ1, M0, ta, hM, ho, hQ⟩ := hJ
  refine hr_aload_n X (tL_at tL_law_9_ok 32 rfl) rfl (Or.inr ⟨_, rfl⟩) ?_
  refine lr_arg 1 X S rfl rfl (by decide) (by omega) hN (tL_at tL_law_9_ok 33 rfl) (tL_at tL_law_9_ok 34 rfl) (tL_at tL_law_9_ok 35 rfl) (tL_at tL_law_9_ok 36 rfl) (tL_at tL_law_9_ok 37 rfl) ?_
  refine lr_arg 2 X S rfl rfl (by decide) (by omega) hN (tL_at tL_law_9_ok 38 rfl) (tL_at tL_law_9_ok 39 rfl) (tL_at tL_law_9_ok 40 rfl) (tL_at tL_law_9_ok 41 rfl) (tL_at tL_law_9_ok 42 rfl) ?_
  refine lr_arg 3 X S rfl rfl (by decide) (by omega) hN (tL_at tL_law_9_ok 43 rfl) (tL_at tL_law_9_ok 44 rfl) (tL_at tL_law_9_ok 45 rfl) (tL_at tL_law_9_ok 46 rfl) (tL_at tL_law_9_ok 47 rfl) ?_
  refine hr_aload_n X (tL_at tL_law_9_ok 48 rfl) rfl (Or.inr ⟨_, rfl⟩) ?_
  refine hr_callSH X kSL_kindOf (tL_at tL_law_9_ok 49 rfl) (c_L_kindOf cA hI hJ1 hQ ho (xs (i + 1)) (xs (i + 2)) (xs (i + 3))) rfl rfl rfl (Nat.le_of_ble_eq_true rfl) ⟨⟨(Nat.le_of_ble_eq_true rfl), (Nat.le_of_ble_eq_true rfl)⟩, hk, hn⟩ (fun v M1 hp => ?_)
  obtain ⟨rfl, f1, hf1, hQ1⟩ := hp
  obtain ⟨hM1, ho1⟩ := lw_mm hM ho hQ1
  refine hr_istore X (tL_at tL_law_9_ok 50 rfl) (Nat.le_of_ble_eq_true rfl) ?_
  refine hr_aload_n X (tL_at tL_law_9_ok 51 rfl) rfl (Or.inr ⟨_, rfl⟩) ?_
  refine lr_arg 1 X S rfl rfl (by decide) (by omega) hN (tL_at tL_law_9_ok 52 rfl) (tL_at tL_law_9_ok 53 rfl) (tL_at tL_law_9_ok 54 rfl) (tL_at tL_law_9_ok 55 rfl) (tL_at tL_law_9_ok 56 rfl) ?_
  refine lr_arg 2 X S rfl rfl (by decide) (by omega) hN (tL_at tL_law_9_ok 57 rfl) (tL_at tL_law_9_ok 58 rfl) (tL_at tL_law_9_ok 59 rfl) (tL_at tL_law_10_ok 0 rfl) (tL_at tL_law_10_ok 1 rfl) ?_
  refine lr_arg 3 X S rfl rfl (by decide) (by omega) hN (tL_at tL_law_10_ok 2 rfl) (tL_at tL_law_10_ok 3 rfl) (tL_at tL_law_10_ok 4 rfl) (tL_at tL_law_10_ok 5 rfl) (tL_at tL_law_10_ok 6 rfl) ?_
  refine hr_callV X kCL_175 (tL_at tL_law_10_ok 7 rfl) (c_X6_kindOf cA hM1 hI (xs (i + 1)) (xs (i + 2)) (xs (i + 3))) hM1.1 rfl rfl rfl rfl (Nat.le_of_ble_eq_true rfl) ⟨⟨(Nat.le_of_ble_eq_true rfl), (Nat.le_of_ble_eq_true rfl)⟩, hk, hn⟩ (fun v M2 hp => ?_)
  obtain ⟨ta2, x, hR2, rfl, hth, hx⟩ := hp
  obtain ⟨hJ2, ho2⟩ := lw_ref hI hJ1 hM ho hQ1 hR2
  refine hr_istore X (tL_at tL_law_10_ok 8 rfl) (Nat.le_of_ble_eq_true rfl) ?_
  show hm_W C _ _ _ _ 1048 [some (.ref sc), some (.ref b), some (.ref mo), some (.ref o), some (.int (nI i)), some (.int _), some (.int x)] []
  refine lr_tail X (tL_at tL_law_10_ok 9 rfl) (tL_at tL_law_10_ok 10 rfl) (tL_at tL_law_10_ok 11 rfl) (tL_at tL_law_10_ok 12 rfl) (tL_at tL_law_10_ok 15 rfl) (tL_at tL_law_10_ok 16 rfl) (tL_at tL_law_10_ok 17 rfl) (tL_at tL_law_10_ok 18 rfl) (tL_at tL_law_10_ok 19 rfl) (tL_at tL_law_10_ok 20 rfl) (tL_at tL_law_10_ok 21 rfl) (tL_at tL_law_10_ok 22 rfl) (tL_at tL_law_10_ok 23 rfl) (tL_at tL_law_10_ok 26 rfl) (by decide) hR2 hth ho2 (fun h => (hf1 h).trans (by rw [hx h])) rfl ⟨⟨(Nat.le_of_ble_eq_true rfl), (Nat.le_of_ble_eq_true rfl)⟩, hk, hn⟩ ?_
  exact hr_sub (L2 := lw_L sc b mo o i) (by simp [hm_sub]) (kk _ _ _ hJ2)
set_option maxHeartbeats 4000000 in
set_option maxRecDepth 100000 in
theorem w_L_toldIn {C : hm_C} {nm : String} {cA : Nat → ClassId} {k n : Nat} {Q : State → Prop} {M : hm_M} {sc N i b o mo : Nat} {xs : Nat → Int32} {ad : Nat → Nat} {sg : mm_S} {f : Nat → Int64} (X : hm_X C RL cL_law 7 (some .boolean) nm room_1 cA) (S : hm_Scr C sc N xs) (hi : i + 7 ≤ N) (hN : N < 4096) (hk : k + 16 ≤ 601024) (hn : n + 166 ≤ 7293033) (hJ : lw_J cA b o mo ad sg f M) (kk : ∀ (sg9 : mm_S) (f9 : Nat → Int64) (M9 : hm_M), lw_J cA b o mo ad sg9 f9 M9 → hm_W C (k + 16) (n + 166) Q M9 2727 (lw_L sc b mo o i) []) : hm_W C k n Q M 1079 (lw_L sc b mo o i) [] := by
  obtain ⟨hI, hJ1, M0, ta, hM, ho, hQ⟩ := hJ
  refine hr_aload_n X (tL_at tL_law_10_ok 27 rfl) rfl (Or.inr ⟨_, rfl⟩) ?_
  refine lr_arg 1 X S rfl rfl (by decide) (by omega) hN (tL_at tL_law_10_ok 28 rfl) (tL_at tL_law_10_ok 29 rfl) (tL_at tL_law_10_ok 30 rfl) (tL_at tL_law_10_ok 31 rfl) (tL_at tL_law_10_ok 32 rfl) ?_
  refine lr_arg 2 X S rfl rfl (by decide) (by omega) hN (tL_at tL_law_10_ok 33 rfl) (tL_at tL_law_10_ok 34 rfl) (tL_at tL_law_10_ok 35 rfl) (tL_at tL_law_10_ok 36 rfl) (tL_at tL_law_10_ok 37 rfl) ?_
  refine lr_arg 3 X S rfl rfl (by decide) (by omega) hN (tL_at tL_law_10_ok 38 rfl) (tL_at tL_law_10_ok 39 rfl) (tL_at tL_law_10_ok 40 rfl) (tL_at tL_law_10_ok 41 rfl) (tL_at tL_law_10_ok 42 rfl) ?_
  refine hr_aload_n X (tL_at tL_law_10_ok 43 rfl) rfl (Or.inr ⟨_, rfl⟩) ?_
  refine hr_callSH X kSL_toldIn (tL_at tL_law_10_ok 44 rfl) (c_L_toldIn cA hI hJ1 hQ ho (xs (i + 1)) (xs (i + 2)) (xs (i + 3))) rfl rfl rfl (Nat.le_of_ble_eq_true rfl) ⟨⟨(Nat.le_of_ble_eq_true rfl), (Nat.le_of_ble_eq_true rfl)⟩, hk, hn⟩ (fun v M1 hp => ?_)
  obtain ⟨rfl, f1, hf1, hQ1⟩ := hp
  obtain ⟨hM1, ho1⟩ := lw_mm hM ho hQ1
  refine hr_istore X (tL_at tL_law_10_ok 45 rfl) (Nat.le_of_ble_eq_true rfl) ?_
  refine hr_aload_n X (tL_at tL_law_10_ok 46 rfl) rfl (Or.inr ⟨_, rfl⟩) ?_
  refine lr_arg 1 X S rfl rfl (by decide) (by omega) hN (tL_at tL_law_10_ok 47 rfl) (tL_at tL_law_10_ok 48 rfl) (tL_at tL_law_10_ok 49 rfl) (tL_at tL_law_10_ok 50 rfl) (tL_at tL_law_10_ok 51 rfl) ?_
  refine lr_arg 2 X S rfl rfl (by decide) (by omega) hN (tL_at tL_law_10_ok 52 rfl) (tL_at tL_law_10_ok 53 rfl) (tL_at tL_law_10_ok 54 rfl) (tL_at tL_law_10_ok 55 rfl) (tL_at tL_law_10_ok 56 rfl) ?_
  refine lr_arg 3 X S rfl rfl (by decide) (by omega) hN (tL_at tL_law_10_ok 57 rfl) (tL_at tL_law_10_ok 58 rfl) (tL_at tL_law_10_ok 59 rfl) (tL_at tL_law_11_ok 0 rfl) (tL_at tL_law_11_ok 1 rfl) ?_
  refine hr_callV X kCL_178 (tL_at tL_law_11_ok 2 rfl) (c_X6_toldIn cA hM1 hI (xs (i + 1)) (xs (i + 2)) (xs (i + 3))) hM1.1 rfl rfl rfl rfl (Nat.le_of_ble_eq_true rfl) ⟨⟨(Nat.le_of_ble_eq_true rfl), (Nat.le_of_ble_eq_true rfl)⟩, hk, hn⟩ (fun v M2 hp => ?_)
  obtain ⟨ta2, x, hR2, rfl, hth, hx⟩ := hp
  obtain ⟨hJ2, ho2⟩ := lw_ref hI hJ1 hM ho hQ1 hR2
  refine hr_istore X (tL_at tL_law_11_ok 3 rfl) (Nat.le_of_ble_eq_true rfl) ?_
  show hm_W C _ _ _ _ 1128 [some (.ref sc), some (.ref b), some (.ref mo), some (.ref o), some (.int (nI i)), some (.int _), some (.int x)] []
  refine lr_tail X (tL_at tL_law_11_ok 4 rfl) (tL_at tL_law_11_ok 5 rfl) (tL_at tL_law_11_ok 6 rfl) (tL_at tL_law_11_ok 7 rfl) (tL_at tL_law_11_ok 10 rfl) (tL_at tL_law_11_ok 11 rfl) (tL_at tL_law_11_ok 12 rfl) (tL_at tL_law_11_ok 13 rfl) (tL_at tL_law_11_ok 14 rfl) (tL_at tL_law_11_ok 15 rfl) (tL_at tL_law_11_ok 16 rfl) (tL_at tL_law_11_ok 17 rfl) (tL_at tL_law_11_ok 18 rfl) (tL_at tL_law_11_ok 21 rfl) (by decide) hR2 hth ho2 (fun h => (hf1 h).trans (by rw [hx h])) rfl ⟨⟨(Nat.le_of_ble_eq_true rfl), (Nat.le_of_ble_eq_true rfl)⟩, hk, hn⟩ ?_
  exact hr_sub (L2 := lw_L sc b mo o i) (by simp [hm_sub]) (kk _ _ _ hJ2)
set_option maxHeartbeats 4000000 in
set_option maxRecDepth 100000 in
theorem w_L_points {C : hm_C} {nm : String} {cA : Nat → ClassId} {k n : Nat} {Q : State → Prop} {M : hm_M} {sc N i b o mo : Nat} {xs : Nat → Int32} {ad : Nat → Nat} {sg : mm_S} {f : Nat → Int64} (X : hm_X C RL cL_law 7 (some .boolean) nm room_1 cA) (S : hm_Scr C sc N xs) (hi : i + 7 ≤ N) (hN : N < 4096) (hk : k + 16 ≤ 601024) (hn : n + 166 ≤ 7293033) (hJ : lw_J cA b o mo ad sg f M) (kk : ∀ (sg9 : mm_S) (f9 : Nat → Int64) (M9 : hm_M), lw_J cA b o mo ad sg9 f9 M9 → hm_W C (k + 16) (n + 166) Q M9 2727 (lw_L sc b mo o i) []) : hm_W C k n Q M 1159 (lw_L sc b mo o i) [] := by
  obtain ⟨hI, hJ1, M0, ta, hM, ho, hQ⟩ := hJ
  refine hr_aload_n X (tL_at tL_law_11_ok 22 rfl) rfl (Or.inr ⟨_, rfl⟩) ?_
  refine lr_arg 1 X S rfl rfl (by decide) (by omega) hN (tL_at tL_law_11_ok 23 rfl) (tL_at tL_law_11_ok 24 rfl) (tL_at tL_law_11_ok 25 rfl) (tL_at tL_law_11_ok 26 rfl) (tL_at tL_law_11_ok 27 rfl) ?_
  refine lr_arg 2 X S rfl rfl (by decide) (by omega) hN (tL_at tL_law_11_ok 28 rfl) (tL_at tL_law_11_ok 29 rfl) (tL_at tL_law_11_ok 30 rfl) (tL_at tL_law_11_ok 31 rfl) (tL_at tL_law_11_ok 32 rfl) ?_
  refine hr_aload_n X (tL_at tL_law_11_ok 33 rfl) rfl (Or.inr ⟨_, rfl⟩) ?_
  refine hr_callSH X kSL_points (tL_at tL_law_11_ok 34 rfl) (c_L_points cA hI hJ1 hQ ho (xs (i + 1)) (xs (i + 2))) rfl rfl rfl (Nat.le_of_ble_eq_true rfl) ⟨⟨(Nat.le_of_ble_eq_true rfl), (Nat.le_of_ble_eq_true rfl)⟩, hk, hn⟩ (fun v M1 hp => ?_)
  obtain ⟨rfl, f1, hf1, hQ1⟩ := hp
  obtain ⟨hM1, ho1⟩ := lw_mm hM ho hQ1
  refine hr_istore X (tL_at tL_law_11_ok 35 rfl) (Nat.le_of_ble_eq_true rfl) ?_
  refine hr_aload_n X (tL_at tL_law_11_ok 36 rfl) rfl (Or.inr ⟨_, rfl⟩) ?_
  refine lr_arg 1 X S rfl rfl (by decide) (by omega) hN (tL_at tL_law_11_ok 37 rfl) (tL_at tL_law_11_ok 38 rfl) (tL_at tL_law_11_ok 39 rfl) (tL_at tL_law_11_ok 40 rfl) (tL_at tL_law_11_ok 41 rfl) ?_
  refine lr_arg 2 X S rfl rfl (by decide) (by omega) hN (tL_at tL_law_11_ok 42 rfl) (tL_at tL_law_11_ok 43 rfl) (tL_at tL_law_11_ok 44 rfl) (tL_at tL_law_11_ok 45 rfl) (tL_at tL_law_11_ok 46 rfl) ?_
  refine hr_callV X kCL_181 (tL_at tL_law_11_ok 47 rfl) (c_X6_points cA hM1 hI (xs (i + 1)) (xs (i + 2))) hM1.1 rfl rfl rfl rfl (Nat.le_of_ble_eq_true rfl) ⟨⟨(Nat.le_of_ble_eq_true rfl), (Nat.le_of_ble_eq_true rfl)⟩, hk, hn⟩ (fun v M2 hp => ?_)
  obtain ⟨ta2, x, hR2, rfl, hth, hx⟩ := hp
  obtain ⟨hJ2, ho2⟩ := lw_ref hI hJ1 hM ho hQ1 hR2
  refine hr_istore X (tL_at tL_law_11_ok 48 rfl) (Nat.le_of_ble_eq_true rfl) ?_
  show hm_W C _ _ _ _ 1196 [some (.ref sc), some (.ref b), some (.ref mo), some (.ref o), some (.int (nI i)), some (.int _), some (.int x)] []
  refine lr_tail X (tL_at tL_law_11_ok 49 rfl) (tL_at tL_law_11_ok 50 rfl) (tL_at tL_law_11_ok 51 rfl) (tL_at tL_law_11_ok 52 rfl) (tL_at tL_law_11_ok 55 rfl) (tL_at tL_law_11_ok 56 rfl) (tL_at tL_law_11_ok 57 rfl) (tL_at tL_law_11_ok 58 rfl) (tL_at tL_law_11_ok 59 rfl) (tL_at tL_law_12_ok 0 rfl) (tL_at tL_law_12_ok 1 rfl) (tL_at tL_law_12_ok 2 rfl) (tL_at tL_law_12_ok 3 rfl) (tL_at tL_law_12_ok 6 rfl) (by decide) hR2 hth ho2 (fun h => (hf1 h).trans (by rw [hx h])) rfl ⟨⟨(Nat.le_of_ble_eq_true rfl), (Nat.le_of_ble_eq_true rfl)⟩, hk, hn⟩ ?_
  exact hr_sub (L2 := lw_L sc b mo o i) (by simp [hm_sub]) (kk _ _ _ hJ2)
set_option maxHeartbeats 4000000 in
set_option maxRecDepth 100000 in
theorem w_L_mendNumber {C : hm_C} {nm : String} {cA : Nat → ClassId} {k n : Nat} {Q : State → Prop} {M : hm_M} {sc N i b o mo : Nat} {xs : Nat → Int32} {ad : Nat → Nat} {sg : mm_S} {f : Nat → Int64} (X : hm_X C RL cL_law 7 (some .boolean) nm room_1 cA) (S : hm_Scr C sc N xs) (hi : i + 7 ≤ N) (hN : N < 4096) (hk : k + 16 ≤ 601024) (hn : n + 166 ≤ 7293033) (hJ : lw_J cA b o mo ad sg f M) (kk : ∀ (sg9 : mm_S) (f9 : Nat → Int64) (M9 : hm_M), lw_J cA b o mo ad sg9 f9 M9 → hm_W C (k + 16) (n + 166) Q M9 2727 (lw_L sc b mo o i) []) : hm_W C k n Q M 1227 (lw_L sc b mo o i) [] := by
  obtain ⟨hI, hJ1, M0, ta, hM, ho, hQ⟩ := hJ
  refine hr_aload_n X (tL_at tL_law_12_ok 7 rfl) rfl (Or.inr ⟨_, rfl⟩) ?_
  refine lr_arg 1 X S rfl rfl (by decide) (by omega) hN (tL_at tL_law_12_ok 8 rfl) (tL_at tL_law_12_ok 9 rfl) (tL_at tL_law_12_ok 10 rfl) (tL_at tL_law_12_ok 11 rfl) (tL_at tL_law_12_ok 12 rfl) ?_
  refine lr_arg 2 X S rfl rfl (by decide) (by omega) hN (tL_at tL_law_12_ok 13 rfl) (tL_at tL_law_12_ok 14 rfl) (tL_at tL_law_12_ok 15 rfl) (tL_at tL_law_12_ok 16 rfl) (tL_at tL_law_12_ok 17 rfl) ?_
  refine lr_arg 3 X S rfl rfl (by decide) (by omega) hN (tL_at tL_law_12_ok 18 rfl) (tL_at tL_law_12_ok 19 rfl) (tL_at tL_law_12_ok 20 rfl) (tL_at tL_law_12_ok 21 rfl) (tL_at tL_law_12_ok 22 rfl) ?_
  refine lr_arg 4 X S rfl rfl (by decide) (by omega) hN (tL_at tL_law_12_ok 23 rfl) (tL_at tL_law_12_ok 24 rfl) (tL_at tL_law_12_ok 25 rfl) (tL_at tL_law_12_ok 26 rfl) (tL_at tL_law_12_ok 27 rfl) ?_
  refine lr_arg 5 X S rfl rfl (by decide) (by omega) hN (tL_at tL_law_12_ok 28 rfl) (tL_at tL_law_12_ok 29 rfl) (tL_at tL_law_12_ok 30 rfl) (tL_at tL_law_12_ok 31 rfl) (tL_at tL_law_12_ok 32 rfl) ?_
  refine hr_aload_n X (tL_at tL_law_12_ok 33 rfl) rfl (Or.inr ⟨_, rfl⟩) ?_
  refine hr_callSH X kSL_mendNumber (tL_at tL_law_12_ok 34 rfl) (c_L_mendNumber cA hI hJ1 hQ ho (xs (i + 1)) (xs (i + 2)) (xs (i + 3)) (xs (i + 4)) (xs (i + 5))) rfl rfl rfl (Nat.le_of_ble_eq_true rfl) ⟨⟨(Nat.le_of_ble_eq_true rfl), (Nat.le_of_ble_eq_true rfl)⟩, hk, hn⟩ (fun v M1 hp => ?_)
  obtain ⟨rfl, f1, hf1, hQ1⟩ := hp
  obtain ⟨hM1, ho1⟩ := lw_mm hM ho hQ1
  refine hr_istore X (tL_at tL_law_12_ok 35 rfl) (Nat.le_of_ble_eq_true rfl) ?_
  refine hr_aload_n X (tL_at tL_law_12_ok 36 rfl) rfl (Or.inr ⟨_, rfl⟩) ?_
  refine lr_arg 1 X S rfl rfl (by decide) (by omega) hN (tL_at tL_law_12_ok 37 rfl) (tL_at tL_law_12_ok 38 rfl) (tL_at tL_law_12_ok 39 rfl) (tL_at tL_law_12_ok 40 rfl) (tL_at tL_law_12_ok 41 rfl) ?_
  refine lr_arg 2 X S rfl rfl (by decide) (by omega) hN (tL_at tL_law_12_ok 42 rfl) (tL_at tL_law_12_ok 43 rfl) (tL_at tL_law_12_ok 44 rfl) (tL_at tL_law_12_ok 45 rfl) (tL_at tL_law_12_ok 46 rfl) ?_
  refine lr_arg 3 X S rfl rfl (by decide) (by omega) hN (tL_at tL_law_12_ok 47 rfl) (tL_at tL_law_12_ok 48 rfl) (tL_at tL_law_12_ok 49 rfl) (tL_at tL_law_12_ok 50 rfl) (tL_at tL_law_12_ok 51 rfl) ?_
  refine lr_arg 4 X S rfl rfl (by decide) (by omega) hN (tL_at tL_law_12_ok 52 rfl) (tL_at tL_law_12_ok 53 rfl) (tL_at tL_law_12_ok 54 rfl) (tL_at tL_law_12_ok 55 rfl) (tL_at tL_law_12_ok 56 rfl) ?_
  refine lr_arg 5 X S rfl rfl (by decide) (by omega) hN (tL_at tL_law_12_ok 57 rfl) (tL_at tL_law_12_ok 58 rfl) (tL_at tL_law_12_ok 59 rfl) (tL_at tL_law_13_ok 0 rfl) (tL_at tL_law_13_ok 1 rfl) ?_
  refine hr_callV X kCL_184 (tL_at tL_law_13_ok 2 rfl) (c_X6_mendNumber cA hM1 hI (xs (i + 1)) (xs (i + 2)) (xs (i + 3)) (xs (i + 4)) (xs (i + 5))) hM1.1 rfl rfl rfl rfl (Nat.le_of_ble_eq_true rfl) ⟨⟨(Nat.le_of_ble_eq_true rfl), (Nat.le_of_ble_eq_true rfl)⟩, hk, hn⟩ (fun v M2 hp => ?_)
  obtain ⟨ta2, x, hR2, rfl, hth, hx⟩ := hp
  have hIJ := lw_ij hI hJ1 (lp_mendNumber hI hJ1 (s := xs (i + 1)) (v := xs (i + 2)) (t := xs (i + 3)) (value := xs (i + 4)) (slack := xs (i + 5)))
  obtain ⟨hJ2, ho2⟩ := lw_ref hIJ.1 hIJ.2 hM ho hQ1 hR2
  refine hr_istore X (tL_at tL_law_13_ok 3 rfl) (Nat.le_of_ble_eq_true rfl) ?_
  show hm_W C _ _ _ _ 1300 [some (.ref sc), some (.ref b), some (.ref mo), some (.ref o), some (.int (nI i)), some (.int _), some (.int x)] []
  refine lr_tail X (tL_at tL_law_13_ok 4 rfl) (tL_at tL_law_13_ok 5 rfl) (tL_at tL_law_13_ok 6 rfl) (tL_at tL_law_13_ok 7 rfl) (tL_at tL_law_13_ok 10 rfl) (tL_at tL_law_13_ok 11 rfl) (tL_at tL_law_13_ok 12 rfl) (tL_at tL_law_13_ok 13 rfl) (tL_at tL_law_13_ok 14 rfl) (tL_at tL_law_13_ok 15 rfl) (tL_at tL_law_13_ok 16 rfl) (tL_at tL_law_13_ok 17 rfl) (tL_at tL_law_13_ok 18 rfl) (tL_at tL_law_13_ok 21 rfl) (by decide) hR2 hth ho2 (fun h => (hf1 h).trans (by rw [hx h])) rfl ⟨⟨(Nat.le_of_ble_eq_true rfl), (Nat.le_of_ble_eq_true rfl)⟩, hk, hn⟩ ?_
  exact hr_sub (L2 := lw_L sc b mo o i) (by simp [hm_sub]) (kk _ _ _ hJ2)
set_option maxHeartbeats 4000000 in
set_option maxRecDepth 100000 in
theorem w_L_mendChoice {C : hm_C} {nm : String} {cA : Nat → ClassId} {k n : Nat} {Q : State → Prop} {M : hm_M} {sc N i b o mo : Nat} {xs : Nat → Int32} {ad : Nat → Nat} {sg : mm_S} {f : Nat → Int64} (X : hm_X C RL cL_law 7 (some .boolean) nm room_1 cA) (S : hm_Scr C sc N xs) (hi : i + 7 ≤ N) (hN : N < 4096) (hk : k + 16 ≤ 601024) (hn : n + 166 ≤ 7293033) (hJ : lw_J cA b o mo ad sg f M) (kk : ∀ (sg9 : mm_S) (f9 : Nat → Int64) (M9 : hm_M), lw_J cA b o mo ad sg9 f9 M9 → hm_W C (k + 16) (n + 166) Q M9 2727 (lw_L sc b mo o i) []) : hm_W C k n Q M 1331 (lw_L sc b mo o i) [] := by
  obtain ⟨hI, hJ1, M0, ta, hM, ho, hQ⟩ := hJ
  refine hr_aload_n X (tL_at tL_law_13_ok 22 rfl) rfl (Or.inr ⟨_, rfl⟩) ?_
  refine lr_arg 1 X S rfl rfl (by decide) (by omega) hN (tL_at tL_law_13_ok 23 rfl) (tL_at tL_law_13_ok 24 rfl) (tL_at tL_law_13_ok 25 rfl) (tL_at tL_law_13_ok 26 rfl) (tL_at tL_law_13_ok 27 rfl) ?_
  refine lr_arg 2 X S rfl rfl (by decide) (by omega) hN (tL_at tL_law_13_ok 28 rfl) (tL_at tL_law_13_ok 29 rfl) (tL_at tL_law_13_ok 30 rfl) (tL_at tL_law_13_ok 31 rfl) (tL_at tL_law_13_ok 32 rfl) ?_
  refine lr_arg 3 X S rfl rfl (by decide) (by omega) hN (tL_at tL_law_13_ok 33 rfl) (tL_at tL_law_13_ok 34 rfl) (tL_at tL_law_13_ok 35 rfl) (tL_at tL_law_13_ok 36 rfl) (tL_at tL_law_13_ok 37 rfl) ?_
  refine lr_arg 4 X S rfl rfl (by decide) (by omega) hN (tL_at tL_law_13_ok 38 rfl) (tL_at tL_law_13_ok 39 rfl) (tL_at tL_law_13_ok 40 rfl) (tL_at tL_law_13_ok 41 rfl) (tL_at tL_law_13_ok 42 rfl) ?_
  refine hr_aload_n X (tL_at tL_law_13_ok 43 rfl) rfl (Or.inr ⟨_, rfl⟩) ?_
  refine hr_callSH X kSL_mendChoice (tL_at tL_law_13_ok 44 rfl) (c_L_mendChoice cA hI hJ1 hQ ho (xs (i + 1)) (xs (i + 2)) (xs (i + 3)) (xs (i + 4))) rfl rfl rfl (Nat.le_of_ble_eq_true rfl) ⟨⟨(Nat.le_of_ble_eq_true rfl), (Nat.le_of_ble_eq_true rfl)⟩, hk, hn⟩ (fun v M1 hp => ?_)
  obtain ⟨rfl, f1, hf1, hQ1⟩ := hp
  obtain ⟨hM1, ho1⟩ := lw_mm hM ho hQ1
  refine hr_istore X (tL_at tL_law_13_ok 45 rfl) (Nat.le_of_ble_eq_true rfl) ?_
  refine hr_aload_n X (tL_at tL_law_13_ok 46 rfl) rfl (Or.inr ⟨_, rfl⟩) ?_
  refine lr_arg 1 X S rfl rfl (by decide) (by omega) hN (tL_at tL_law_13_ok 47 rfl) (tL_at tL_law_13_ok 48 rfl) (tL_at tL_law_13_ok 49 rfl) (tL_at tL_law_13_ok 50 rfl) (tL_at tL_law_13_ok 51 rfl) ?_
  refine lr_arg 2 X S rfl rfl (by decide) (by omega) hN (tL_at tL_law_13_ok 52 rfl) (tL_at tL_law_13_ok 53 rfl) (tL_at tL_law_13_ok 54 rfl) (tL_at tL_law_13_ok 55 rfl) (tL_at tL_law_13_ok 56 rfl) ?_
  refine lr_arg 3 X S rfl rfl (by decide) (by omega) hN (tL_at tL_law_13_ok 57 rfl) (tL_at tL_law_13_ok 58 rfl) (tL_at tL_law_13_ok 59 rfl) (tL_at tL_law_14_ok 0 rfl) (tL_at tL_law_14_ok 1 rfl) ?_
  refine lr_arg 4 X S rfl rfl (by decide) (by omega) hN (tL_at tL_law_14_ok 2 rfl) (tL_at tL_law_14_ok 3 rfl) (tL_at tL_law_14_ok 4 rfl) (tL_at tL_law_14_ok 5 rfl) (tL_at tL_law_14_ok 6 rfl) ?_
  refine hr_callV X kCL_188 (tL_at tL_law_14_ok 7 rfl) (c_X6_mendChoice cA hM1 hI (xs (i + 1)) (xs (i + 2)) (xs (i + 3)) (xs (i + 4))) hM1.1 rfl rfl rfl rfl (Nat.le_of_ble_eq_true rfl) ⟨⟨(Nat.le_of_ble_eq_true rfl), (Nat.le_of_ble_eq_true rfl)⟩, hk, hn⟩ (fun v M2 hp => ?_)
  obtain ⟨ta2, x, hR2, rfl, hth, hx⟩ := hp
  have hIJ := lw_ij hI hJ1 (lp_mendChoice hI hJ1 (s := xs (i + 1)) (v := xs (i + 2)) (t := xs (i + 3)) (signs := xs (i + 4)))
  obtain ⟨hJ2, ho2⟩ := lw_ref hIJ.1 hIJ.2 hM ho hQ1 hR2
  refine hr_istore X (tL_at tL_law_14_ok 8 rfl) (Nat.le_of_ble_eq_true rfl) ?_
  show hm_W C _ _ _ _ 1392 [some (.ref sc), some (.ref b), some (.ref mo), some (.ref o), some (.int (nI i)), some (.int _), some (.int x)] []
  refine lr_tail X (tL_at tL_law_14_ok 9 rfl) (tL_at tL_law_14_ok 10 rfl) (tL_at tL_law_14_ok 11 rfl) (tL_at tL_law_14_ok 12 rfl) (tL_at tL_law_14_ok 15 rfl) (tL_at tL_law_14_ok 16 rfl) (tL_at tL_law_14_ok 17 rfl) (tL_at tL_law_14_ok 18 rfl) (tL_at tL_law_14_ok 19 rfl) (tL_at tL_law_14_ok 20 rfl) (tL_at tL_law_14_ok 21 rfl) (tL_at tL_law_14_ok 22 rfl) (tL_at tL_law_14_ok 23 rfl) (tL_at tL_law_14_ok 26 rfl) (by decide) hR2 hth ho2 (fun h => (hf1 h).trans (by rw [hx h])) rfl ⟨⟨(Nat.le_of_ble_eq_true rfl), (Nat.le_of_ble_eq_true rfl)⟩, hk, hn⟩ ?_
  exact hr_sub (L2 := lw_L sc b mo o i) (by simp [hm_sub]) (kk _ _ _ hJ2)
set_option maxHeartbeats 4000000 in
set_option maxRecDepth 100000 in
theorem w_L_mendWords {C : hm_C} {nm : String} {cA : Nat → ClassId} {k n : Nat} {Q : State → Prop} {M : hm_M} {sc N i b o mo : Nat} {xs : Nat → Int32} {ad : Nat → Nat} {sg : mm_S} {f : Nat → Int64} (X : hm_X C RL cL_law 7 (some .boolean) nm room_1 cA) (S : hm_Scr C sc N xs) (hi : i + 7 ≤ N) (hN : N < 4096) (hk : k + 16 ≤ 601024) (hn : n + 166 ≤ 7293033) (hJ : lw_J cA b o mo ad sg f M) (kk : ∀ (sg9 : mm_S) (f9 : Nat → Int64) (M9 : hm_M), lw_J cA b o mo ad sg9 f9 M9 → hm_W C (k + 16) (n + 166) Q M9 2727 (lw_L sc b mo o i) []) : hm_W C k n Q M 1423 (lw_L sc b mo o i) [] := by
  obtain ⟨hI, hJ1, M0, ta, hM, ho, hQ⟩ := hJ
  refine hr_aload_n X (tL_at tL_law_14_ok 27 rfl) rfl (Or.inr ⟨_, rfl⟩) ?_
  refine lr_arg 1 X S rfl rfl (by decide) (by omega) hN (tL_at tL_law_14_ok 28 rfl) (tL_at tL_law_14_ok 29 rfl) (tL_at tL_law_14_ok 30 rfl) (tL_at tL_law_14_ok 31 rfl) (tL_at tL_law_14_ok 32 rfl) ?_
  refine lr_arg 2 X S rfl rfl (by decide) (by omega) hN (tL_at tL_law_14_ok 33 rfl) (tL_at tL_law_14_ok 34 rfl) (tL_at tL_law_14_ok 35 rfl) (tL_at tL_law_14_ok 36 rfl) (tL_at tL_law_14_ok 37 rfl) ?_
  refine lr_arg 3 X S rfl rfl (by decide) (by omega) hN (tL_at tL_law_14_ok 38 rfl) (tL_at tL_law_14_ok 39 rfl) (tL_at tL_law_14_ok 40 rfl) (tL_at tL_law_14_ok 41 rfl) (tL_at tL_law_14_ok 42 rfl) ?_
  refine lr_arg 4 X S rfl rfl (by decide) (by omega) hN (tL_at tL_law_14_ok 43 rfl) (tL_at tL_law_14_ok 44 rfl) (tL_at tL_law_14_ok 45 rfl) (tL_at tL_law_14_ok 46 rfl) (tL_at tL_law_14_ok 47 rfl) ?_
  refine hr_aload_n X (tL_at tL_law_14_ok 48 rfl) rfl (Or.inr ⟨_, rfl⟩) ?_
  refine hr_callSH X kSL_mendWords (tL_at tL_law_14_ok 49 rfl) (c_L_mendWords cA hI hJ1 hQ ho (xs (i + 1)) (xs (i + 2)) (xs (i + 3)) (xs (i + 4))) rfl rfl rfl (Nat.le_of_ble_eq_true rfl) ⟨⟨(Nat.le_of_ble_eq_true rfl), (Nat.le_of_ble_eq_true rfl)⟩, hk, hn⟩ (fun v M1 hp => ?_)
  obtain ⟨rfl, f1, hf1, hQ1⟩ := hp
  obtain ⟨hM1, ho1⟩ := lw_mm hM ho hQ1
  refine hr_istore X (tL_at tL_law_14_ok 50 rfl) (Nat.le_of_ble_eq_true rfl) ?_
  refine hr_aload_n X (tL_at tL_law_14_ok 51 rfl) rfl (Or.inr ⟨_, rfl⟩) ?_
  refine lr_arg 1 X S rfl rfl (by decide) (by omega) hN (tL_at tL_law_14_ok 52 rfl) (tL_at tL_law_14_ok 53 rfl) (tL_at tL_law_14_ok 54 rfl) (tL_at tL_law_14_ok 55 rfl) (tL_at tL_law_14_ok 56 rfl) ?_
  refine lr_arg 2 X S rfl rfl (by decide) (by omega) hN (tL_at tL_law_14_ok 57 rfl) (tL_at tL_law_14_ok 58 rfl) (tL_at tL_law_14_ok 59 rfl) (tL_at tL_law_15_ok 0 rfl) (tL_at tL_law_15_ok 1 rfl) ?_
  refine lr_arg 3 X S rfl rfl (by decide) (by omega) hN (tL_at tL_law_15_ok 2 rfl) (tL_at tL_law_15_ok 3 rfl) (tL_at tL_law_15_ok 4 rfl) (tL_at tL_law_15_ok 5 rfl) (tL_at tL_law_15_ok 6 rfl) ?_
  refine lr_arg 4 X S rfl rfl (by decide) (by omega) hN (tL_at tL_law_15_ok 7 rfl) (tL_at tL_law_15_ok 8 rfl) (tL_at tL_law_15_ok 9 rfl) (tL_at tL_law_15_ok 10 rfl) (tL_at tL_law_15_ok 11 rfl) ?_
  refine hr_callV X kCL_191 (tL_at tL_law_15_ok 12 rfl) (c_X6_mendWords cA hM1 hI (xs (i + 1)) (xs (i + 2)) (xs (i + 3)) (xs (i + 4))) hM1.1 rfl rfl rfl rfl (Nat.le_of_ble_eq_true rfl) ⟨⟨(Nat.le_of_ble_eq_true rfl), (Nat.le_of_ble_eq_true rfl)⟩, hk, hn⟩ (fun v M2 hp => ?_)
  obtain ⟨ta2, x, hR2, rfl, hth, hx⟩ := hp
  have hIJ := lw_ij hI hJ1 (lp_mendWords hI hJ1 (s := xs (i + 1)) (v := xs (i + 2)) (t := xs (i + 3)) (words := xs (i + 4)))
  obtain ⟨hJ2, ho2⟩ := lw_ref hIJ.1 hIJ.2 hM ho hQ1 hR2
  refine hr_istore X (tL_at tL_law_15_ok 13 rfl) (Nat.le_of_ble_eq_true rfl) ?_
  show hm_W C _ _ _ _ 1484 [some (.ref sc), some (.ref b), some (.ref mo), some (.ref o), some (.int (nI i)), some (.int _), some (.int x)] []
  refine lr_tail X (tL_at tL_law_15_ok 14 rfl) (tL_at tL_law_15_ok 15 rfl) (tL_at tL_law_15_ok 16 rfl) (tL_at tL_law_15_ok 17 rfl) (tL_at tL_law_15_ok 20 rfl) (tL_at tL_law_15_ok 21 rfl) (tL_at tL_law_15_ok 22 rfl) (tL_at tL_law_15_ok 23 rfl) (tL_at tL_law_15_ok 24 rfl) (tL_at tL_law_15_ok 25 rfl) (tL_at tL_law_15_ok 26 rfl) (tL_at tL_law_15_ok 27 rfl) (tL_at tL_law_15_ok 28 rfl) (tL_at tL_law_15_ok 31 rfl) (by decide) hR2 hth ho2 (fun h => (hf1 h).trans (by rw [hx h])) rfl ⟨⟨(Nat.le_of_ble_eq_true rfl), (Nat.le_of_ble_eq_true rfl)⟩, hk, hn⟩ ?_
  exact hr_sub (L2 := lw_L sc b mo o i) (by simp [hm_sub]) (kk _ _ _ hJ2)
set_option maxHeartbeats 4000000 in
set_option maxRecDepth 100000 in
theorem w_L_open {C : hm_C} {nm : String} {cA : Nat → ClassId} {k n : Nat} {Q : State → Prop} {M : hm_M} {sc N i b o mo : Nat} {xs : Nat → Int32} {ad : Nat → Nat} {sg : mm_S} {f : Nat → Int64} (X : hm_X C RL cL_law 7 (some .boolean) nm room_1 cA) (S : hm_Scr C sc N xs) (hi : i + 7 ≤ N) (hN : N < 4096) (hk : k + 16 ≤ 601024) (hn : n + 166 ≤ 7293033) (hJ : lw_J cA b o mo ad sg f M) (kk : ∀ (sg9 : mm_S) (f9 : Nat → Int64) (M9 : hm_M), lw_J cA b o mo ad sg9 f9 M9 → hm_W C (k + 16) (n + 166) Q M9 2727 (lw_L sc b mo o i) []) : hm_W C k n Q M 1515 (lw_L sc b mo o i) [] := by
  obtain ⟨hI, hJ1, M0, ta, hM, ho, hQ⟩ := hJ
  refine hr_aload_n X (tL_at tL_law_15_ok 32 rfl) rfl (Or.inr ⟨_, rfl⟩) ?_
  refine lr_arg 1 X S rfl rfl (by decide) (by omega) hN (tL_at tL_law_15_ok 33 rfl) (tL_at tL_law_15_ok 34 rfl) (tL_at tL_law_15_ok 35 rfl) (tL_at tL_law_15_ok 36 rfl) (tL_at tL_law_15_ok 37 rfl) ?_
  refine lr_arg 2 X S rfl rfl (by decide) (by omega) hN (tL_at tL_law_15_ok 38 rfl) (tL_at tL_law_15_ok 39 rfl) (tL_at tL_law_15_ok 40 rfl) (tL_at tL_law_15_ok 41 rfl) (tL_at tL_law_15_ok 42 rfl) ?_
  refine hr_aload_n X (tL_at tL_law_15_ok 43 rfl) rfl (Or.inr ⟨_, rfl⟩) ?_
  refine hr_callSH X kSL_open (tL_at tL_law_15_ok 44 rfl) (c_L_open cA hI hJ1 hQ ho (xs (i + 1)) (xs (i + 2))) rfl rfl rfl (Nat.le_of_ble_eq_true rfl) ⟨⟨(Nat.le_of_ble_eq_true rfl), (Nat.le_of_ble_eq_true rfl)⟩, hk, hn⟩ (fun v M1 hp => ?_)
  obtain ⟨rfl, f1, hf1, hQ1⟩ := hp
  obtain ⟨hM1, ho1⟩ := lw_mm hM ho hQ1
  refine hr_istore X (tL_at tL_law_15_ok 45 rfl) (Nat.le_of_ble_eq_true rfl) ?_
  refine hr_aload_n X (tL_at tL_law_15_ok 46 rfl) rfl (Or.inr ⟨_, rfl⟩) ?_
  refine lr_arg 1 X S rfl rfl (by decide) (by omega) hN (tL_at tL_law_15_ok 47 rfl) (tL_at tL_law_15_ok 48 rfl) (tL_at tL_law_15_ok 49 rfl) (tL_at tL_law_15_ok 50 rfl) (tL_at tL_law_15_ok 51 rfl) ?_
  refine lr_arg 2 X S rfl rfl (by decide) (by omega) hN (tL_at tL_law_15_ok 52 rfl) (tL_at tL_law_15_ok 53 rfl) (tL_at tL_law_15_ok 54 rfl) (tL_at tL_law_15_ok 55 rfl) (tL_at tL_law_15_ok 56 rfl) ?_
  refine hr_callV X kCL_194 (tL_at tL_law_15_ok 57 rfl) (c_X6_open cA hM1 hI (xs (i + 1)) (xs (i + 2))) hM1.1 rfl rfl rfl rfl (Nat.le_of_ble_eq_true rfl) ⟨⟨(Nat.le_of_ble_eq_true rfl), (Nat.le_of_ble_eq_true rfl)⟩, hk, hn⟩ (fun v M2 hp => ?_)
  obtain ⟨ta2, x, hR2, rfl, hth, hx⟩ := hp
  have hIJ := lw_ij hI hJ1 (lp_open hI hJ1 (p := xs (i + 1)) (s := xs (i + 2)))
  obtain ⟨hJ2, ho2⟩ := lw_ref hIJ.1 hIJ.2 hM ho hQ1 hR2
  refine hr_istore X (tL_at tL_law_15_ok 58 rfl) (Nat.le_of_ble_eq_true rfl) ?_
  show hm_W C _ _ _ _ 1552 [some (.ref sc), some (.ref b), some (.ref mo), some (.ref o), some (.int (nI i)), some (.int _), some (.int x)] []
  refine lr_tail X (tL_at tL_law_15_ok 59 rfl) (tL_at tL_law_16_ok 0 rfl) (tL_at tL_law_16_ok 1 rfl) (tL_at tL_law_16_ok 2 rfl) (tL_at tL_law_16_ok 5 rfl) (tL_at tL_law_16_ok 6 rfl) (tL_at tL_law_16_ok 7 rfl) (tL_at tL_law_16_ok 8 rfl) (tL_at tL_law_16_ok 9 rfl) (tL_at tL_law_16_ok 10 rfl) (tL_at tL_law_16_ok 11 rfl) (tL_at tL_law_16_ok 12 rfl) (tL_at tL_law_16_ok 13 rfl) (tL_at tL_law_16_ok 16 rfl) (by decide) hR2 hth ho2 (fun h => (hf1 h).trans (by rw [hx h])) rfl ⟨⟨(Nat.le_of_ble_eq_true rfl), (Nat.le_of_ble_eq_true rfl)⟩, hk, hn⟩ ?_
  exact hr_sub (L2 := lw_L sc b mo o i) (by simp [hm_sub]) (kk _ _ _ hJ2)
set_option maxHeartbeats 4000000 in
set_option maxRecDepth 100000 in
theorem w_L_say {C : hm_C} {nm : String} {cA : Nat → ClassId} {k n : Nat} {Q : State → Prop} {M : hm_M} {sc N i b o mo : Nat} {xs : Nat → Int32} {ad : Nat → Nat} {sg : mm_S} {f : Nat → Int64} (X : hm_X C RL cL_law 7 (some .boolean) nm room_1 cA) (S : hm_Scr C sc N xs) (hi : i + 7 ≤ N) (hN : N < 4096) (hk : k + 16 ≤ 601024) (hn : n + 166 ≤ 7293033) (hJ : lw_J cA b o mo ad sg f M) (kk : ∀ (sg9 : mm_S) (f9 : Nat → Int64) (M9 : hm_M), lw_J cA b o mo ad sg9 f9 M9 → hm_W C (k + 16) (n + 166) Q M9 2727 (lw_L sc b mo o i) []) : hm_W C k n Q M 1583 (lw_L sc b mo o i) [] := by
  obtain ⟨hI, hJ1, M0, ta, hM, ho, hQ⟩ := hJ
  refine hr_aload_n X (tL_at tL_law_16_ok 17 rfl) rfl (Or.inr ⟨_, rfl⟩) ?_
  refine lr_arg 1 X S rfl rfl (by decide) (by omega) hN (tL_at tL_law_16_ok 18 rfl) (tL_at tL_law_16_ok 19 rfl) (tL_at tL_law_16_ok 20 rfl) (tL_at tL_law_16_ok 21 rfl) (tL_at tL_law_16_ok 22 rfl) ?_
  refine lr_arg 2 X S rfl rfl (by decide) (by omega) hN (tL_at tL_law_16_ok 23 rfl) (tL_at tL_law_16_ok 24 rfl) (tL_at tL_law_16_ok 25 rfl) (tL_at tL_law_16_ok 26 rfl) (tL_at tL_law_16_ok 27 rfl) ?_
  refine lr_arg 3 X S rfl rfl (by decide) (by omega) hN (tL_at tL_law_16_ok 28 rfl) (tL_at tL_law_16_ok 29 rfl) (tL_at tL_law_16_ok 30 rfl) (tL_at tL_law_16_ok 31 rfl) (tL_at tL_law_16_ok 32 rfl) ?_
  refine lr_arg 4 X S rfl rfl (by decide) (by omega) hN (tL_at tL_law_16_ok 33 rfl) (tL_at tL_law_16_ok 34 rfl) (tL_at tL_law_16_ok 35 rfl) (tL_at tL_law_16_ok 36 rfl) (tL_at tL_law_16_ok 37 rfl) ?_
  refine hr_aload_n X (tL_at tL_law_16_ok 38 rfl) rfl (Or.inr ⟨_, rfl⟩) ?_
  refine hr_callSH X kSL_say (tL_at tL_law_16_ok 39 rfl) (c_L_say cA hI hJ1 hQ ho (xs (i + 1)) (xs (i + 2)) (xs (i + 3)) (xs (i + 4))) rfl rfl rfl (Nat.le_of_ble_eq_true rfl) ⟨⟨(Nat.le_of_ble_eq_true rfl), (Nat.le_of_ble_eq_true rfl)⟩, hk, hn⟩ (fun v M1 hp => ?_)
  obtain ⟨rfl, f1, hf1, hQ1⟩ := hp
  obtain ⟨hM1, ho1⟩ := lw_mm hM ho hQ1
  refine hr_istore X (tL_at tL_law_16_ok 40 rfl) (Nat.le_of_ble_eq_true rfl) ?_
  refine hr_aload_n X (tL_at tL_law_16_ok 41 rfl) rfl (Or.inr ⟨_, rfl⟩) ?_
  refine lr_arg 1 X S rfl rfl (by decide) (by omega) hN (tL_at tL_law_16_ok 42 rfl) (tL_at tL_law_16_ok 43 rfl) (tL_at tL_law_16_ok 44 rfl) (tL_at tL_law_16_ok 45 rfl) (tL_at tL_law_16_ok 46 rfl) ?_
  refine lr_arg 2 X S rfl rfl (by decide) (by omega) hN (tL_at tL_law_16_ok 47 rfl) (tL_at tL_law_16_ok 48 rfl) (tL_at tL_law_16_ok 49 rfl) (tL_at tL_law_16_ok 50 rfl) (tL_at tL_law_16_ok 51 rfl) ?_
  refine lr_arg 3 X S rfl rfl (by decide) (by omega) hN (tL_at tL_law_16_ok 52 rfl) (tL_at tL_law_16_ok 53 rfl) (tL_at tL_law_16_ok 54 rfl) (tL_at tL_law_16_ok 55 rfl) (tL_at tL_law_16_ok 56 rfl) ?_
  refine lr_arg 4 X S rfl rfl (by decide) (by omega) hN (tL_at tL_law_16_ok 57 rfl) (tL_at tL_law_16_ok 58 rfl) (tL_at tL_law_16_ok 59 rfl) (tL_at tL_law_17_ok 0 rfl) (tL_at tL_law_17_ok 1 rfl) ?_
  refine hr_callV X kCL_197 (tL_at tL_law_17_ok 2 rfl) (c_X6_say cA hM1 hI (xs (i + 1)) (xs (i + 2)) (xs (i + 3)) (xs (i + 4))) hM1.1 rfl rfl rfl rfl (Nat.le_of_ble_eq_true rfl) ⟨⟨(Nat.le_of_ble_eq_true rfl), (Nat.le_of_ble_eq_true rfl)⟩, hk, hn⟩ (fun v M2 hp => ?_)
  obtain ⟨ta2, x, hR2, rfl, hth, hx⟩ := hp
  have hIJ := lw_ij hI hJ1 (lp_say hI hJ1 (p := xs (i + 1)) (s := xs (i + 2)) (t := xs (i + 3)) (said := xs (i + 4)))
  obtain ⟨hJ2, ho2⟩ := lw_ref hIJ.1 hIJ.2 hM ho hQ1 hR2
  refine hr_istore X (tL_at tL_law_17_ok 3 rfl) (Nat.le_of_ble_eq_true rfl) ?_
  show hm_W C _ _ _ _ 1644 [some (.ref sc), some (.ref b), some (.ref mo), some (.ref o), some (.int (nI i)), some (.int _), some (.int x)] []
  refine lr_tail X (tL_at tL_law_17_ok 4 rfl) (tL_at tL_law_17_ok 5 rfl) (tL_at tL_law_17_ok 6 rfl) (tL_at tL_law_17_ok 7 rfl) (tL_at tL_law_17_ok 10 rfl) (tL_at tL_law_17_ok 11 rfl) (tL_at tL_law_17_ok 12 rfl) (tL_at tL_law_17_ok 13 rfl) (tL_at tL_law_17_ok 14 rfl) (tL_at tL_law_17_ok 15 rfl) (tL_at tL_law_17_ok 16 rfl) (tL_at tL_law_17_ok 17 rfl) (tL_at tL_law_17_ok 18 rfl) (tL_at tL_law_17_ok 21 rfl) (by decide) hR2 hth ho2 (fun h => (hf1 h).trans (by rw [hx h])) rfl ⟨⟨(Nat.le_of_ble_eq_true rfl), (Nat.le_of_ble_eq_true rfl)⟩, hk, hn⟩ ?_
  exact hr_sub (L2 := lw_L sc b mo o i) (by simp [hm_sub]) (kk _ _ _ hJ2)
set_option maxHeartbeats 4000000 in
set_option maxRecDepth 100000 in
theorem w_L_hand {C : hm_C} {nm : String} {cA : Nat → ClassId} {k n : Nat} {Q : State → Prop} {M : hm_M} {sc N i b o mo : Nat} {xs : Nat → Int32} {ad : Nat → Nat} {sg : mm_S} {f : Nat → Int64} (X : hm_X C RL cL_law 7 (some .boolean) nm room_1 cA) (S : hm_Scr C sc N xs) (hi : i + 7 ≤ N) (hN : N < 4096) (hk : k + 16 ≤ 601024) (hn : n + 166 ≤ 7293033) (hJ : lw_J cA b o mo ad sg f M) (kk : ∀ (sg9 : mm_S) (f9 : Nat → Int64) (M9 : hm_M), lw_J cA b o mo ad sg9 f9 M9 → hm_W C (k + 16) (n + 166) Q M9 2727 (lw_L sc b mo o i) []) : hm_W C k n Q M 1675 (lw_L sc b mo o i) [] := by
  obtain ⟨hI, hJ1, M0, ta, hM, ho, hQ⟩ := hJ
  refine hr_aload_n X (tL_at tL_law_17_ok 22 rfl) rfl (Or.inr ⟨_, rfl⟩) ?_
  refine lr_arg 1 X S rfl rfl (by decide) (by omega) hN (tL_at tL_law_17_ok 23 rfl) (tL_at tL_law_17_ok 24 rfl) (tL_at tL_law_17_ok 25 rfl) (tL_at tL_law_17_ok 26 rfl) (tL_at tL_law_17_ok 27 rfl) ?_
  refine lr_arg 2 X S rfl rfl (by decide) (by omega) hN (tL_at tL_law_17_ok 28 rfl) (tL_at tL_law_17_ok 29 rfl) (tL_at tL_law_17_ok 30 rfl) (tL_at tL_law_17_ok 31 rfl) (tL_at tL_law_17_ok 32 rfl) ?_
  refine hr_aload_n X (tL_at tL_law_17_ok 33 rfl) rfl (Or.inr ⟨_, rfl⟩) ?_
  refine hr_callSH X kSL_hand (tL_at tL_law_17_ok 34 rfl) (c_L_hand cA hI hJ1 hQ ho (xs (i + 1)) (xs (i + 2))) rfl rfl rfl (Nat.le_of_ble_eq_true rfl) ⟨⟨(Nat.le_of_ble_eq_true rfl), (Nat.le_of_ble_eq_true rfl)⟩, hk, hn⟩ (fun v M1 hp => ?_)
  obtain ⟨rfl, f1, hf1, hQ1⟩ := hp
  obtain ⟨hM1, ho1⟩ := lw_mm hM ho hQ1
  refine hr_istore X (tL_at tL_law_17_ok 35 rfl) (Nat.le_of_ble_eq_true rfl) ?_
  refine hr_aload_n X (tL_at tL_law_17_ok 36 rfl) rfl (Or.inr ⟨_, rfl⟩) ?_
  refine lr_arg 1 X S rfl rfl (by decide) (by omega) hN (tL_at tL_law_17_ok 37 rfl) (tL_at tL_law_17_ok 38 rfl) (tL_at tL_law_17_ok 39 rfl) (tL_at tL_law_17_ok 40 rfl) (tL_at tL_law_17_ok 41 rfl) ?_
  refine lr_arg 2 X S rfl rfl (by decide) (by omega) hN (tL_at tL_law_17_ok 42 rfl) (tL_at tL_law_17_ok 43 rfl) (tL_at tL_law_17_ok 44 rfl) (tL_at tL_law_17_ok 45 rfl) (tL_at tL_law_17_ok 46 rfl) ?_
  refine hr_callV X kCL_200 (tL_at tL_law_17_ok 47 rfl) (c_X6_hand cA hM1 hI (xs (i + 1)) (xs (i + 2))) hM1.1 rfl rfl rfl rfl (Nat.le_of_ble_eq_true rfl) ⟨⟨(Nat.le_of_ble_eq_true rfl), (Nat.le_of_ble_eq_true rfl)⟩, hk, hn⟩ (fun v M2 hp => ?_)
  obtain ⟨ta2, x, hR2, rfl, hth, hx⟩ := hp
  have hIJ := lw_ij hI hJ1 (lp_hand hI hJ1 (p := xs (i + 1)) (s := xs (i + 2)))
  obtain ⟨hJ2, ho2⟩ := lw_ref hIJ.1 hIJ.2 hM ho hQ1 hR2
  refine hr_istore X (tL_at tL_law_17_ok 48 rfl) (Nat.le_of_ble_eq_true rfl) ?_
  show hm_W C _ _ _ _ 1712 [some (.ref sc), some (.ref b), some (.ref mo), some (.ref o), some (.int (nI i)), some (.int _), some (.int x)] []
  refine lr_tail X (tL_at tL_law_17_ok 49 rfl) (tL_at tL_law_17_ok 50 rfl) (tL_at tL_law_17_ok 51 rfl) (tL_at tL_law_17_ok 52 rfl) (tL_at tL_law_17_ok 55 rfl) (tL_at tL_law_17_ok 56 rfl) (tL_at tL_law_17_ok 57 rfl) (tL_at tL_law_17_ok 58 rfl) (tL_at tL_law_17_ok 59 rfl) (tL_at tL_law_18_ok 0 rfl) (tL_at tL_law_18_ok 1 rfl) (tL_at tL_law_18_ok 2 rfl) (tL_at tL_law_18_ok 3 rfl) (tL_at tL_law_18_ok 6 rfl) (by decide) hR2 hth ho2 (fun h => (hf1 h).trans (by rw [hx h])) rfl ⟨⟨(Nat.le_of_ble_eq_true rfl), (Nat.le_of_ble_eq_true rfl)⟩, hk, hn⟩ ?_
  exact hr_sub (L2 := lw_L sc b mo o i) (by simp [hm_sub]) (kk _ _ _ hJ2)
set_option maxHeartbeats 4000000 in
set_option maxRecDepth 100000 in
theorem w_L_close {C : hm_C} {nm : String} {cA : Nat → ClassId} {k n : Nat} {Q : State → Prop} {M : hm_M} {sc N i b o mo : Nat} {xs : Nat → Int32} {ad : Nat → Nat} {sg : mm_S} {f : Nat → Int64} (X : hm_X C RL cL_law 7 (some .boolean) nm room_1 cA) (S : hm_Scr C sc N xs) (hi : i + 7 ≤ N) (hN : N < 4096) (hk : k + 16 ≤ 601024) (hn : n + 166 ≤ 7293033) (hJ : lw_J cA b o mo ad sg f M) (kk : ∀ (sg9 : mm_S) (f9 : Nat → Int64) (M9 : hm_M), lw_J cA b o mo ad sg9 f9 M9 → hm_W C (k + 16) (n + 166) Q M9 2727 (lw_L sc b mo o i) []) : hm_W C k n Q M 1743 (lw_L sc b mo o i) [] := by
  obtain ⟨hI, hJ1, M0, ta, hM, ho, hQ⟩ := hJ
  refine hr_aload_n X (tL_at tL_law_18_ok 7 rfl) rfl (Or.inr ⟨_, rfl⟩) ?_
  refine lr_arg 1 X S rfl rfl (by decide) (by omega) hN (tL_at tL_law_18_ok 8 rfl) (tL_at tL_law_18_ok 9 rfl) (tL_at tL_law_18_ok 10 rfl) (tL_at tL_law_18_ok 11 rfl) (tL_at tL_law_18_ok 12 rfl) ?_
  refine lr_arg 2 X S rfl rfl (by decide) (by omega) hN (tL_at tL_law_18_ok 13 rfl) (tL_at tL_law_18_ok 14 rfl) (tL_at tL_law_18_ok 15 rfl) (tL_at tL_law_18_ok 16 rfl) (tL_at tL_law_18_ok 17 rfl) ?_
  refine hr_aload_n X (tL_at tL_law_18_ok 18 rfl) rfl (Or.inr ⟨_, rfl⟩) ?_
  refine hr_callSH X kSL_close (tL_at tL_law_18_ok 19 rfl) (c_L_close cA hI hJ1 hQ ho (xs (i + 1)) (xs (i + 2))) rfl rfl rfl (Nat.le_of_ble_eq_true rfl) ⟨⟨(Nat.le_of_ble_eq_true rfl), (Nat.le_of_ble_eq_true rfl)⟩, hk, hn⟩ (fun v M1 hp => ?_)
  obtain ⟨rfl, f1, hf1, hQ1⟩ := hp
  obtain ⟨hM1, ho1⟩ := lw_mm hM ho hQ1
  refine hr_istore X (tL_at tL_law_18_ok 20 rfl) (Nat.le_of_ble_eq_true rfl) ?_
  refine hr_aload_n X (tL_at tL_law_18_ok 21 rfl) rfl (Or.inr ⟨_, rfl⟩) ?_
  refine lr_arg 1 X S rfl rfl (by decide) (by omega) hN (tL_at tL_law_18_ok 22 rfl) (tL_at tL_law_18_ok 23 rfl) (tL_at tL_law_18_ok 24 rfl) (tL_at tL_law_18_ok 25 rfl) (tL_at tL_law_18_ok 26 rfl) ?_
  refine lr_arg 2 X S rfl rfl (by decide) (by omega) hN (tL_at tL_law_18_ok 27 rfl) (tL_at tL_law_18_ok 28 rfl) (tL_at tL_law_18_ok 29 rfl) (tL_at tL_law_18_ok 30 rfl) (tL_at tL_law_18_ok 31 rfl) ?_
  refine hr_callV X kCL_203 (tL_at tL_law_18_ok 32 rfl) (c_X6_close cA hM1 hI (xs (i + 1)) (xs (i + 2))) hM1.1 rfl rfl rfl rfl (Nat.le_of_ble_eq_true rfl) ⟨⟨(Nat.le_of_ble_eq_true rfl), (Nat.le_of_ble_eq_true rfl)⟩, hk, hn⟩ (fun v M2 hp => ?_)
  obtain ⟨ta2, x, hR2, rfl, hth, hx⟩ := hp
  have hIJ := lw_ij hI hJ1 (lp_close hI hJ1 (g := xs (i + 1)) (s := xs (i + 2)))
  obtain ⟨hJ2, ho2⟩ := lw_ref hIJ.1 hIJ.2 hM ho hQ1 hR2
  refine hr_istore X (tL_at tL_law_18_ok 33 rfl) (Nat.le_of_ble_eq_true rfl) ?_
  show hm_W C _ _ _ _ 1780 [some (.ref sc), some (.ref b), some (.ref mo), some (.ref o), some (.int (nI i)), some (.int _), some (.int x)] []
  refine lr_tail X (tL_at tL_law_18_ok 34 rfl) (tL_at tL_law_18_ok 35 rfl) (tL_at tL_law_18_ok 36 rfl) (tL_at tL_law_18_ok 37 rfl) (tL_at tL_law_18_ok 40 rfl) (tL_at tL_law_18_ok 41 rfl) (tL_at tL_law_18_ok 42 rfl) (tL_at tL_law_18_ok 43 rfl) (tL_at tL_law_18_ok 44 rfl) (tL_at tL_law_18_ok 45 rfl) (tL_at tL_law_18_ok 46 rfl) (tL_at tL_law_18_ok 47 rfl) (tL_at tL_law_18_ok 48 rfl) (tL_at tL_law_18_ok 51 rfl) (by decide) hR2 hth ho2 (fun h => (hf1 h).trans (by rw [hx h])) rfl ⟨⟨(Nat.le_of_ble_eq_true rfl), (Nat.le_of_ble_eq_true rfl)⟩, hk, hn⟩ ?_
  exact hr_sub (L2 := lw_L sc b mo o i) (by simp [hm_sub]) (kk _ _ _ hJ2)
set_option maxHeartbeats 4000000 in
set_option maxRecDepth 100000 in
theorem w_L_answer {C : hm_C} {nm : String} {cA : Nat → ClassId} {k n : Nat} {Q : State → Prop} {M : hm_M} {sc N i b o mo : Nat} {xs : Nat → Int32} {ad : Nat → Nat} {sg : mm_S} {f : Nat → Int64} (X : hm_X C RL cL_law 7 (some .boolean) nm room_1 cA) (S : hm_Scr C sc N xs) (hi : i + 7 ≤ N) (hN : N < 4096) (hk : k + 16 ≤ 601024) (hn : n + 166 ≤ 7293033) (hJ : lw_J cA b o mo ad sg f M) (kk : ∀ (sg9 : mm_S) (f9 : Nat → Int64) (M9 : hm_M), lw_J cA b o mo ad sg9 f9 M9 → hm_W C (k + 16) (n + 166) Q M9 2727 (lw_L sc b mo o i) []) : hm_W C k n Q M 1811 (lw_L sc b mo o i) [] := by
  obtain ⟨hI, hJ1, M0, ta, hM, ho, hQ⟩ := hJ
  refine hr_aload_n X (tL_at tL_law_18_ok 52 rfl) rfl (Or.inr ⟨_, rfl⟩) ?_
  refine lr_arg 1 X S rfl rfl (by decide) (by omega) hN (tL_at tL_law_18_ok 53 rfl) (tL_at tL_law_18_ok 54 rfl) (tL_at tL_law_18_ok 55 rfl) (tL_at tL_law_18_ok 56 rfl) (tL_at tL_law_18_ok 57 rfl) ?_
  refine lr_arg 2 X S rfl rfl (by decide) (by omega) hN (tL_at tL_law_18_ok 58 rfl) (tL_at tL_law_18_ok 59 rfl) (tL_at tL_law_19_ok 0 rfl) (tL_at tL_law_19_ok 1 rfl) (tL_at tL_law_19_ok 2 rfl) ?_
  refine hr_aload_n X (tL_at tL_law_19_ok 3 rfl) rfl (Or.inr ⟨_, rfl⟩) ?_
  refine hr_callSH X kSL_answer (tL_at tL_law_19_ok 4 rfl) (c_L_answer cA hI hJ1 hQ ho (xs (i + 1)) (xs (i + 2))) rfl rfl rfl (Nat.le_of_ble_eq_true rfl) ⟨⟨(Nat.le_of_ble_eq_true rfl), (Nat.le_of_ble_eq_true rfl)⟩, hk, hn⟩ (fun v M1 hp => ?_)
  obtain ⟨rfl, f1, hf1, hQ1⟩ := hp
  obtain ⟨hM1, ho1⟩ := lw_mm hM ho hQ1
  refine hr_istore X (tL_at tL_law_19_ok 5 rfl) (Nat.le_of_ble_eq_true rfl) ?_
  refine hr_aload_n X (tL_at tL_law_19_ok 6 rfl) rfl (Or.inr ⟨_, rfl⟩) ?_
  refine lr_arg 1 X S rfl rfl (by decide) (by omega) hN (tL_at tL_law_19_ok 7 rfl) (tL_at tL_law_19_ok 8 rfl) (tL_at tL_law_19_ok 9 rfl) (tL_at tL_law_19_ok 10 rfl) (tL_at tL_law_19_ok 11 rfl) ?_
  refine lr_arg 2 X S rfl rfl (by decide) (by omega) hN (tL_at tL_law_19_ok 12 rfl) (tL_at tL_law_19_ok 13 rfl) (tL_at tL_law_19_ok 14 rfl) (tL_at tL_law_19_ok 15 rfl) (tL_at tL_law_19_ok 16 rfl) ?_
  refine hr_callV X kCL_206 (tL_at tL_law_19_ok 17 rfl) (c_X6_answer cA hM1 hI (xs (i + 1)) (xs (i + 2))) hM1.1 rfl rfl rfl rfl (Nat.le_of_ble_eq_true rfl) ⟨⟨(Nat.le_of_ble_eq_true rfl), (Nat.le_of_ble_eq_true rfl)⟩, hk, hn⟩ (fun v M2 hp => ?_)
  obtain ⟨ta2, x, hR2, rfl, hth, hx⟩ := hp
  obtain ⟨hJ2, ho2⟩ := lw_ref hI hJ1 hM ho hQ1 hR2
  refine hr_istore X (tL_at tL_law_19_ok 18 rfl) (Nat.le_of_ble_eq_true rfl) ?_
  show hm_W C _ _ _ _ 1848 [some (.ref sc), some (.ref b), some (.ref mo), some (.ref o), some (.int (nI i)), some (.int _), some (.int x)] []
  refine lr_tail X (tL_at tL_law_19_ok 19 rfl) (tL_at tL_law_19_ok 20 rfl) (tL_at tL_law_19_ok 21 rfl) (tL_at tL_law_19_ok 22 rfl) (tL_at tL_law_19_ok 25 rfl) (tL_at tL_law_19_ok 26 rfl) (tL_at tL_law_19_ok 27 rfl) (tL_at tL_law_19_ok 28 rfl) (tL_at tL_law_19_ok 29 rfl) (tL_at tL_law_19_ok 30 rfl) (tL_at tL_law_19_ok 31 rfl) (tL_at tL_law_19_ok 32 rfl) (tL_at tL_law_19_ok 33 rfl) (tL_at tL_law_19_ok 36 rfl) (by decide) hR2 hth ho2 (fun h => (hf1 h).trans (by rw [hx h])) rfl ⟨⟨(Nat.le_of_ble_eq_true rfl), (Nat.le_of_ble_eq_true rfl)⟩, hk, hn⟩ ?_
  exact hr_sub (L2 := lw_L sc b mo o i) (by simp [hm_sub]) (kk _ _ _ hJ2)
set_option maxHeartbeats 4000000 in
set_option maxRecDepth 100000 in
theorem w_L_mark {C : hm_C} {nm : String} {cA : Nat → ClassId} {k n : Nat} {Q : State → Prop} {M : hm_M} {sc N i b o mo : Nat} {xs : Nat → Int32} {ad : Nat → Nat} {sg : mm_S} {f : Nat → Int64} (X : hm_X C RL cL_law 7 (some .boolean) nm room_1 cA) (S : hm_Scr C sc N xs) (hi : i + 7 ≤ N) (hN : N < 4096) (hk : k + 16 ≤ 601024) (hn : n + 166 ≤ 7293033) (hJ : lw_J cA b o mo ad sg f M) (kk : ∀ (sg9 : mm_S) (f9 : Nat → Int64) (M9 : hm_M), lw_J cA b o mo ad sg9 f9 M9 → hm_W C (k + 16) (n + 166) Q M9 2727 (lw_L sc b mo o i) []) : hm_W C k n Q M 1879 (lw_L sc b mo o i) [] := by
  obtain ⟨hI, hJ1, M0, ta, hM, ho, hQ⟩ := hJ
  refine hr_aload_n X (tL_at tL_law_19_ok 37 rfl) rfl (Or.inr ⟨_, rfl⟩) ?_
  refine lr_arg 1 X S rfl rfl (by decide) (by omega) hN (tL_at tL_law_19_ok 38 rfl) (tL_at tL_law_19_ok 39 rfl) (tL_at tL_law_19_ok 40 rfl) (tL_at tL_law_19_ok 41 rfl) (tL_at tL_law_19_ok 42 rfl) ?_
  refine lr_arg 2 X S rfl rfl (by decide) (by omega) hN (tL_at tL_law_19_ok 43 rfl) (tL_at tL_law_19_ok 44 rfl) (tL_at tL_law_19_ok 45 rfl) (tL_at tL_law_19_ok 46 rfl) (tL_at tL_law_19_ok 47 rfl) ?_
  refine hr_aload_n X (tL_at tL_law_19_ok 48 rfl) rfl (Or.inr ⟨_, rfl⟩) ?_
  refine hr_callSH X kSL_mark (tL_at tL_law_19_ok 49 rfl) (c_L_mark cA hI hJ1 hQ ho (xs (i + 1)) (xs (i + 2))) rfl rfl rfl (Nat.le_of_ble_eq_true rfl) ⟨⟨(Nat.le_of_ble_eq_true rfl), (Nat.le_of_ble_eq_true rfl)⟩, hk, hn⟩ (fun v M1 hp => ?_)
  obtain ⟨rfl, f1, hf1, hQ1⟩ := hp
  obtain ⟨hM1, ho1⟩ := lw_mm hM ho hQ1
  refine hr_istore X (tL_at tL_law_19_ok 50 rfl) (Nat.le_of_ble_eq_true rfl) ?_
  refine hr_aload_n X (tL_at tL_law_19_ok 51 rfl) rfl (Or.inr ⟨_, rfl⟩) ?_
  refine lr_arg 1 X S rfl rfl (by decide) (by omega) hN (tL_at tL_law_19_ok 52 rfl) (tL_at tL_law_19_ok 53 rfl) (tL_at tL_law_19_ok 54 rfl) (tL_at tL_law_19_ok 55 rfl) (tL_at tL_law_19_ok 56 rfl) ?_
  refine lr_arg 2 X S rfl rfl (by decide) (by omega) hN (tL_at tL_law_19_ok 57 rfl) (tL_at tL_law_19_ok 58 rfl) (tL_at tL_law_19_ok 59 rfl) (tL_at tL_law_20_ok 0 rfl) (tL_at tL_law_20_ok 1 rfl) ?_
  refine hr_callV X kCL_209 (tL_at tL_law_20_ok 2 rfl) (c_X6_mark cA hM1 hI (xs (i + 1)) (xs (i + 2))) hM1.1 rfl rfl rfl rfl (Nat.le_of_ble_eq_true rfl) ⟨⟨(Nat.le_of_ble_eq_true rfl), (Nat.le_of_ble_eq_true rfl)⟩, hk, hn⟩ (fun v M2 hp => ?_)
  obtain ⟨ta2, x, hR2, rfl, hth, hx⟩ := hp
  obtain ⟨hJ2, ho2⟩ := lw_ref hI hJ1 hM ho hQ1 hR2
  refine hr_istore X (tL_at tL_law_20_ok 3 rfl) (Nat.le_of_ble_eq_true rfl) ?_
  show hm_W C _ _ _ _ 1916 [some (.ref sc), some (.ref b), some (.ref mo), some (.ref o), some (.int (nI i)), some (.int _), some (.int x)] []
  refine lr_tail X (tL_at tL_law_20_ok 4 rfl) (tL_at tL_law_20_ok 5 rfl) (tL_at tL_law_20_ok 6 rfl) (tL_at tL_law_20_ok 7 rfl) (tL_at tL_law_20_ok 10 rfl) (tL_at tL_law_20_ok 11 rfl) (tL_at tL_law_20_ok 12 rfl) (tL_at tL_law_20_ok 13 rfl) (tL_at tL_law_20_ok 14 rfl) (tL_at tL_law_20_ok 15 rfl) (tL_at tL_law_20_ok 16 rfl) (tL_at tL_law_20_ok 17 rfl) (tL_at tL_law_20_ok 18 rfl) (tL_at tL_law_20_ok 21 rfl) (by decide) hR2 hth ho2 (fun h => (hf1 h).trans (by rw [hx h])) rfl ⟨⟨(Nat.le_of_ble_eq_true rfl), (Nat.le_of_ble_eq_true rfl)⟩, hk, hn⟩ ?_
  exact hr_sub (L2 := lw_L sc b mo o i) (by simp [hm_sub]) (kk _ _ _ hJ2)
set_option maxHeartbeats 4000000 in
set_option maxRecDepth 100000 in
theorem w_L_due {C : hm_C} {nm : String} {cA : Nat → ClassId} {k n : Nat} {Q : State → Prop} {M : hm_M} {sc N i b o mo : Nat} {xs : Nat → Int32} {ad : Nat → Nat} {sg : mm_S} {f : Nat → Int64} (X : hm_X C RL cL_law 7 (some .boolean) nm room_1 cA) (S : hm_Scr C sc N xs) (hi : i + 7 ≤ N) (hN : N < 4096) (hk : k + 16 ≤ 601024) (hn : n + 166 ≤ 7293033) (hJ : lw_J cA b o mo ad sg f M) (kk : ∀ (sg9 : mm_S) (f9 : Nat → Int64) (M9 : hm_M), lw_J cA b o mo ad sg9 f9 M9 → hm_W C (k + 16) (n + 166) Q M9 2727 (lw_L sc b mo o i) []) : hm_W C k n Q M 1947 (lw_L sc b mo o i) [] := by
  obtain ⟨hI, hJ1, M0, ta, hM, ho, hQ⟩ := hJ
  refine hr_aload_n X (tL_at tL_law_20_ok 22 rfl) rfl (Or.inr ⟨_, rfl⟩) ?_
  refine lr_arg 1 X S rfl rfl (by decide) (by omega) hN (tL_at tL_law_20_ok 23 rfl) (tL_at tL_law_20_ok 24 rfl) (tL_at tL_law_20_ok 25 rfl) (tL_at tL_law_20_ok 26 rfl) (tL_at tL_law_20_ok 27 rfl) ?_
  refine lr_arg 2 X S rfl rfl (by decide) (by omega) hN (tL_at tL_law_20_ok 28 rfl) (tL_at tL_law_20_ok 29 rfl) (tL_at tL_law_20_ok 30 rfl) (tL_at tL_law_20_ok 31 rfl) (tL_at tL_law_20_ok 32 rfl) ?_
  refine hr_aload_n X (tL_at tL_law_20_ok 33 rfl) rfl (Or.inr ⟨_, rfl⟩) ?_
  refine hr_callSH X kSL_due (tL_at tL_law_20_ok 34 rfl) (c_L_due cA hI hJ1 hQ ho (xs (i + 1)) (xs (i + 2))) rfl rfl rfl (Nat.le_of_ble_eq_true rfl) ⟨⟨(Nat.le_of_ble_eq_true rfl), (Nat.le_of_ble_eq_true rfl)⟩, hk, hn⟩ (fun v M1 hp => ?_)
  obtain ⟨rfl, f1, hf1, hQ1⟩ := hp
  obtain ⟨hM1, ho1⟩ := lw_mm hM ho hQ1
  refine hr_istore X (tL_at tL_law_20_ok 35 rfl) (Nat.le_of_ble_eq_true rfl) ?_
  refine hr_aload_n X (tL_at tL_law_20_ok 36 rfl) rfl (Or.inr ⟨_, rfl⟩) ?_
  refine lr_arg 1 X S rfl rfl (by decide) (by omega) hN (tL_at tL_law_20_ok 37 rfl) (tL_at tL_law_20_ok 38 rfl) (tL_at tL_law_20_ok 39 rfl) (tL_at tL_law_20_ok 40 rfl) (tL_at tL_law_20_ok 41 rfl) ?_
  refine lr_arg 2 X S rfl rfl (by decide) (by omega) hN (tL_at tL_law_20_ok 42 rfl) (tL_at tL_law_20_ok 43 rfl) (tL_at tL_law_20_ok 44 rfl) (tL_at tL_law_20_ok 45 rfl) (tL_at tL_law_20_ok 46 rfl) ?_
  refine hr_callV X kCL_212 (tL_at tL_law_20_ok 47 rfl) (c_X6_due cA hM1 hI (xs (i + 1)) (xs (i + 2))) hM1.1 rfl rfl rfl rfl (Nat.le_of_ble_eq_true rfl) ⟨⟨(Nat.le_of_ble_eq_true rfl), (Nat.le_of_ble_eq_true rfl)⟩, hk, hn⟩ (fun v M2 hp => ?_)
  obtain ⟨ta2, x, hR2, rfl, hth, hx⟩ := hp
  obtain ⟨hJ2, ho2⟩ := lw_ref hI hJ1 hM ho hQ1 hR2
  refine hr_istore X (tL_at tL_law_20_ok 48 rfl) (Nat.le_of_ble_eq_true rfl) ?_
  show hm_W C _ _ _ _ 1984 [some (.ref sc), some (.ref b), some (.ref mo), some (.ref o), some (.int (nI i)), some (.int _), some (.int x)] []
  refine lr_tail X (tL_at tL_law_20_ok 49 rfl) (tL_at tL_law_20_ok 50 rfl) (tL_at tL_law_20_ok 51 rfl) (tL_at tL_law_20_ok 52 rfl) (tL_at tL_law_20_ok 55 rfl) (tL_at tL_law_20_ok 56 rfl) (tL_at tL_law_20_ok 57 rfl) (tL_at tL_law_20_ok 58 rfl) (tL_at tL_law_20_ok 59 rfl) (tL_at tL_law_21_ok 0 rfl) (tL_at tL_law_21_ok 1 rfl) (tL_at tL_law_21_ok 2 rfl) (tL_at tL_law_21_ok 3 rfl) (tL_at tL_law_21_ok 6 rfl) (by decide) hR2 hth ho2 (fun h => (hf1 h).trans (by rw [hx h])) rfl ⟨⟨(Nat.le_of_ble_eq_true rfl), (Nat.le_of_ble_eq_true rfl)⟩, hk, hn⟩ ?_
  exact hr_sub (L2 := lw_L sc b mo o i) (by simp [hm_sub]) (kk _ _ _ hJ2)
set_option maxHeartbeats 4000000 in
set_option maxRecDepth 100000 in
theorem w_L_told {C : hm_C} {nm : String} {cA : Nat → ClassId} {k n : Nat} {Q : State → Prop} {M : hm_M} {sc N i b o mo : Nat} {xs : Nat → Int32} {ad : Nat → Nat} {sg : mm_S} {f : Nat → Int64} (X : hm_X C RL cL_law 7 (some .boolean) nm room_1 cA) (S : hm_Scr C sc N xs) (hi : i + 7 ≤ N) (hN : N < 4096) (hk : k + 16 ≤ 601024) (hn : n + 166 ≤ 7293033) (hJ : lw_J cA b o mo ad sg f M) (kk : ∀ (sg9 : mm_S) (f9 : Nat → Int64) (M9 : hm_M), lw_J cA b o mo ad sg9 f9 M9 → hm_W C (k + 16) (n + 166) Q M9 2727 (lw_L sc b mo o i) []) : hm_W C k n Q M 2015 (lw_L sc b mo o i) [] := by
  obtain ⟨hI, hJ1, M0, ta, hM, ho, hQ⟩ := hJ
  refine hr_aload_n X (tL_at tL_law_21_ok 7 rfl) rfl (Or.inr ⟨_, rfl⟩) ?_
  refine lr_arg 1 X S rfl rfl (by decide) (by omega) hN (tL_at tL_law_21_ok 8 rfl) (tL_at tL_law_21_ok 9 rfl) (tL_at tL_law_21_ok 10 rfl) (tL_at tL_law_21_ok 11 rfl) (tL_at tL_law_21_ok 12 rfl) ?_
  refine lr_arg 2 X S rfl rfl (by decide) (by omega) hN (tL_at tL_law_21_ok 13 rfl) (tL_at tL_law_21_ok 14 rfl) (tL_at tL_law_21_ok 15 rfl) (tL_at tL_law_21_ok 16 rfl) (tL_at tL_law_21_ok 17 rfl) ?_
  refine hr_aload_n X (tL_at tL_law_21_ok 18 rfl) rfl (Or.inr ⟨_, rfl⟩) ?_
  refine hr_callSH X kSL_told (tL_at tL_law_21_ok 19 rfl) (c_L_told cA hI hJ1 hQ ho (xs (i + 1)) (xs (i + 2))) rfl rfl rfl (Nat.le_of_ble_eq_true rfl) ⟨⟨(Nat.le_of_ble_eq_true rfl), (Nat.le_of_ble_eq_true rfl)⟩, hk, hn⟩ (fun v M1 hp => ?_)
  obtain ⟨rfl, f1, hf1, hQ1⟩ := hp
  obtain ⟨hM1, ho1⟩ := lw_mm hM ho hQ1
  refine hr_istore X (tL_at tL_law_21_ok 20 rfl) (Nat.le_of_ble_eq_true rfl) ?_
  refine hr_aload_n X (tL_at tL_law_21_ok 21 rfl) rfl (Or.inr ⟨_, rfl⟩) ?_
  refine lr_arg 1 X S rfl rfl (by decide) (by omega) hN (tL_at tL_law_21_ok 22 rfl) (tL_at tL_law_21_ok 23 rfl) (tL_at tL_law_21_ok 24 rfl) (tL_at tL_law_21_ok 25 rfl) (tL_at tL_law_21_ok 26 rfl) ?_
  refine lr_arg 2 X S rfl rfl (by decide) (by omega) hN (tL_at tL_law_21_ok 27 rfl) (tL_at tL_law_21_ok 28 rfl) (tL_at tL_law_21_ok 29 rfl) (tL_at tL_law_21_ok 30 rfl) (tL_at tL_law_21_ok 31 rfl) ?_
  refine hr_callV X kCL_215 (tL_at tL_law_21_ok 32 rfl) (c_X6_told cA hM1 hI (xs (i + 1)) (xs (i + 2))) hM1.1 rfl rfl rfl rfl (Nat.le_of_ble_eq_true rfl) ⟨⟨(Nat.le_of_ble_eq_true rfl), (Nat.le_of_ble_eq_true rfl)⟩, hk, hn⟩ (fun v M2 hp => ?_)
  obtain ⟨ta2, x, hR2, rfl, hth, hx⟩ := hp
  obtain ⟨hJ2, ho2⟩ := lw_ref hI hJ1 hM ho hQ1 hR2
  refine hr_istore X (tL_at tL_law_21_ok 33 rfl) (Nat.le_of_ble_eq_true rfl) ?_
  show hm_W C _ _ _ _ 2052 [some (.ref sc), some (.ref b), some (.ref mo), some (.ref o), some (.int (nI i)), some (.int _), some (.int x)] []
  refine lr_tail X (tL_at tL_law_21_ok 34 rfl) (tL_at tL_law_21_ok 35 rfl) (tL_at tL_law_21_ok 36 rfl) (tL_at tL_law_21_ok 37 rfl) (tL_at tL_law_21_ok 40 rfl) (tL_at tL_law_21_ok 41 rfl) (tL_at tL_law_21_ok 42 rfl) (tL_at tL_law_21_ok 43 rfl) (tL_at tL_law_21_ok 44 rfl) (tL_at tL_law_21_ok 45 rfl) (tL_at tL_law_21_ok 46 rfl) (tL_at tL_law_21_ok 47 rfl) (tL_at tL_law_21_ok 48 rfl) (tL_at tL_law_21_ok 51 rfl) (by decide) hR2 hth ho2 (fun h => (hf1 h).trans (by rw [hx h])) rfl ⟨⟨(Nat.le_of_ble_eq_true rfl), (Nat.le_of_ble_eq_true rfl)⟩, hk, hn⟩ ?_
  exact hr_sub (L2 := lw_L sc b mo o i) (by simp [hm_sub]) (kk _ _ _ hJ2)
set_option maxHeartbeats 4000000 in
set_option maxRecDepth 100000 in
theorem w_L_average {C : hm_C} {nm : String} {cA : Nat → ClassId} {k n : Nat} {Q : State → Prop} {M : hm_M} {sc N i b o mo : Nat} {xs : Nat → Int32} {ad : Nat → Nat} {sg : mm_S} {f : Nat → Int64} (X : hm_X C RL cL_law 7 (some .boolean) nm room_1 cA) (S : hm_Scr C sc N xs) (hi : i + 7 ≤ N) (hN : N < 4096) (hk : k + 16 ≤ 601024) (hn : n + 166 ≤ 7293033) (hJ : lw_J cA b o mo ad sg f M) (kk : ∀ (sg9 : mm_S) (f9 : Nat → Int64) (M9 : hm_M), lw_J cA b o mo ad sg9 f9 M9 → hm_W C (k + 16) (n + 166) Q M9 2727 (lw_L sc b mo o i) []) : hm_W C k n Q M 2083 (lw_L sc b mo o i) [] := by
  obtain ⟨hI, hJ1, M0, ta, hM, ho, hQ⟩ := hJ
  refine hr_aload_n X (tL_at tL_law_21_ok 52 rfl) rfl (Or.inr ⟨_, rfl⟩) ?_
  refine lr_arg 1 X S rfl rfl (by decide) (by omega) hN (tL_at tL_law_21_ok 53 rfl) (tL_at tL_law_21_ok 54 rfl) (tL_at tL_law_21_ok 55 rfl) (tL_at tL_law_21_ok 56 rfl) (tL_at tL_law_21_ok 57 rfl) ?_
  refine lr_arg 2 X S rfl rfl (by decide) (by omega) hN (tL_at tL_law_21_ok 58 rfl) (tL_at tL_law_21_ok 59 rfl) (tL_at tL_law_22_ok 0 rfl) (tL_at tL_law_22_ok 1 rfl) (tL_at tL_law_22_ok 2 rfl) ?_
  refine hr_aload_n X (tL_at tL_law_22_ok 3 rfl) rfl (Or.inr ⟨_, rfl⟩) ?_
  refine hr_callSH X kSL_average (tL_at tL_law_22_ok 4 rfl) (c_L_average cA hI hJ1 hQ ho (xs (i + 1)) (xs (i + 2))) rfl rfl rfl (Nat.le_of_ble_eq_true rfl) ⟨⟨(Nat.le_of_ble_eq_true rfl), (Nat.le_of_ble_eq_true rfl)⟩, hk, hn⟩ (fun v M1 hp => ?_)
  obtain ⟨rfl, f1, hf1, hQ1⟩ := hp
  obtain ⟨hM1, ho1⟩ := lw_mm hM ho hQ1
  refine hr_istore X (tL_at tL_law_22_ok 5 rfl) (Nat.le_of_ble_eq_true rfl) ?_
  refine hr_aload_n X (tL_at tL_law_22_ok 6 rfl) rfl (Or.inr ⟨_, rfl⟩) ?_
  refine lr_arg 1 X S rfl rfl (by decide) (by omega) hN (tL_at tL_law_22_ok 7 rfl) (tL_at tL_law_22_ok 8 rfl) (tL_at tL_law_22_ok 9 rfl) (tL_at tL_law_22_ok 10 rfl) (tL_at tL_law_22_ok 11 rfl) ?_
  refine lr_arg 2 X S rfl rfl (by decide) (by omega) hN (tL_at tL_law_22_ok 12 rfl) (tL_at tL_law_22_ok 13 rfl) (tL_at tL_law_22_ok 14 rfl) (tL_at tL_law_22_ok 15 rfl) (tL_at tL_law_22_ok 16 rfl) ?_
  refine hr_callV X kCL_218 (tL_at tL_law_22_ok 17 rfl) (c_X6_average cA hM1 hI (xs (i + 1)) (xs (i + 2))) hM1.1 rfl rfl rfl rfl (Nat.le_of_ble_eq_true rfl) ⟨⟨(Nat.le_of_ble_eq_true rfl), (Nat.le_of_ble_eq_true rfl)⟩, hk, hn⟩ (fun v M2 hp => ?_)
  obtain ⟨ta2, x, hR2, rfl, hth, hx⟩ := hp
  obtain ⟨hJ2, ho2⟩ := lw_ref hI hJ1 hM ho hQ1 hR2
  refine hr_istore X (tL_at tL_law_22_ok 18 rfl) (Nat.le_of_ble_eq_true rfl) ?_
  show hm_W C _ _ _ _ 2120 [some (.ref sc), some (.ref b), some (.ref mo), some (.ref o), some (.int (nI i)), some (.int _), some (.int x)] []
  refine lr_tail X (tL_at tL_law_22_ok 19 rfl) (tL_at tL_law_22_ok 20 rfl) (tL_at tL_law_22_ok 21 rfl) (tL_at tL_law_22_ok 22 rfl) (tL_at tL_law_22_ok 25 rfl) (tL_at tL_law_22_ok 26 rfl) (tL_at tL_law_22_ok 27 rfl) (tL_at tL_law_22_ok 28 rfl) (tL_at tL_law_22_ok 29 rfl) (tL_at tL_law_22_ok 30 rfl) (tL_at tL_law_22_ok 31 rfl) (tL_at tL_law_22_ok 32 rfl) (tL_at tL_law_22_ok 33 rfl) (tL_at tL_law_22_ok 36 rfl) (by decide) hR2 hth ho2 (fun h => (hf1 h).trans (by rw [hx h])) rfl ⟨⟨(Nat.le_of_ble_eq_true rfl), (Nat.le_of_ble_eq_true rfl)⟩, hk, hn⟩ ?_
  exact hr_sub (L2 := lw_L sc b mo o i) (by simp [hm_sub]) (kk _ _ _ hJ2)
set_option maxHeartbeats 4000000 in
set_option maxRecDepth 100000 in
theorem w_L_fingerprints {C : hm_C} {nm : String} {cA : Nat → ClassId} {k n : Nat} {Q : State → Prop} {M : hm_M} {sc N i b o mo : Nat} {xs : Nat → Int32} {ad : Nat → Nat} {sg : mm_S} {f : Nat → Int64} (X : hm_X C RL cL_law 7 (some .boolean) nm room_1 cA) (S : hm_Scr C sc N xs) (hi : i + 7 ≤ N) (hN : N < 4096) (hk : k + 16 ≤ 601024) (hn : n + 166 ≤ 7293033) (hJ : lw_J cA b o mo ad sg f M) (kk : ∀ (sg9 : mm_S) (f9 : Nat → Int64) (M9 : hm_M), lw_J cA b o mo ad sg9 f9 M9 → hm_W C (k + 16) (n + 166) Q M9 2727 (lw_L sc b mo o i) []) : hm_W C k n Q M 2151 (lw_L sc b mo o i) [] := by
  obtain ⟨hI, hJ1, M0, ta, hM, ho, hQ⟩ := hJ
  refine hr_aload_n X (tL_at tL_law_22_ok 37 rfl) rfl (Or.inr ⟨_, rfl⟩) ?_
  refine lr_arg 1 X S rfl rfl (by decide) (by omega) hN (tL_at tL_law_22_ok 38 rfl) (tL_at tL_law_22_ok 39 rfl) (tL_at tL_law_22_ok 40 rfl) (tL_at tL_law_22_ok 41 rfl) (tL_at tL_law_22_ok 42 rfl) ?_
  refine lr_arg 2 X S rfl rfl (by decide) (by omega) hN (tL_at tL_law_22_ok 43 rfl) (tL_at tL_law_22_ok 44 rfl) (tL_at tL_law_22_ok 45 rfl) (tL_at tL_law_22_ok 46 rfl) (tL_at tL_law_22_ok 47 rfl) ?_
  refine hr_aload_n X (tL_at tL_law_22_ok 48 rfl) rfl (Or.inr ⟨_, rfl⟩) ?_
  refine hr_callSH X kSL_fingerprints (tL_at tL_law_22_ok 49 rfl) (c_L_fingerprints cA hI hJ1 hQ ho (xs (i + 1)) (xs (i + 2))) rfl rfl rfl (Nat.le_of_ble_eq_true rfl) ⟨⟨(Nat.le_of_ble_eq_true rfl), (Nat.le_of_ble_eq_true rfl)⟩, hk, hn⟩ (fun v M1 hp => ?_)
  obtain ⟨rfl, f1, hf1, hQ1⟩ := hp
  obtain ⟨hM1, ho1⟩ := lw_mm hM ho hQ1
  refine hr_istore X (tL_at tL_law_22_ok 50 rfl) (Nat.le_of_ble_eq_true rfl) ?_
  refine hr_aload_n X (tL_at tL_law_22_ok 51 rfl) rfl (Or.inr ⟨_, rfl⟩) ?_
  refine lr_arg 1 X S rfl rfl (by decide) (by omega) hN (tL_at tL_law_22_ok 52 rfl) (tL_at tL_law_22_ok 53 rfl) (tL_at tL_law_22_ok 54 rfl) (tL_at tL_law_22_ok 55 rfl) (tL_at tL_law_22_ok 56 rfl) ?_
  refine lr_arg 2 X S rfl rfl (by decide) (by omega) hN (tL_at tL_law_22_ok 57 rfl) (tL_at tL_law_22_ok 58 rfl) (tL_at tL_law_22_ok 59 rfl) (tL_at tL_law_23_ok 0 rfl) (tL_at tL_law_23_ok 1 rfl) ?_
  refine hr_callV X kCL_221 (tL_at tL_law_23_ok 2 rfl) (c_X6_fingerprints cA hM1 hI (xs (i + 1)) (xs (i + 2))) hM1.1 rfl rfl rfl rfl (Nat.le_of_ble_eq_true rfl) ⟨⟨(Nat.le_of_ble_eq_true rfl), (Nat.le_of_ble_eq_true rfl)⟩, hk, hn⟩ (fun v M2 hp => ?_)
  obtain ⟨ta2, x, hR2, rfl, hth, hx⟩ := hp
  obtain ⟨hJ2, ho2⟩ := lw_ref hI hJ1 hM ho hQ1 hR2
  refine hr_istore X (tL_at tL_law_23_ok 3 rfl) (Nat.le_of_ble_eq_true rfl) ?_
  show hm_W C _ _ _ _ 2188 [some (.ref sc), some (.ref b), some (.ref mo), some (.ref o), some (.int (nI i)), some (.int _), some (.int x)] []
  refine lr_tail X (tL_at tL_law_23_ok 4 rfl) (tL_at tL_law_23_ok 5 rfl) (tL_at tL_law_23_ok 6 rfl) (tL_at tL_law_23_ok 7 rfl) (tL_at tL_law_23_ok 10 rfl) (tL_at tL_law_23_ok 11 rfl) (tL_at tL_law_23_ok 12 rfl) (tL_at tL_law_23_ok 13 rfl) (tL_at tL_law_23_ok 14 rfl) (tL_at tL_law_23_ok 15 rfl) (tL_at tL_law_23_ok 16 rfl) (tL_at tL_law_23_ok 17 rfl) (tL_at tL_law_23_ok 18 rfl) (tL_at tL_law_23_ok 21 rfl) (by decide) hR2 hth ho2 (fun h => (hf1 h).trans (by rw [hx h])) rfl ⟨⟨(Nat.le_of_ble_eq_true rfl), (Nat.le_of_ble_eq_true rfl)⟩, hk, hn⟩ ?_
  exact hr_sub (L2 := lw_L sc b mo o i) (by simp [hm_sub]) (kk _ _ _ hJ2)
set_option maxHeartbeats 4000000 in
set_option maxRecDepth 100000 in
theorem w_L_withPrint {C : hm_C} {nm : String} {cA : Nat → ClassId} {k n : Nat} {Q : State → Prop} {M : hm_M} {sc N i b o mo : Nat} {xs : Nat → Int32} {ad : Nat → Nat} {sg : mm_S} {f : Nat → Int64} (X : hm_X C RL cL_law 7 (some .boolean) nm room_1 cA) (S : hm_Scr C sc N xs) (hi : i + 7 ≤ N) (hN : N < 4096) (hk : k + 16 ≤ 601024) (hn : n + 166 ≤ 7293033) (hJ : lw_J cA b o mo ad sg f M) (kk : ∀ (sg9 : mm_S) (f9 : Nat → Int64) (M9 : hm_M), lw_J cA b o mo ad sg9 f9 M9 → hm_W C (k + 16) (n + 166) Q M9 2727 (lw_L sc b mo o i) []) : hm_W C k n Q M 2219 (lw_L sc b mo o i) [] := by
  obtain ⟨hI, hJ1, M0, ta, hM, ho, hQ⟩ := hJ
  refine hr_aload_n X (tL_at tL_law_23_ok 22 rfl) rfl (Or.inr ⟨_, rfl⟩) ?_
  refine lr_arg 1 X S rfl rfl (by decide) (by omega) hN (tL_at tL_law_23_ok 23 rfl) (tL_at tL_law_23_ok 24 rfl) (tL_at tL_law_23_ok 25 rfl) (tL_at tL_law_23_ok 26 rfl) (tL_at tL_law_23_ok 27 rfl) ?_
  refine lr_arg 2 X S rfl rfl (by decide) (by omega) hN (tL_at tL_law_23_ok 28 rfl) (tL_at tL_law_23_ok 29 rfl) (tL_at tL_law_23_ok 30 rfl) (tL_at tL_law_23_ok 31 rfl) (tL_at tL_law_23_ok 32 rfl) ?_
  refine hr_aload_n X (tL_at tL_law_23_ok 33 rfl) rfl (Or.inr ⟨_, rfl⟩) ?_
  refine hr_callSH X kSL_withPrint (tL_at tL_law_23_ok 34 rfl) (c_L_withPrint cA hI hJ1 hQ ho (xs (i + 1)) (xs (i + 2))) rfl rfl rfl (Nat.le_of_ble_eq_true rfl) ⟨⟨(Nat.le_of_ble_eq_true rfl), (Nat.le_of_ble_eq_true rfl)⟩, hk, hn⟩ (fun v M1 hp => ?_)
  obtain ⟨rfl, f1, hf1, hQ1⟩ := hp
  obtain ⟨hM1, ho1⟩ := lw_mm hM ho hQ1
  refine hr_istore X (tL_at tL_law_23_ok 35 rfl) (Nat.le_of_ble_eq_true rfl) ?_
  refine hr_aload_n X (tL_at tL_law_23_ok 36 rfl) rfl (Or.inr ⟨_, rfl⟩) ?_
  refine lr_arg 1 X S rfl rfl (by decide) (by omega) hN (tL_at tL_law_23_ok 37 rfl) (tL_at tL_law_23_ok 38 rfl) (tL_at tL_law_23_ok 39 rfl) (tL_at tL_law_23_ok 40 rfl) (tL_at tL_law_23_ok 41 rfl) ?_
  refine lr_arg 2 X S rfl rfl (by decide) (by omega) hN (tL_at tL_law_23_ok 42 rfl) (tL_at tL_law_23_ok 43 rfl) (tL_at tL_law_23_ok 44 rfl) (tL_at tL_law_23_ok 45 rfl) (tL_at tL_law_23_ok 46 rfl) ?_
  refine hr_callV X kCL_224 (tL_at tL_law_23_ok 47 rfl) (c_X6_withPrint cA hM1 hI (xs (i + 1)) (xs (i + 2))) hM1.1 rfl rfl rfl rfl (Nat.le_of_ble_eq_true rfl) ⟨⟨(Nat.le_of_ble_eq_true rfl), (Nat.le_of_ble_eq_true rfl)⟩, hk, hn⟩ (fun v M2 hp => ?_)
  obtain ⟨ta2, x, hR2, rfl, hth, hx⟩ := hp
  obtain ⟨hJ2, ho2⟩ := lw_ref hI hJ1 hM ho hQ1 hR2
  refine hr_istore X (tL_at tL_law_23_ok 48 rfl) (Nat.le_of_ble_eq_true rfl) ?_
  show hm_W C _ _ _ _ 2256 [some (.ref sc), some (.ref b), some (.ref mo), some (.ref o), some (.int (nI i)), some (.int _), some (.int x)] []
  refine lr_tail X (tL_at tL_law_23_ok 49 rfl) (tL_at tL_law_23_ok 50 rfl) (tL_at tL_law_23_ok 51 rfl) (tL_at tL_law_23_ok 52 rfl) (tL_at tL_law_23_ok 55 rfl) (tL_at tL_law_23_ok 56 rfl) (tL_at tL_law_23_ok 57 rfl) (tL_at tL_law_23_ok 58 rfl) (tL_at tL_law_23_ok 59 rfl) (tL_at tL_law_24_ok 0 rfl) (tL_at tL_law_24_ok 1 rfl) (tL_at tL_law_24_ok 2 rfl) (tL_at tL_law_24_ok 3 rfl) (tL_at tL_law_24_ok 6 rfl) (by decide) hR2 hth ho2 (fun h => (hf1 h).trans (by rw [hx h])) rfl ⟨⟨(Nat.le_of_ble_eq_true rfl), (Nat.le_of_ble_eq_true rfl)⟩, hk, hn⟩ ?_
  exact hr_sub (L2 := lw_L sc b mo o i) (by simp [hm_sub]) (kk _ _ _ hJ2)
set_option maxHeartbeats 4000000 in
set_option maxRecDepth 100000 in
theorem w_L_likeness {C : hm_C} {nm : String} {cA : Nat → ClassId} {k n : Nat} {Q : State → Prop} {M : hm_M} {sc N i b o mo : Nat} {xs : Nat → Int32} {ad : Nat → Nat} {sg : mm_S} {f : Nat → Int64} (X : hm_X C RL cL_law 7 (some .boolean) nm room_1 cA) (S : hm_Scr C sc N xs) (hi : i + 7 ≤ N) (hN : N < 4096) (hk : k + 16 ≤ 601024) (hn : n + 166 ≤ 7293033) (hJ : lw_J cA b o mo ad sg f M) (kk : ∀ (sg9 : mm_S) (f9 : Nat → Int64) (M9 : hm_M), lw_J cA b o mo ad sg9 f9 M9 → hm_W C (k + 16) (n + 166) Q M9 2727 (lw_L sc b mo o i) []) : hm_W C k n Q M 2287 (lw_L sc b mo o i) [] := by
  obtain ⟨hI, hJ1, M0, ta, hM, ho, hQ⟩ := hJ
  refine hr_aload_n X (tL_at tL_law_24_ok 7 rfl) rfl (Or.inr ⟨_, rfl⟩) ?_
  refine lr_arg 1 X S rfl rfl (by decide) (by omega) hN (tL_at tL_law_24_ok 8 rfl) (tL_at tL_law_24_ok 9 rfl) (tL_at tL_law_24_ok 10 rfl) (tL_at tL_law_24_ok 11 rfl) (tL_at tL_law_24_ok 12 rfl) ?_
  refine lr_arg 2 X S rfl rfl (by decide) (by omega) hN (tL_at tL_law_24_ok 13 rfl) (tL_at tL_law_24_ok 14 rfl) (tL_at tL_law_24_ok 15 rfl) (tL_at tL_law_24_ok 16 rfl) (tL_at tL_law_24_ok 17 rfl) ?_
  refine lr_arg 3 X S rfl rfl (by decide) (by omega) hN (tL_at tL_law_24_ok 18 rfl) (tL_at tL_law_24_ok 19 rfl) (tL_at tL_law_24_ok 20 rfl) (tL_at tL_law_24_ok 21 rfl) (tL_at tL_law_24_ok 22 rfl) ?_
  refine hr_aload_n X (tL_at tL_law_24_ok 23 rfl) rfl (Or.inr ⟨_, rfl⟩) ?_
  refine hr_callSH X kSL_likeness (tL_at tL_law_24_ok 24 rfl) (c_L_likeness cA hI hJ1 hQ ho (xs (i + 1)) (xs (i + 2)) (xs (i + 3))) rfl rfl rfl (Nat.le_of_ble_eq_true rfl) ⟨⟨(Nat.le_of_ble_eq_true rfl), (Nat.le_of_ble_eq_true rfl)⟩, hk, hn⟩ (fun v M1 hp => ?_)
  obtain ⟨rfl, f1, hf1, hQ1⟩ := hp
  obtain ⟨hM1, ho1⟩ := lw_mm hM ho hQ1
  refine hr_istore X (tL_at tL_law_24_ok 25 rfl) (Nat.le_of_ble_eq_true rfl) ?_
  refine hr_aload_n X (tL_at tL_law_24_ok 26 rfl) rfl (Or.inr ⟨_, rfl⟩) ?_
  refine lr_arg 1 X S rfl rfl (by decide) (by omega) hN (tL_at tL_law_24_ok 27 rfl) (tL_at tL_law_24_ok 28 rfl) (tL_at tL_law_24_ok 29 rfl) (tL_at tL_law_24_ok 30 rfl) (tL_at tL_law_24_ok 31 rfl) ?_
  refine lr_arg 2 X S rfl rfl (by decide) (by omega) hN (tL_at tL_law_24_ok 32 rfl) (tL_at tL_law_24_ok 33 rfl) (tL_at tL_law_24_ok 34 rfl) (tL_at tL_law_24_ok 35 rfl) (tL_at tL_law_24_ok 36 rfl) ?_
  refine lr_arg 3 X S rfl rfl (by decide) (by omega) hN (tL_at tL_law_24_ok 37 rfl) (tL_at tL_law_24_ok 38 rfl) (tL_at tL_law_24_ok 39 rfl) (tL_at tL_law_24_ok 40 rfl) (tL_at tL_law_24_ok 41 rfl) ?_
  refine hr_callV X kCL_227 (tL_at tL_law_24_ok 42 rfl) (c_X6_likeness cA hM1 hI (xs (i + 1)) (xs (i + 2)) (xs (i + 3))) hM1.1 rfl rfl rfl rfl (Nat.le_of_ble_eq_true rfl) ⟨⟨(Nat.le_of_ble_eq_true rfl), (Nat.le_of_ble_eq_true rfl)⟩, hk, hn⟩ (fun v M2 hp => ?_)
  obtain ⟨ta2, x, hR2, rfl, hth, hx⟩ := hp
  obtain ⟨hJ2, ho2⟩ := lw_ref hI hJ1 hM ho hQ1 hR2
  refine hr_istore X (tL_at tL_law_24_ok 43 rfl) (Nat.le_of_ble_eq_true rfl) ?_
  show hm_W C _ _ _ _ 2336 [some (.ref sc), some (.ref b), some (.ref mo), some (.ref o), some (.int (nI i)), some (.int _), some (.int x)] []
  refine lr_tail X (tL_at tL_law_24_ok 44 rfl) (tL_at tL_law_24_ok 45 rfl) (tL_at tL_law_24_ok 46 rfl) (tL_at tL_law_24_ok 47 rfl) (tL_at tL_law_24_ok 50 rfl) (tL_at tL_law_24_ok 51 rfl) (tL_at tL_law_24_ok 52 rfl) (tL_at tL_law_24_ok 53 rfl) (tL_at tL_law_24_ok 54 rfl) (tL_at tL_law_24_ok 55 rfl) (tL_at tL_law_24_ok 56 rfl) (tL_at tL_law_24_ok 57 rfl) (tL_at tL_law_24_ok 58 rfl) (tL_at tL_law_25_ok 1 rfl) (by decide) hR2 hth ho2 (fun h => (hf1 h).trans (by rw [hx h])) rfl ⟨⟨(Nat.le_of_ble_eq_true rfl), (Nat.le_of_ble_eq_true rfl)⟩, hk, hn⟩ ?_
  exact hr_sub (L2 := lw_L sc b mo o i) (by simp [hm_sub]) (kk _ _ _ hJ2)
set_option maxHeartbeats 4000000 in
set_option maxRecDepth 100000 in
theorem w_L_pairs {C : hm_C} {nm : String} {cA : Nat → ClassId} {k n : Nat} {Q : State → Prop} {M : hm_M} {sc N i b o mo : Nat} {xs : Nat → Int32} {ad : Nat → Nat} {sg : mm_S} {f : Nat → Int64} (X : hm_X C RL cL_law 7 (some .boolean) nm room_1 cA) (S : hm_Scr C sc N xs) (hi : i + 7 ≤ N) (hN : N < 4096) (hk : k + 16 ≤ 601024) (hn : n + 166 ≤ 7293033) (hJ : lw_J cA b o mo ad sg f M) (kk : ∀ (sg9 : mm_S) (f9 : Nat → Int64) (M9 : hm_M), lw_J cA b o mo ad sg9 f9 M9 → hm_W C (k + 16) (n + 166) Q M9 2727 (lw_L sc b mo o i) []) : hm_W C k n Q M 2367 (lw_L sc b mo o i) [] := by
  obtain ⟨hI, hJ1, M0, ta, hM, ho, hQ⟩ := hJ
  refine hr_aload_n X (tL_at tL_law_25_ok 2 rfl) rfl (Or.inr ⟨_, rfl⟩) ?_
  refine lr_arg 1 X S rfl rfl (by decide) (by omega) hN (tL_at tL_law_25_ok 3 rfl) (tL_at tL_law_25_ok 4 rfl) (tL_at tL_law_25_ok 5 rfl) (tL_at tL_law_25_ok 6 rfl) (tL_at tL_law_25_ok 7 rfl) ?_
  refine hr_aload_n X (tL_at tL_law_25_ok 8 rfl) rfl (Or.inr ⟨_, rfl⟩) ?_
  refine hr_callSH X kSL_pairs (tL_at tL_law_25_ok 9 rfl) (c_L_pairs cA hI hJ1 hQ ho (xs (i + 1))) rfl rfl rfl (Nat.le_of_ble_eq_true rfl) ⟨⟨(Nat.le_of_ble_eq_true rfl), (Nat.le_of_ble_eq_true rfl)⟩, hk, hn⟩ (fun v M1 hp => ?_)
  obtain ⟨rfl, f1, hf1, hQ1⟩ := hp
  obtain ⟨hM1, ho1⟩ := lw_mm hM ho hQ1
  refine hr_istore X (tL_at tL_law_25_ok 10 rfl) (Nat.le_of_ble_eq_true rfl) ?_
  refine hr_aload_n X (tL_at tL_law_25_ok 11 rfl) rfl (Or.inr ⟨_, rfl⟩) ?_
  refine lr_arg 1 X S rfl rfl (by decide) (by omega) hN (tL_at tL_law_25_ok 12 rfl) (tL_at tL_law_25_ok 13 rfl) (tL_at tL_law_25_ok 14 rfl) (tL_at tL_law_25_ok 15 rfl) (tL_at tL_law_25_ok 16 rfl) ?_
  refine hr_callV X kCL_230 (tL_at tL_law_25_ok 17 rfl) (c_X6_pairs cA hM1 hI (xs (i + 1))) hM1.1 rfl rfl rfl rfl (Nat.le_of_ble_eq_true rfl) ⟨⟨(Nat.le_of_ble_eq_true rfl), (Nat.le_of_ble_eq_true rfl)⟩, hk, hn⟩ (fun v M2 hp => ?_)
  obtain ⟨ta2, x, hR2, rfl, hth, hx⟩ := hp
  obtain ⟨hJ2, ho2⟩ := lw_ref hI hJ1 hM ho hQ1 hR2
  refine hr_istore X (tL_at tL_law_25_ok 18 rfl) (Nat.le_of_ble_eq_true rfl) ?_
  show hm_W C _ _ _ _ 2392 [some (.ref sc), some (.ref b), some (.ref mo), some (.ref o), some (.int (nI i)), some (.int _), some (.int x)] []
  refine lr_tail X (tL_at tL_law_25_ok 19 rfl) (tL_at tL_law_25_ok 20 rfl) (tL_at tL_law_25_ok 21 rfl) (tL_at tL_law_25_ok 22 rfl) (tL_at tL_law_25_ok 25 rfl) (tL_at tL_law_25_ok 26 rfl) (tL_at tL_law_25_ok 27 rfl) (tL_at tL_law_25_ok 28 rfl) (tL_at tL_law_25_ok 29 rfl) (tL_at tL_law_25_ok 30 rfl) (tL_at tL_law_25_ok 31 rfl) (tL_at tL_law_25_ok 32 rfl) (tL_at tL_law_25_ok 33 rfl) (tL_at tL_law_25_ok 36 rfl) (by decide) hR2 hth ho2 (fun h => (hf1 h).trans (by rw [hx h])) rfl ⟨⟨(Nat.le_of_ble_eq_true rfl), (Nat.le_of_ble_eq_true rfl)⟩, hk, hn⟩ ?_
  exact hr_sub (L2 := lw_L sc b mo o i) (by simp [hm_sub]) (kk _ _ _ hJ2)
set_option maxHeartbeats 4000000 in
set_option maxRecDepth 100000 in
theorem w_L_pairAt {C : hm_C} {nm : String} {cA : Nat → ClassId} {k n : Nat} {Q : State → Prop} {M : hm_M} {sc N i b o mo : Nat} {xs : Nat → Int32} {ad : Nat → Nat} {sg : mm_S} {f : Nat → Int64} (X : hm_X C RL cL_law 7 (some .boolean) nm room_1 cA) (S : hm_Scr C sc N xs) (hi : i + 7 ≤ N) (hN : N < 4096) (hk : k + 16 ≤ 601024) (hn : n + 166 ≤ 7293033) (hJ : lw_J cA b o mo ad sg f M) (kk : ∀ (sg9 : mm_S) (f9 : Nat → Int64) (M9 : hm_M), lw_J cA b o mo ad sg9 f9 M9 → hm_W C (k + 16) (n + 166) Q M9 2727 (lw_L sc b mo o i) []) : hm_W C k n Q M 2423 (lw_L sc b mo o i) [] := by
  obtain ⟨hI, hJ1, M0, ta, hM, ho, hQ⟩ := hJ
  refine hr_aload_n X (tL_at tL_law_25_ok 37 rfl) rfl (Or.inr ⟨_, rfl⟩) ?_
  refine lr_arg 1 X S rfl rfl (by decide) (by omega) hN (tL_at tL_law_25_ok 38 rfl) (tL_at tL_law_25_ok 39 rfl) (tL_at tL_law_25_ok 40 rfl) (tL_at tL_law_25_ok 41 rfl) (tL_at tL_law_25_ok 42 rfl) ?_
  refine lr_arg 2 X S rfl rfl (by decide) (by omega) hN (tL_at tL_law_25_ok 43 rfl) (tL_at tL_law_25_ok 44 rfl) (tL_at tL_law_25_ok 45 rfl) (tL_at tL_law_25_ok 46 rfl) (tL_at tL_law_25_ok 47 rfl) ?_
  refine hr_aload_n X (tL_at tL_law_25_ok 48 rfl) rfl (Or.inr ⟨_, rfl⟩) ?_
  refine hr_callSH X kSL_pairAt (tL_at tL_law_25_ok 49 rfl) (c_L_pairAt cA hI hJ1 hQ ho (xs (i + 1)) (xs (i + 2))) rfl rfl rfl (Nat.le_of_ble_eq_true rfl) ⟨⟨(Nat.le_of_ble_eq_true rfl), (Nat.le_of_ble_eq_true rfl)⟩, hk, hn⟩ (fun v M1 hp => ?_)
  obtain ⟨rfl, f1, hf1, hQ1⟩ := hp
  obtain ⟨hM1, ho1⟩ := lw_mm hM ho hQ1
  refine hr_istore X (tL_at tL_law_25_ok 50 rfl) (Nat.le_of_ble_eq_true rfl) ?_
  refine hr_aload_n X (tL_at tL_law_25_ok 51 rfl) rfl (Or.inr ⟨_, rfl⟩) ?_
  refine lr_arg 1 X S rfl rfl (by decide) (by omega) hN (tL_at tL_law_25_ok 52 rfl) (tL_at tL_law_25_ok 53 rfl) (tL_at tL_law_25_ok 54 rfl) (tL_at tL_law_25_ok 55 rfl) (tL_at tL_law_25_ok 56 rfl) ?_
  refine lr_arg 2 X S rfl rfl (by decide) (by omega) hN (tL_at tL_law_25_ok 57 rfl) (tL_at tL_law_25_ok 58 rfl) (tL_at tL_law_25_ok 59 rfl) (tL_at tL_law_26_ok 0 rfl) (tL_at tL_law_26_ok 1 rfl) ?_
  refine hr_callV X kCL_233 (tL_at tL_law_26_ok 2 rfl) (c_X6_pairAt cA hM1 hI (xs (i + 1)) (xs (i + 2))) hM1.1 rfl rfl rfl rfl (Nat.le_of_ble_eq_true rfl) ⟨⟨(Nat.le_of_ble_eq_true rfl), (Nat.le_of_ble_eq_true rfl)⟩, hk, hn⟩ (fun v M2 hp => ?_)
  obtain ⟨ta2, x, hR2, rfl, hth, hx⟩ := hp
  obtain ⟨hJ2, ho2⟩ := lw_ref hI hJ1 hM ho hQ1 hR2
  refine hr_istore X (tL_at tL_law_26_ok 3 rfl) (Nat.le_of_ble_eq_true rfl) ?_
  show hm_W C _ _ _ _ 2460 [some (.ref sc), some (.ref b), some (.ref mo), some (.ref o), some (.int (nI i)), some (.int _), some (.int x)] []
  refine lr_tail X (tL_at tL_law_26_ok 4 rfl) (tL_at tL_law_26_ok 5 rfl) (tL_at tL_law_26_ok 6 rfl) (tL_at tL_law_26_ok 7 rfl) (tL_at tL_law_26_ok 10 rfl) (tL_at tL_law_26_ok 11 rfl) (tL_at tL_law_26_ok 12 rfl) (tL_at tL_law_26_ok 13 rfl) (tL_at tL_law_26_ok 14 rfl) (tL_at tL_law_26_ok 15 rfl) (tL_at tL_law_26_ok 16 rfl) (tL_at tL_law_26_ok 17 rfl) (tL_at tL_law_26_ok 18 rfl) (tL_at tL_law_26_ok 21 rfl) (by decide) hR2 hth ho2 (fun h => (hf1 h).trans (by rw [hx h])) rfl ⟨⟨(Nat.le_of_ble_eq_true rfl), (Nat.le_of_ble_eq_true rfl)⟩, hk, hn⟩ ?_
  exact hr_sub (L2 := lw_L sc b mo o i) (by simp [hm_sub]) (kk _ _ _ hJ2)
set_option maxHeartbeats 4000000 in
set_option maxRecDepth 100000 in
theorem w_L_pairsAnew {C : hm_C} {nm : String} {cA : Nat → ClassId} {k n : Nat} {Q : State → Prop} {M : hm_M} {sc N i b o mo : Nat} {xs : Nat → Int32} {ad : Nat → Nat} {sg : mm_S} {f : Nat → Int64} (X : hm_X C RL cL_law 7 (some .boolean) nm room_1 cA) (S : hm_Scr C sc N xs) (hi : i + 7 ≤ N) (hN : N < 4096) (hk : k + 16 ≤ 601024) (hn : n + 166 ≤ 7293033) (hJ : lw_J cA b o mo ad sg f M) (kk : ∀ (sg9 : mm_S) (f9 : Nat → Int64) (M9 : hm_M), lw_J cA b o mo ad sg9 f9 M9 → hm_W C (k + 16) (n + 166) Q M9 2727 (lw_L sc b mo o i) []) : hm_W C k n Q M 2491 (lw_L sc b mo o i) [] := by
  obtain ⟨hI, hJ1, M0, ta, hM, ho, hQ⟩ := hJ
  refine hr_aload_n X (tL_at tL_law_26_ok 22 rfl) rfl (Or.inr ⟨_, rfl⟩) ?_
  refine lr_arg 1 X S rfl rfl (by decide) (by omega) hN (tL_at tL_law_26_ok 23 rfl) (tL_at tL_law_26_ok 24 rfl) (tL_at tL_law_26_ok 25 rfl) (tL_at tL_law_26_ok 26 rfl) (tL_at tL_law_26_ok 27 rfl) ?_
  refine hr_aload_n X (tL_at tL_law_26_ok 28 rfl) rfl (Or.inr ⟨_, rfl⟩) ?_
  refine hr_callSH X kSL_pairsAnew (tL_at tL_law_26_ok 29 rfl) (c_L_pairsAnew cA hI hJ1 hQ ho (xs (i + 1))) rfl rfl rfl (Nat.le_of_ble_eq_true rfl) ⟨⟨(Nat.le_of_ble_eq_true rfl), (Nat.le_of_ble_eq_true rfl)⟩, hk, hn⟩ (fun v M1 hp => ?_)
  obtain ⟨rfl, f1, hf1, hQ1⟩ := hp
  obtain ⟨hM1, ho1⟩ := lw_mm hM ho hQ1
  refine hr_istore X (tL_at tL_law_26_ok 30 rfl) (Nat.le_of_ble_eq_true rfl) ?_
  refine hr_aload_n X (tL_at tL_law_26_ok 31 rfl) rfl (Or.inr ⟨_, rfl⟩) ?_
  refine lr_arg 1 X S rfl rfl (by decide) (by omega) hN (tL_at tL_law_26_ok 32 rfl) (tL_at tL_law_26_ok 33 rfl) (tL_at tL_law_26_ok 34 rfl) (tL_at tL_law_26_ok 35 rfl) (tL_at tL_law_26_ok 36 rfl) ?_
  refine hr_callV X kCL_236 (tL_at tL_law_26_ok 37 rfl) (c_X6_pairsAnew cA hM1 hI (xs (i + 1))) hM1.1 rfl rfl rfl rfl (Nat.le_of_ble_eq_true rfl) ⟨⟨(Nat.le_of_ble_eq_true rfl), (Nat.le_of_ble_eq_true rfl)⟩, hk, hn⟩ (fun v M2 hp => ?_)
  obtain ⟨ta2, x, hR2, rfl, hth, hx⟩ := hp
  obtain ⟨hJ2, ho2⟩ := lw_ref hI hJ1 hM ho hQ1 hR2
  refine hr_istore X (tL_at tL_law_26_ok 38 rfl) (Nat.le_of_ble_eq_true rfl) ?_
  show hm_W C _ _ _ _ 2516 [some (.ref sc), some (.ref b), some (.ref mo), some (.ref o), some (.int (nI i)), some (.int _), some (.int x)] []
  refine lr_tail X (tL_at tL_law_26_ok 39 rfl) (tL_at tL_law_26_ok 40 rfl) (tL_at tL_law_26_ok 41 rfl) (tL_at tL_law_26_ok 42 rfl) (tL_at tL_law_26_ok 45 rfl) (tL_at tL_law_26_ok 46 rfl) (tL_at tL_law_26_ok 47 rfl) (tL_at tL_law_26_ok 48 rfl) (tL_at tL_law_26_ok 49 rfl) (tL_at tL_law_26_ok 50 rfl) (tL_at tL_law_26_ok 51 rfl) (tL_at tL_law_26_ok 52 rfl) (tL_at tL_law_26_ok 53 rfl) (tL_at tL_law_26_ok 56 rfl) (by decide) hR2 hth ho2 (fun h => (hf1 h).trans (by rw [hx h])) rfl ⟨⟨(Nat.le_of_ble_eq_true rfl), (Nat.le_of_ble_eq_true rfl)⟩, hk, hn⟩ ?_
  exact hr_sub (L2 := lw_L sc b mo o i) (by simp [hm_sub]) (kk _ _ _ hJ2)
set_option maxHeartbeats 4000000 in
set_option maxRecDepth 100000 in
theorem w_L_setQuota {C : hm_C} {nm : String} {cA : Nat → ClassId} {k n : Nat} {Q : State → Prop} {M : hm_M} {sc N i b o mo : Nat} {xs : Nat → Int32} {ad : Nat → Nat} {sg : mm_S} {f : Nat → Int64} (X : hm_X C RL cL_law 7 (some .boolean) nm room_1 cA) (S : hm_Scr C sc N xs) (hi : i + 7 ≤ N) (hN : N < 4096) (hk : k + 16 ≤ 601024) (hn : n + 166 ≤ 7293033) (hJ : lw_J cA b o mo ad sg f M) (kk : ∀ (sg9 : mm_S) (f9 : Nat → Int64) (M9 : hm_M), lw_J cA b o mo ad sg9 f9 M9 → hm_W C (k + 16) (n + 166) Q M9 2727 (lw_L sc b mo o i) []) : hm_W C k n Q M 2547 (lw_L sc b mo o i) [] := by
  obtain ⟨hI, hJ1, M0, ta, hM, ho, hQ⟩ := hJ
  refine hr_aload_n X (tL_at tL_law_26_ok 57 rfl) rfl (Or.inr ⟨_, rfl⟩) ?_
  refine lr_arg 1 X S rfl rfl (by decide) (by omega) hN (tL_at tL_law_26_ok 58 rfl) (tL_at tL_law_26_ok 59 rfl) (tL_at tL_law_27_ok 0 rfl) (tL_at tL_law_27_ok 1 rfl) (tL_at tL_law_27_ok 2 rfl) ?_
  refine lr_arg 2 X S rfl rfl (by decide) (by omega) hN (tL_at tL_law_27_ok 3 rfl) (tL_at tL_law_27_ok 4 rfl) (tL_at tL_law_27_ok 5 rfl) (tL_at tL_law_27_ok 6 rfl) (tL_at tL_law_27_ok 7 rfl) ?_
  refine hr_aload_n X (tL_at tL_law_27_ok 8 rfl) rfl (Or.inr ⟨_, rfl⟩) ?_
  refine hr_callSH X kSL_setQuota (tL_at tL_law_27_ok 9 rfl) (c_L_setQuota cA hI hJ1 hQ ho (xs (i + 1)) (xs (i + 2))) rfl rfl rfl (Nat.le_of_ble_eq_true rfl) ⟨⟨(Nat.le_of_ble_eq_true rfl), (Nat.le_of_ble_eq_true rfl)⟩, hk, hn⟩ (fun v M1 hp => ?_)
  obtain ⟨rfl, f1, hf1, hQ1⟩ := hp
  obtain ⟨hM1, ho1⟩ := lw_mm hM ho hQ1
  refine hr_istore X (tL_at tL_law_27_ok 10 rfl) (Nat.le_of_ble_eq_true rfl) ?_
  refine hr_aload_n X (tL_at tL_law_27_ok 11 rfl) rfl (Or.inr ⟨_, rfl⟩) ?_
  refine lr_arg 1 X S rfl rfl (by decide) (by omega) hN (tL_at tL_law_27_ok 12 rfl) (tL_at tL_law_27_ok 13 rfl) (tL_at tL_law_27_ok 14 rfl) (tL_at tL_law_27_ok 15 rfl) (tL_at tL_law_27_ok 16 rfl) ?_
  refine lr_arg 2 X S rfl rfl (by decide) (by omega) hN (tL_at tL_law_27_ok 17 rfl) (tL_at tL_law_27_ok 18 rfl) (tL_at tL_law_27_ok 19 rfl) (tL_at tL_law_27_ok 20 rfl) (tL_at tL_law_27_ok 21 rfl) ?_
  refine hr_callV X kCL_239 (tL_at tL_law_27_ok 22 rfl) (c_X6_setQuota cA hM1 (xs (i + 1)) (xs (i + 2))) hM1.1 rfl rfl rfl rfl (Nat.le_of_ble_eq_true rfl) ⟨⟨(Nat.le_of_ble_eq_true rfl), (Nat.le_of_ble_eq_true rfl)⟩, hk, hn⟩ (fun v M2 hp => ?_)
  obtain ⟨ta2, x, hR2, rfl, hth, hx⟩ := hp
  have hIJ := lw_ij hI hJ1 (lp_quota hI hJ1 (g := xs (i + 1)) (q := xs (i + 2)))
  obtain ⟨hJ2, ho2⟩ := lw_ref hIJ.1 hIJ.2 hM ho hQ1 hR2
  refine hr_istore X (tL_at tL_law_27_ok 23 rfl) (Nat.le_of_ble_eq_true rfl) ?_
  show hm_W C _ _ _ _ 2584 [some (.ref sc), some (.ref b), some (.ref mo), some (.ref o), some (.int (nI i)), some (.int _), some (.int x)] []
  refine lr_tail X (tL_at tL_law_27_ok 24 rfl) (tL_at tL_law_27_ok 25 rfl) (tL_at tL_law_27_ok 26 rfl) (tL_at tL_law_27_ok 27 rfl) (tL_at tL_law_27_ok 30 rfl) (tL_at tL_law_27_ok 31 rfl) (tL_at tL_law_27_ok 32 rfl) (tL_at tL_law_27_ok 33 rfl) (tL_at tL_law_27_ok 34 rfl) (tL_at tL_law_27_ok 35 rfl) (tL_at tL_law_27_ok 36 rfl) (tL_at tL_law_27_ok 37 rfl) (tL_at tL_law_27_ok 38 rfl) (tL_at tL_law_27_ok 41 rfl) (by decide) hR2 hth ho2 (fun h => (hf1 h).trans (by rw [hx h])) rfl ⟨⟨(Nat.le_of_ble_eq_true rfl), (Nat.le_of_ble_eq_true rfl)⟩, hk, hn⟩ ?_
  exact hr_sub (L2 := lw_L sc b mo o i) (by simp [hm_sub]) (kk _ _ _ hJ2)
set_option maxHeartbeats 4000000 in
set_option maxRecDepth 100000 in
theorem w_L_used {C : hm_C} {nm : String} {cA : Nat → ClassId} {k n : Nat} {Q : State → Prop} {M : hm_M} {sc N i b o mo : Nat} {xs : Nat → Int32} {ad : Nat → Nat} {sg : mm_S} {f : Nat → Int64} (X : hm_X C RL cL_law 7 (some .boolean) nm room_1 cA) (S : hm_Scr C sc N xs) (hi : i + 7 ≤ N) (hN : N < 4096) (hk : k + 16 ≤ 601024) (hn : n + 166 ≤ 7293033) (hJ : lw_J cA b o mo ad sg f M) (kk : ∀ (sg9 : mm_S) (f9 : Nat → Int64) (M9 : hm_M), lw_J cA b o mo ad sg9 f9 M9 → hm_W C (k + 16) (n + 166) Q M9 2727 (lw_L sc b mo o i) []) : hm_W C k n Q M 2615 (lw_L sc b mo o i) [] := by
  obtain ⟨hI, hJ1, M0, ta, hM, ho, hQ⟩ := hJ
  refine hr_aload_n X (tL_at tL_law_27_ok 42 rfl) rfl (Or.inr ⟨_, rfl⟩) ?_
  refine lr_arg 1 X S rfl rfl (by decide) (by omega) hN (tL_at tL_law_27_ok 43 rfl) (tL_at tL_law_27_ok 44 rfl) (tL_at tL_law_27_ok 45 rfl) (tL_at tL_law_27_ok 46 rfl) (tL_at tL_law_27_ok 47 rfl) ?_
  refine hr_aload_n X (tL_at tL_law_27_ok 48 rfl) rfl (Or.inr ⟨_, rfl⟩) ?_
  refine hr_callSH X kSL_used (tL_at tL_law_27_ok 49 rfl) (c_L_used cA hI hJ1 hQ ho (xs (i + 1))) rfl rfl rfl (Nat.le_of_ble_eq_true rfl) ⟨⟨(Nat.le_of_ble_eq_true rfl), (Nat.le_of_ble_eq_true rfl)⟩, hk, hn⟩ (fun v M1 hp => ?_)
  obtain ⟨rfl, f1, hf1, hQ1⟩ := hp
  obtain ⟨hM1, ho1⟩ := lw_mm hM ho hQ1
  refine hr_istore X (tL_at tL_law_27_ok 50 rfl) (Nat.le_of_ble_eq_true rfl) ?_
  refine hr_aload_n X (tL_at tL_law_27_ok 51 rfl) rfl (Or.inr ⟨_, rfl⟩) ?_
  refine lr_arg 1 X S rfl rfl (by decide) (by omega) hN (tL_at tL_law_27_ok 52 rfl) (tL_at tL_law_27_ok 53 rfl) (tL_at tL_law_27_ok 54 rfl) (tL_at tL_law_27_ok 55 rfl) (tL_at tL_law_27_ok 56 rfl) ?_
  refine hr_callV X kCL_242 (tL_at tL_law_27_ok 57 rfl) (c_X6_used cA hM1 (xs (i + 1))) hM1.1 rfl rfl rfl rfl (Nat.le_of_ble_eq_true rfl) ⟨⟨(Nat.le_of_ble_eq_true rfl), (Nat.le_of_ble_eq_true rfl)⟩, hk, hn⟩ (fun v M2 hp => ?_)
  obtain ⟨ta2, x, hR2, rfl, hth, hx⟩ := hp
  obtain ⟨hJ2, ho2⟩ := lw_ref hI hJ1 hM ho hQ1 hR2
  refine hr_istore X (tL_at tL_law_27_ok 58 rfl) (Nat.le_of_ble_eq_true rfl) ?_
  show hm_W C _ _ _ _ 2640 [some (.ref sc), some (.ref b), some (.ref mo), some (.ref o), some (.int (nI i)), some (.int _), some (.int x)] []
  refine lr_tail X (tL_at tL_law_27_ok 59 rfl) (tL_at tL_law_28_ok 0 rfl) (tL_at tL_law_28_ok 1 rfl) (tL_at tL_law_28_ok 2 rfl) (tL_at tL_law_28_ok 5 rfl) (tL_at tL_law_28_ok 6 rfl) (tL_at tL_law_28_ok 7 rfl) (tL_at tL_law_28_ok 8 rfl) (tL_at tL_law_28_ok 9 rfl) (tL_at tL_law_28_ok 10 rfl) (tL_at tL_law_28_ok 11 rfl) (tL_at tL_law_28_ok 12 rfl) (tL_at tL_law_28_ok 13 rfl) (tL_at tL_law_28_ok 16 rfl) (by decide) hR2 hth ho2 (fun h => (hf1 h).trans (by rw [hx h])) rfl ⟨⟨(Nat.le_of_ble_eq_true rfl), (Nat.le_of_ble_eq_true rfl)⟩, hk, hn⟩ ?_
  exact hr_sub (L2 := lw_L sc b mo o i) (by simp [hm_sub]) (kk _ _ _ hJ2)
set_option maxHeartbeats 4000000 in
set_option maxRecDepth 100000 in
theorem w_L_usedAnew {C : hm_C} {nm : String} {cA : Nat → ClassId} {k n : Nat} {Q : State → Prop} {M : hm_M} {sc N i b o mo : Nat} {xs : Nat → Int32} {ad : Nat → Nat} {sg : mm_S} {f : Nat → Int64} (X : hm_X C RL cL_law 7 (some .boolean) nm room_1 cA) (S : hm_Scr C sc N xs) (hi : i + 7 ≤ N) (hN : N < 4096) (hk : k + 16 ≤ 601024) (hn : n + 166 ≤ 7293033) (hJ : lw_J cA b o mo ad sg f M) (kk : ∀ (sg9 : mm_S) (f9 : Nat → Int64) (M9 : hm_M), lw_J cA b o mo ad sg9 f9 M9 → hm_W C (k + 16) (n + 166) Q M9 2727 (lw_L sc b mo o i) []) : hm_W C k n Q M 2671 (lw_L sc b mo o i) [] := by
  obtain ⟨hI, hJ1, M0, ta, hM, ho, hQ⟩ := hJ
  refine hr_aload_n X (tL_at tL_law_28_ok 17 rfl) rfl (Or.inr ⟨_, rfl⟩) ?_
  refine lr_arg 1 X S rfl rfl (by decide) (by omega) hN (tL_at tL_law_28_ok 18 rfl) (tL_at tL_law_28_ok 19 rfl) (tL_at tL_law_28_ok 20 rfl) (tL_at tL_law_28_ok 21 rfl) (tL_at tL_law_28_ok 22 rfl) ?_
  refine hr_aload_n X (tL_at tL_law_28_ok 23 rfl) rfl (Or.inr ⟨_, rfl⟩) ?_
  refine hr_callSH X kSL_usedAnew (tL_at tL_law_28_ok 24 rfl) (c_L_usedAnew cA hI hJ1 hQ ho (xs (i + 1))) rfl rfl rfl (Nat.le_of_ble_eq_true rfl) ⟨⟨(Nat.le_of_ble_eq_true rfl), (Nat.le_of_ble_eq_true rfl)⟩, hk, hn⟩ (fun v M1 hp => ?_)
  obtain ⟨rfl, f1, hf1, hQ1⟩ := hp
  obtain ⟨hM1, ho1⟩ := lw_mm hM ho hQ1
  refine hr_istore X (tL_at tL_law_28_ok 25 rfl) (Nat.le_of_ble_eq_true rfl) ?_
  refine hr_aload_n X (tL_at tL_law_28_ok 26 rfl) rfl (Or.inr ⟨_, rfl⟩) ?_
  refine lr_arg 1 X S rfl rfl (by decide) (by omega) hN (tL_at tL_law_28_ok 27 rfl) (tL_at tL_law_28_ok 28 rfl) (tL_at tL_law_28_ok 29 rfl) (tL_at tL_law_28_ok 30 rfl) (tL_at tL_law_28_ok 31 rfl) ?_
  refine hr_callV X kCL_245 (tL_at tL_law_28_ok 32 rfl) (c_X6_usedAnew cA hM1 (xs (i + 1))) hM1.1 rfl rfl rfl rfl (Nat.le_of_ble_eq_true rfl) ⟨⟨(Nat.le_of_ble_eq_true rfl), (Nat.le_of_ble_eq_true rfl)⟩, hk, hn⟩ (fun v M2 hp => ?_)
  obtain ⟨ta2, x, hR2, rfl, hth, hx⟩ := hp
  obtain ⟨hJ2, ho2⟩ := lw_ref hI hJ1 hM ho hQ1 hR2
  refine hr_istore X (tL_at tL_law_28_ok 33 rfl) (Nat.le_of_ble_eq_true rfl) ?_
  show hm_W C _ _ _ _ 2696 [some (.ref sc), some (.ref b), some (.ref mo), some (.ref o), some (.int (nI i)), some (.int _), some (.int x)] []
  refine lr_tail X (tL_at tL_law_28_ok 34 rfl) (tL_at tL_law_28_ok 35 rfl) (tL_at tL_law_28_ok 36 rfl) (tL_at tL_law_28_ok 37 rfl) (tL_at tL_law_28_ok 40 rfl) (tL_at tL_law_28_ok 41 rfl) (tL_at tL_law_28_ok 42 rfl) (tL_at tL_law_28_ok 43 rfl) (tL_at tL_law_28_ok 44 rfl) (tL_at tL_law_28_ok 45 rfl) (tL_at tL_law_28_ok 46 rfl) (tL_at tL_law_28_ok 47 rfl) (tL_at tL_law_28_ok 48 rfl) (tL_at tL_law_28_ok 51 rfl) (by decide) hR2 hth ho2 (fun h => (hf1 h).trans (by rw [hx h])) rfl ⟨⟨(Nat.le_of_ble_eq_true rfl), (Nat.le_of_ble_eq_true rfl)⟩, hk, hn⟩ ?_
  exact hr_sub (L2 := lw_L sc b mo o i) (by simp [hm_sub]) (kk _ _ _ hJ2)
