/-! the law's helper methods -/
abbrev r_L : Room := { frames := 9, cells := 16, slots := 166, locals := 200 }
theorem lb_mark {sg : mm_S} {k : Nat} : (if sg 13 k = 0 then -1 else sp_rMark sg k) = sp_rMark sg k := by
  unfold sp_rMark
  by_cases h : sg 13 k = 0
  · rw [if_pos h, if_neg (by rw [h]; decide)]
  · rw [if_neg h]
theorem lb_k {sg : mm_S} (hI : sp_I sg) {p s : Int32} (hc : (sp_in p 0 11 && sp_isS sg s) = true) : ∃ a b, a < 12 ∧ b < 4 ∧ b < sp_n sg ∧ sp_k p s = 12 * b + a := by
  obtain ⟨a, b, ha, hb, hb4, rfl, rfl, e1, e2⟩ := sp_both_nat hI (show sp_both sg p s = true from hc)
  exact ⟨a, b, ha, hb4, hb, by unfold sp_k; rw [e1, e2]⟩
theorem lb_answer {sg : mm_S} (hI : sp_I sg) {p s : Int32} (hc : (sp_in p 0 11 && sp_isS sg s) = true) : cr_st sg (sp_k p s) = sg 13 (sp_k p s) := by
  obtain ⟨a, b, ha, hb, -, e⟩ := lb_k hI hc
  rw [e]
  unfold cr_st
  rcases hI.i9 b a hb ha with ⟨h, -⟩ | ⟨h | h, -⟩
  · rw [if_pos h, h]
  · rw [if_neg (by rw [h]; decide), if_neg (by rw [h]; decide), h]
  · rw [if_neg (by rw [h]; decide), if_pos h, h]
theorem lb_told {sg : mm_S} (hI : sp_I sg) (hJ : sp_J sg) {p s : Int32} (hc : (sp_in p 0 11 && sp_isS sg s) = true) : (if sg 13 (sp_k p s) = 0 then 0 else sg 16 (sp_k p s)) = sg 16 (sp_k p s) := by
  obtain ⟨a, b, ha, hb, -, e⟩ := lb_k hI hc
  by_cases h : sg 13 (sp_k p s) = 0
  · rw [if_pos h, hJ.2.1 _ (by rw [e]; omega) (by rw [h]; decide)]
  · rw [if_neg h]
theorem lb_fing {sg ta : mm_S} (hI : sp_I sg) (hok : cr_ok sg ta) {p s : Int32} (hc : (sp_in p 0 11 && sp_isS sg s) = true) : (if sg 13 (sp_k p s) = 0 then 0 else ta 2 (sp_k p s)) = nI (sp_prs sg (sp_k p s)).length := by
  obtain ⟨a, b, ha, hb, -, e⟩ := lb_k hI hc
  by_cases h : sg 13 (sp_k p s) = 0
  · rw [if_pos h, sp_prs_0 h]
    rfl
  · rw [if_neg h]
    obtain ⟨l, h1, h2, h3⟩ := cr_pr hok (by rw [e]; omega) h
    rw [h2, (ca_len h1 (sp_prs_nd _ _) h3).length_eq]
theorem lb_used {sg ta : mm_S} (hok : cr_ok sg ta) {g : Int32} (hc : sp_in g 0 3 = true) : ta 0 (nN g) = sp_used sg g := by
  obtain ⟨g, hg, rfl⟩ := sp_in_g hc
  rw [show nN (nI g) = g from nI_clamp (by omega)]
  exact hok.1 g hg
set_option maxHeartbeats 4000000 in
set_option maxRecDepth 100000 in
theorem c_L_addSheet (cA : Nat → ClassId) {sg : mm_S} {M0 M : hm_M} {b o : Nat} {f : Nat → Int64} (hI : sp_I sg) (hJ : sp_J sg) (hQ : ls_Q cA M0 b sg M) (ho : M0 o = some (lw_o cA f)) : hm_HMet cA yL_addSheet cL_addSheet 3 (some .int) [(0, 8, 11, 13)] r_L [.ref b, .ref o] M (lw_H cA M0 b o (sp_w (!decide (sg 1 0 = 4))) (sg 1 0) (if sp_w (!decide (sg 1 0 = 4)) = 0 then sp_addS sg else sg)) := by
  obtain ⟨ta, ad, hR, hok, rfl⟩ := hQ
  refine hm_hmet 1 (by decide +kernel) (fun w h => by simp only [List.mem_cons, List.not_mem_nil, or_false] at h; rcases h with rfl | rfl <;> rfl) rfl (fun C X hC => ?_)
  show hm_W C 0 0 _ M 0 [some (.ref (ad 0 0)), some (.ref o), none] []
  refine hr_aload_n X (tL_at tL_addSheet_ok 0 rfl) rfl (Or.inr ⟨_, rfl⟩) ?_
  refine hr_iconst 0 X (tL_at tL_addSheet_ok 1 rfl) (by decide) ?_
  refine hr_aload_n X (tL_at tL_addSheet_ok 2 rfl) rfl (Or.inr ⟨_, rfl⟩) ?_
  refine hr_callVC X kCL_7 (tL_at tL_addSheet_ok 3 rfl) (c_X5_addSheet cA hR hI hJ hok) hR.c0 rfl rfl rfl rfl (Nat.le_of_ble_eq_true rfl) ⟨⟨(Nat.le_of_ble_eq_true rfl), (Nat.le_of_ble_eq_true rfl)⟩, (Nat.le_of_ble_eq_true rfl), (Nat.le_of_ble_eq_true rfl)⟩ (fun E M1 q9 hp => ?_) (fun v M1 hp => ?_)
  · obtain ⟨hE, hR1⟩ := hp
    have hQ1 : ls_Q cA M0 (ad 0 0) sg M1 := ⟨ta, ad, hR1, hok, rfl⟩
    rcases hE with ⟨hth, rfl⟩
    refine lh_at X hC [] (0, 8, 11, 13) [] rfl (fun _ h => absurd h List.not_mem_nil) (by decide) (by decide) kXL_13 (by decide +kernel) ?_
    show hm_W C _ _ _ _ 11 _ _
    refine hr_astore_n X (tL_at tL_addSheet_ok 7 rfl) (Nat.le_of_ble_eq_true rfl) (Or.inr ⟨_, rfl⟩) ?_
    exact lh_bad X (tL_at tL_addSheet_ok 8 rfl) (by rw [hth]; decide) (by rw [hth]; decide) (tL_at tL_addSheet_ok 9 rfl) ho (by rw [if_neg (by rw [hth]; decide)]; exact hQ1) (Nat.le_of_ble_eq_true rfl) (Nat.le_of_ble_eq_true rfl)
  · obtain ⟨hth, rfl, ta1, ad1, hR1, hok1, had⟩ := hp
    have hQ2 : ls_Q cA M0 (ad 0 0) (if sp_w (!decide (sg 1 0 = 4)) = 0 then sp_addS sg else sg) M1 := by rw [if_pos hth]; exact ⟨ta1, ad1, hR1, hok1, had⟩
    exact lh_end 14 X (tL_at tL_addSheet_ok 4 rfl) (tL_at tL_addSheet_ok 5 rfl) (tL_at tL_addSheet_ok 6 rfl) (by decide) (tL_at tL_addSheet_ok 10 rfl) (tL_at tL_addSheet_ok 11 rfl) ho hth hQ2 (Nat.le_of_ble_eq_true rfl) (Nat.le_of_ble_eq_true rfl)
set_option maxHeartbeats 4000000 in
set_option maxRecDepth 100000 in
theorem c_L_setNumber (cA : Nat → ClassId) {sg : mm_S} {M0 M : hm_M} {b o : Nat} {f : Nat → Int64} (hI : sp_I sg) (hJ : sp_J sg) (hQ : ls_Q cA M0 b sg M) (ho : M0 o = some (lw_o cA f)) (g s t points value slack : Int32) : hm_HMet cA yL_setNumber cL_setNumber 9 (some .int) [(0, 18, 21, 19), (0, 18, 25, 21), (0, 18, 29, 13)] r_L [.ref b, .int g, .int s, .int t, .int points, .int value, .int slack, .ref o] M (lw_H cA M0 b o (sp_thSet sg g s t (sp_areN points value slack) (2)) (sg 5 (nN s)) (if sp_thSet sg g s t (sp_areN points value slack) (2) = 0 then sp_rev sg (nN g) (nN s) (nN t) 0 points value slack else sg)) := by
  obtain ⟨ta, ad, hR, hok, rfl⟩ := hQ
  refine hm_hmet 1 (by decide +kernel) (fun w h => by simp only [List.mem_cons, List.not_mem_nil, or_false] at h; rcases h with rfl | rfl | rfl | rfl | rfl | rfl | rfl | rfl <;> rfl) rfl (fun C X hC => ?_)
  show hm_W C 0 0 _ M 0 [some (.ref (ad 0 0)), some (.int g), some (.int s), some (.int t), some (.int points), some (.int value), some (.int slack), some (.ref o), none] []
  refine hr_aload X (tL_at tL_setNumber_ok 0 rfl) rfl (Or.inr ⟨_, rfl⟩) ?_
  refine hr_iconst 0 X (tL_at tL_setNumber_ok 1 rfl) (by decide) ?_
  refine hr_aload_n X (tL_at tL_setNumber_ok 2 rfl) rfl (Or.inr ⟨_, rfl⟩) ?_
  refine hr_iload_n X (tL_at tL_setNumber_ok 3 rfl) rfl ?_
  refine hr_iload_n X (tL_at tL_setNumber_ok 4 rfl) rfl ?_
  refine hr_iload_n X (tL_at tL_setNumber_ok 5 rfl) rfl ?_
  refine hr_iload X (tL_at tL_setNumber_ok 6 rfl) rfl ?_
  refine hr_iload X (tL_at tL_setNumber_ok 7 rfl) rfl ?_
  refine hr_iload X (tL_at tL_setNumber_ok 8 rfl) rfl ?_
  refine hr_callVC X kCL_15 (tL_at tL_setNumber_ok 9 rfl) (c_X5_setNumber cA hR hI hok g s t points value slack) hR.c0 rfl rfl rfl rfl (Nat.le_of_ble_eq_true rfl) ⟨⟨(Nat.le_of_ble_eq_true rfl), (Nat.le_of_ble_eq_true rfl)⟩, (Nat.le_of_ble_eq_true rfl), (Nat.le_of_ble_eq_true rfl)⟩ (fun E M1 q9 hp => ?_) (fun v M1 hp => ?_)
  · obtain ⟨hE, hR1⟩ := hp
    have hQ1 : ls_Q cA M0 (ad 0 0) sg M1 := ⟨ta, ad, hR1, hok, rfl⟩
    rcases hE with ⟨hth, rfl⟩ | ⟨hth, rfl⟩ | ⟨hth, rfl⟩
    · refine lh_at X hC [] (0, 18, 21, 19) [(0, 18, 25, 21), (0, 18, 29, 13)] rfl (fun _ h => absurd h List.not_mem_nil) (by decide) (by decide) kXL_19 (by decide +kernel) ?_
      show hm_W C _ _ _ _ 21 _ _
      refine hr_astore X (tL_at tL_setNumber_ok 13 rfl) (Nat.le_of_ble_eq_true rfl) (Or.inr ⟨_, rfl⟩) ?_
      exact lh_bad X (tL_at tL_setNumber_ok 14 rfl) (by rw [hth]; decide) (by rw [hth]; decide) (tL_at tL_setNumber_ok 15 rfl) ho (by rw [if_neg (by rw [hth]; decide)]; exact hQ1) (Nat.le_of_ble_eq_true rfl) (Nat.le_of_ble_eq_true rfl)
    · refine lh_at X hC [(0, 18, 21, 19)] (0, 18, 25, 21) [(0, 18, 29, 13)] rfl (List.forall_mem_cons.mpr ⟨⟨by decide, _, kXL_19, by decide +kernel⟩, (fun _ h => absurd h List.not_mem_nil)⟩) (by decide) (by decide) kXL_21 (by decide +kernel) ?_
      show hm_W C _ _ _ _ 25 _ _
      refine hr_astore X (tL_at tL_setNumber_ok 16 rfl) (Nat.le_of_ble_eq_true rfl) (Or.inr ⟨_, rfl⟩) ?_
      exact lh_bad X (tL_at tL_setNumber_ok 17 rfl) (by rw [hth]; decide) (by rw [hth]; decide) (tL_at tL_setNumber_ok 18 rfl) ho (by rw [if_neg (by rw [hth]; decide)]; exact hQ1) (Nat.le_of_ble_eq_true rfl) (Nat.le_of_ble_eq_true rfl)
    · refine lh_at X hC [(0, 18, 21, 19), (0, 18, 25, 21)] (0, 18, 29, 13) [] rfl (List.forall_mem_cons.mpr ⟨⟨by decide, _, kXL_19, by decide +kernel⟩, (List.forall_mem_cons.mpr ⟨⟨by decide, _, kXL_21, by decide +kernel⟩, (fun _ h => absurd h List.not_mem_nil)⟩)⟩) (by decide) (by decide) kXL_13 (by decide +kernel) ?_
      show hm_W C _ _ _ _ 29 _ _
      refine hr_astore X (tL_at tL_setNumber_ok 19 rfl) (Nat.le_of_ble_eq_true rfl) (Or.inr ⟨_, rfl⟩) ?_
      exact lh_bad X (tL_at tL_setNumber_ok 20 rfl) (by rw [hth]; decide) (by rw [hth]; decide) (tL_at tL_setNumber_ok 21 rfl) ho (by rw [if_neg (by rw [hth]; decide)]; exact hQ1) (Nat.le_of_ble_eq_true rfl) (Nat.le_of_ble_eq_true rfl)
  · obtain ⟨hth, rfl, ta1, ad1, hR1, hok1, had⟩ := hp
    have hQ2 : ls_Q cA M0 (ad 0 0) (if sp_thSet sg g s t (sp_areN points value slack) (2) = 0 then sp_rev sg (nN g) (nN s) (nN t) 0 points value slack else sg) M1 := by rw [if_pos hth]; exact ⟨ta1, ad1, hR1, hok1, had⟩
    exact lh_end 33 X (tL_at tL_setNumber_ok 10 rfl) (tL_at tL_setNumber_ok 11 rfl) (tL_at tL_setNumber_ok 12 rfl) (by decide) (tL_at tL_setNumber_ok 22 rfl) (tL_at tL_setNumber_ok 23 rfl) ho hth hQ2 (Nat.le_of_ble_eq_true rfl) (Nat.le_of_ble_eq_true rfl)
set_option maxHeartbeats 4000000 in
set_option maxRecDepth 100000 in
theorem c_L_setChoice (cA : Nat → ClassId) {sg : mm_S} {M0 M : hm_M} {b o : Nat} {f : Nat → Int64} (hI : sp_I sg) (hJ : sp_J sg) (hQ : ls_Q cA M0 b sg M) (ho : M0 o = some (lw_o cA f)) (g s t points signs : Int32) : hm_HMet cA yL_setChoice cL_setChoice 8 (some .int) [(0, 16, 19, 19), (0, 16, 23, 21), (0, 16, 27, 13)] r_L [.ref b, .int g, .int s, .int t, .int points, .int signs, .ref o] M (lw_H cA M0 b o (sp_thSet sg g s t (sp_areC points signs) (1)) (sg 5 (nN s)) (if sp_thSet sg g s t (sp_areC points signs) (1) = 0 then sp_rev sg (nN g) (nN s) (nN t) 1 points signs 0 else sg)) := by
  obtain ⟨ta, ad, hR, hok, rfl⟩ := hQ
  refine hm_hmet 1 (by decide +kernel) (fun w h => by simp only [List.mem_cons, List.not_mem_nil, or_false] at h; rcases h with rfl | rfl | rfl | rfl | rfl | rfl | rfl <;> rfl) rfl (fun C X hC => ?_)
  show hm_W C 0 0 _ M 0 [some (.ref (ad 0 0)), some (.int g), some (.int s), some (.int t), some (.int points), some (.int signs), some (.ref o), none] []
  refine hr_aload X (tL_at tL_setChoice_ok 0 rfl) rfl (Or.inr ⟨_, rfl⟩) ?_
  refine hr_iconst 0 X (tL_at tL_setChoice_ok 1 rfl) (by decide) ?_
  refine hr_aload_n X (tL_at tL_setChoice_ok 2 rfl) rfl (Or.inr ⟨_, rfl⟩) ?_
  refine hr_iload_n X (tL_at tL_setChoice_ok 3 rfl) rfl ?_
  refine hr_iload_n X (tL_at tL_setChoice_ok 4 rfl) rfl ?_
  refine hr_iload_n X (tL_at tL_setChoice_ok 5 rfl) rfl ?_
  refine hr_iload X (tL_at tL_setChoice_ok 6 rfl) rfl ?_
  refine hr_iload X (tL_at tL_setChoice_ok 7 rfl) rfl ?_
  refine hr_callVC X kCL_23 (tL_at tL_setChoice_ok 8 rfl) (c_X5_setChoice cA hR hI hok g s t points signs) hR.c0 rfl rfl rfl rfl (Nat.le_of_ble_eq_true rfl) ⟨⟨(Nat.le_of_ble_eq_true rfl), (Nat.le_of_ble_eq_true rfl)⟩, (Nat.le_of_ble_eq_true rfl), (Nat.le_of_ble_eq_true rfl)⟩ (fun E M1 q9 hp => ?_) (fun v M1 hp => ?_)
  · obtain ⟨hE, hR1⟩ := hp
    have hQ1 : ls_Q cA M0 (ad 0 0) sg M1 := ⟨ta, ad, hR1, hok, rfl⟩
    rcases hE with ⟨hth, rfl⟩ | ⟨hth, rfl⟩ | ⟨hth, rfl⟩
    · refine lh_at X hC [] (0, 16, 19, 19) [(0, 16, 23, 21), (0, 16, 27, 13)] rfl (fun _ h => absurd h List.not_mem_nil) (by decide) (by decide) kXL_19 (by decide +kernel) ?_
      show hm_W C _ _ _ _ 19 _ _
      refine hr_astore X (tL_at tL_setChoice_ok 12 rfl) (Nat.le_of_ble_eq_true rfl) (Or.inr ⟨_, rfl⟩) ?_
      exact lh_bad X (tL_at tL_setChoice_ok 13 rfl) (by rw [hth]; decide) (by rw [hth]; decide) (tL_at tL_setChoice_ok 14 rfl) ho (by rw [if_neg (by rw [hth]; decide)]; exact hQ1) (Nat.le_of_ble_eq_true rfl) (Nat.le_of_ble_eq_true rfl)
    · refine lh_at X hC [(0, 16, 19, 19)] (0, 16, 23, 21) [(0, 16, 27, 13)] rfl (List.forall_mem_cons.mpr ⟨⟨by decide, _, kXL_19, by decide +kernel⟩, (fun _ h => absurd h List.not_mem_nil)⟩) (by decide) (by decide) kXL_21 (by decide +kernel) ?_
      show hm_W C _ _ _ _ 23 _ _
      refine hr_astore X (tL_at tL_setChoice_ok 15 rfl) (Nat.le_of_ble_eq_true rfl) (Or.inr ⟨_, rfl⟩) ?_
      exact lh_bad X (tL_at tL_setChoice_ok 16 rfl) (by rw [hth]; decide) (by rw [hth]; decide) (tL_at tL_setChoice_ok 17 rfl) ho (by rw [if_neg (by rw [hth]; decide)]; exact hQ1) (Nat.le_of_ble_eq_true rfl) (Nat.le_of_ble_eq_true rfl)
    · refine lh_at X hC [(0, 16, 19, 19), (0, 16, 23, 21)] (0, 16, 27, 13) [] rfl (List.forall_mem_cons.mpr ⟨⟨by decide, _, kXL_19, by decide +kernel⟩, (List.forall_mem_cons.mpr ⟨⟨by decide, _, kXL_21, by decide +kernel⟩, (fun _ h => absurd h List.not_mem_nil)⟩)⟩) (by decide) (by decide) kXL_13 (by decide +kernel) ?_
      show hm_W C _ _ _ _ 27 _ _
      refine hr_astore X (tL_at tL_setChoice_ok 18 rfl) (Nat.le_of_ble_eq_true rfl) (Or.inr ⟨_, rfl⟩) ?_
      exact lh_bad X (tL_at tL_setChoice_ok 19 rfl) (by rw [hth]; decide) (by rw [hth]; decide) (tL_at tL_setChoice_ok 20 rfl) ho (by rw [if_neg (by rw [hth]; decide)]; exact hQ1) (Nat.le_of_ble_eq_true rfl) (Nat.le_of_ble_eq_true rfl)
  · obtain ⟨hth, rfl, ta1, ad1, hR1, hok1, had⟩ := hp
    have hQ2 : ls_Q cA M0 (ad 0 0) (if sp_thSet sg g s t (sp_areC points signs) (1) = 0 then sp_rev sg (nN g) (nN s) (nN t) 1 points signs 0 else sg) M1 := by rw [if_pos hth]; exact ⟨ta1, ad1, hR1, hok1, had⟩
    exact lh_end 31 X (tL_at tL_setChoice_ok 9 rfl) (tL_at tL_setChoice_ok 10 rfl) (tL_at tL_setChoice_ok 11 rfl) (by decide) (tL_at tL_setChoice_ok 21 rfl) (tL_at tL_setChoice_ok 22 rfl) ho hth hQ2 (Nat.le_of_ble_eq_true rfl) (Nat.le_of_ble_eq_true rfl)
set_option maxHeartbeats 4000000 in
set_option maxRecDepth 100000 in
theorem c_L_setWords (cA : Nat → ClassId) {sg : mm_S} {M0 M : hm_M} {b o : Nat} {f : Nat → Int64} (hI : sp_I sg) (hJ : sp_J sg) (hQ : ls_Q cA M0 b sg M) (ho : M0 o = some (lw_o cA f)) (g s t points words : Int32) : hm_HMet cA yL_setWords cL_setWords 8 (some .int) [(0, 16, 19, 19), (0, 16, 23, 21), (0, 16, 27, 13)] r_L [.ref b, .int g, .int s, .int t, .int points, .int words, .ref o] M (lw_H cA M0 b o (sp_thSet sg g s t (sp_areW points words) (nI (sp_len words))) (sg 5 (nN s)) (if sp_thSet sg g s t (sp_areW points words) (nI (sp_len words)) = 0 then sp_rev sg (nN g) (nN s) (nN t) 2 points words 0 else sg)) := by
  obtain ⟨ta, ad, hR, hok, rfl⟩ := hQ
  refine hm_hmet 1 (by decide +kernel) (fun w h => by simp only [List.mem_cons, List.not_mem_nil, or_false] at h; rcases h with rfl | rfl | rfl | rfl | rfl | rfl | rfl <;> rfl) rfl (fun C X hC => ?_)
  show hm_W C 0 0 _ M 0 [some (.ref (ad 0 0)), some (.int g), some (.int s), some (.int t), some (.int points), some (.int words), some (.ref o), none] []
  refine hr_aload X (tL_at tL_setWords_ok 0 rfl) rfl (Or.inr ⟨_, rfl⟩) ?_
  refine hr_iconst 0 X (tL_at tL_setWords_ok 1 rfl) (by decide) ?_
  refine hr_aload_n X (tL_at tL_setWords_ok 2 rfl) rfl (Or.inr ⟨_, rfl⟩) ?_
  refine hr_iload_n X (tL_at tL_setWords_ok 3 rfl) rfl ?_
  refine hr_iload_n X (tL_at tL_setWords_ok 4 rfl) rfl ?_
  refine hr_iload_n X (tL_at tL_setWords_ok 5 rfl) rfl ?_
  refine hr_iload X (tL_at tL_setWords_ok 6 rfl) rfl ?_
  refine hr_iload X (tL_at tL_setWords_ok 7 rfl) rfl ?_
  refine hr_callVC X kCL_27 (tL_at tL_setWords_ok 8 rfl) (c_X5_setWords cA hR hI hok g s t points words) hR.c0 rfl rfl rfl rfl (Nat.le_of_ble_eq_true rfl) ⟨⟨(Nat.le_of_ble_eq_true rfl), (Nat.le_of_ble_eq_true rfl)⟩, (Nat.le_of_ble_eq_true rfl), (Nat.le_of_ble_eq_true rfl)⟩ (fun E M1 q9 hp => ?_) (fun v M1 hp => ?_)
  · obtain ⟨hE, hR1⟩ := hp
    have hQ1 : ls_Q cA M0 (ad 0 0) sg M1 := ⟨ta, ad, hR1, hok, rfl⟩
    rcases hE with ⟨hth, rfl⟩ | ⟨hth, rfl⟩ | ⟨hth, rfl⟩
    · refine lh_at X hC [] (0, 16, 19, 19) [(0, 16, 23, 21), (0, 16, 27, 13)] rfl (fun _ h => absurd h List.not_mem_nil) (by decide) (by decide) kXL_19 (by decide +kernel) ?_
      show hm_W C _ _ _ _ 19 _ _
      refine hr_astore X (tL_at tL_setWords_ok 12 rfl) (Nat.le_of_ble_eq_true rfl) (Or.inr ⟨_, rfl⟩) ?_
      exact lh_bad X (tL_at tL_setWords_ok 13 rfl) (by rw [hth]; decide) (by rw [hth]; decide) (tL_at tL_setWords_ok 14 rfl) ho (by rw [if_neg (by rw [hth]; decide)]; exact hQ1) (Nat.le_of_ble_eq_true rfl) (Nat.le_of_ble_eq_true rfl)
    · refine lh_at X hC [(0, 16, 19, 19)] (0, 16, 23, 21) [(0, 16, 27, 13)] rfl (List.forall_mem_cons.mpr ⟨⟨by decide, _, kXL_19, by decide +kernel⟩, (fun _ h => absurd h List.not_mem_nil)⟩) (by decide) (by decide) kXL_21 (by decide +kernel) ?_
      show hm_W C _ _ _ _ 23 _ _
      refine hr_astore X (tL_at tL_setWords_ok 15 rfl) (Nat.le_of_ble_eq_true rfl) (Or.inr ⟨_, rfl⟩) ?_
      exact lh_bad X (tL_at tL_setWords_ok 16 rfl) (by rw [hth]; decide) (by rw [hth]; decide) (tL_at tL_setWords_ok 17 rfl) ho (by rw [if_neg (by rw [hth]; decide)]; exact hQ1) (Nat.le_of_ble_eq_true rfl) (Nat.le_of_ble_eq_true rfl)
    · refine lh_at X hC [(0, 16, 19, 19), (0, 16, 23, 21)] (0, 16, 27, 13) [] rfl (List.forall_mem_cons.mpr ⟨⟨by decide, _, kXL_19, by decide +kernel⟩, (List.forall_mem_cons.mpr ⟨⟨by decide, _, kXL_21, by decide +kernel⟩, (fun _ h => absurd h List.not_mem_nil)⟩)⟩) (by decide) (by decide) kXL_13 (by decide +kernel) ?_
      show hm_W C _ _ _ _ 27 _ _
      refine hr_astore X (tL_at tL_setWords_ok 18 rfl) (Nat.le_of_ble_eq_true rfl) (Or.inr ⟨_, rfl⟩) ?_
      exact lh_bad X (tL_at tL_setWords_ok 19 rfl) (by rw [hth]; decide) (by rw [hth]; decide) (tL_at tL_setWords_ok 20 rfl) ho (by rw [if_neg (by rw [hth]; decide)]; exact hQ1) (Nat.le_of_ble_eq_true rfl) (Nat.le_of_ble_eq_true rfl)
  · obtain ⟨hth, rfl, ta1, ad1, hR1, hok1, had⟩ := hp
    have hQ2 : ls_Q cA M0 (ad 0 0) (if sp_thSet sg g s t (sp_areW points words) (nI (sp_len words)) = 0 then sp_rev sg (nN g) (nN s) (nN t) 2 points words 0 else sg) M1 := by rw [if_pos hth]; exact ⟨ta1, ad1, hR1, hok1, had⟩
    exact lh_end 31 X (tL_at tL_setWords_ok 9 rfl) (tL_at tL_setWords_ok 10 rfl) (tL_at tL_setWords_ok 11 rfl) (by decide) (tL_at tL_setWords_ok 21 rfl) (tL_at tL_setWords_ok 22 rfl) ho hth hQ2 (Nat.le_of_ble_eq_true rfl) (Nat.le_of_ble_eq_true rfl)
set_option maxHeartbeats 4000000 in
set_option maxRecDepth 100000 in
theorem c_L_drop (cA : Nat → ClassId) {sg : mm_S} {M0 M : hm_M} {b o : Nat} {f : Nat → Int64} (hI : sp_I sg) (hJ : sp_J sg) (hQ : ls_Q cA M0 b sg M) (ho : M0 o = some (lw_o cA f)) (g s t : Int32) : hm_HMet cA yL_drop cL_drop 6 (some .int) [(0, 12, 15, 19), (0, 12, 19, 13)] r_L [.ref b, .int g, .int s, .int t, .ref o] M (lw_H cA M0 b o (sp_thDrop sg g s t) (sg 5 (nN s)) (if sp_thDrop sg g s t = 0 then sp_rev sg (nN g) (nN s) (nN t) 3 0 0 0 else sg)) := by
  obtain ⟨ta, ad, hR, hok, rfl⟩ := hQ
  refine hm_hmet 1 (by decide +kernel) (fun w h => by simp only [List.mem_cons, List.not_mem_nil, or_false] at h; rcases h with rfl | rfl | rfl | rfl | rfl <;> rfl) rfl (fun C X hC => ?_)
  show hm_W C 0 0 _ M 0 [some (.ref (ad 0 0)), some (.int g), some (.int s), some (.int t), some (.ref o), none] []
  refine hr_aload X (tL_at tL_drop_ok 0 rfl) rfl (Or.inr ⟨_, rfl⟩) ?_
  refine hr_iconst 0 X (tL_at tL_drop_ok 1 rfl) (by decide) ?_
  refine hr_aload_n X (tL_at tL_drop_ok 2 rfl) rfl (Or.inr ⟨_, rfl⟩) ?_
  refine hr_iload_n X (tL_at tL_drop_ok 3 rfl) rfl ?_
  refine hr_iload_n X (tL_at tL_drop_ok 4 rfl) rfl ?_
  refine hr_iload_n X (tL_at tL_drop_ok 5 rfl) rfl ?_
  refine hr_callVC X kCL_30 (tL_at tL_drop_ok 6 rfl) (c_X5_drop cA hR hI hok g s t) hR.c0 rfl rfl rfl rfl (Nat.le_of_ble_eq_true rfl) ⟨⟨(Nat.le_of_ble_eq_true rfl), (Nat.le_of_ble_eq_true rfl)⟩, (Nat.le_of_ble_eq_true rfl), (Nat.le_of_ble_eq_true rfl)⟩ (fun E M1 q9 hp => ?_) (fun v M1 hp => ?_)
  · obtain ⟨hE, hR1⟩ := hp
    have hQ1 : ls_Q cA M0 (ad 0 0) sg M1 := ⟨ta, ad, hR1, hok, rfl⟩
    rcases hE with ⟨hth, rfl⟩ | ⟨hth, rfl⟩
    · refine lh_at X hC [] (0, 12, 15, 19) [(0, 12, 19, 13)] rfl (fun _ h => absurd h List.not_mem_nil) (by decide) (by decide) kXL_19 (by decide +kernel) ?_
      show hm_W C _ _ _ _ 15 _ _
      refine hr_astore X (tL_at tL_drop_ok 10 rfl) (Nat.le_of_ble_eq_true rfl) (Or.inr ⟨_, rfl⟩) ?_
      exact lh_bad X (tL_at tL_drop_ok 11 rfl) (by rw [hth]; decide) (by rw [hth]; decide) (tL_at tL_drop_ok 12 rfl) ho (by rw [if_neg (by rw [hth]; decide)]; exact hQ1) (Nat.le_of_ble_eq_true rfl) (Nat.le_of_ble_eq_true rfl)
    · refine lh_at X hC [(0, 12, 15, 19)] (0, 12, 19, 13) [] rfl (List.forall_mem_cons.mpr ⟨⟨by decide, _, kXL_19, by decide +kernel⟩, (fun _ h => absurd h List.not_mem_nil)⟩) (by decide) (by decide) kXL_13 (by decide +kernel) ?_
      show hm_W C _ _ _ _ 19 _ _
      refine hr_astore X (tL_at tL_drop_ok 13 rfl) (Nat.le_of_ble_eq_true rfl) (Or.inr ⟨_, rfl⟩) ?_
      exact lh_bad X (tL_at tL_drop_ok 14 rfl) (by rw [hth]; decide) (by rw [hth]; decide) (tL_at tL_drop_ok 15 rfl) ho (by rw [if_neg (by rw [hth]; decide)]; exact hQ1) (Nat.le_of_ble_eq_true rfl) (Nat.le_of_ble_eq_true rfl)
  · obtain ⟨hth, rfl, ta1, ad1, hR1, hok1, had⟩ := hp
    have hQ2 : ls_Q cA M0 (ad 0 0) (if sp_thDrop sg g s t = 0 then sp_rev sg (nN g) (nN s) (nN t) 3 0 0 0 else sg) M1 := by rw [if_pos hth]; exact ⟨ta1, ad1, hR1, hok1, had⟩
    exact lh_end 23 X (tL_at tL_drop_ok 7 rfl) (tL_at tL_drop_ok 8 rfl) (tL_at tL_drop_ok 9 rfl) (by decide) (tL_at tL_drop_ok 16 rfl) (tL_at tL_drop_ok 17 rfl) ho hth hQ2 (Nat.le_of_ble_eq_true rfl) (Nat.le_of_ble_eq_true rfl)
set_option maxHeartbeats 4000000 in
set_option maxRecDepth 100000 in
theorem c_L_adopt (cA : Nat → ClassId) {sg : mm_S} {M0 M : hm_M} {b o : Nat} {f : Nat → Int64} (hI : sp_I sg) (hJ : sp_J sg) (hQ : ls_Q cA M0 b sg M) (ho : M0 o = some (lw_o cA f)) (g s v : Int32) : hm_HMet cA yL_adopt cL_adopt 6 (some .int) [(0, 12, 15, 19)] r_L [.ref b, .int g, .int s, .int v, .ref o] M (lw_H cA M0 b o (sp_thAdopt sg g s v) (sg 10 (4 * nN s + nN g)) (if sp_thAdopt sg g s v = 0 then mm_up sg 10 (4 * nN s + nN g) v else sg)) := by
  obtain ⟨ta, ad, hR, hok, rfl⟩ := hQ
  refine hm_hmet 1 (by decide +kernel) (fun w h => by simp only [List.mem_cons, List.not_mem_nil, or_false] at h; rcases h with rfl | rfl | rfl | rfl | rfl <;> rfl) rfl (fun C X hC => ?_)
  show hm_W C 0 0 _ M 0 [some (.ref (ad 0 0)), some (.int g), some (.int s), some (.int v), some (.ref o), none] []
  refine hr_aload X (tL_at tL_adopt_ok 0 rfl) rfl (Or.inr ⟨_, rfl⟩) ?_
  refine hr_iconst 0 X (tL_at tL_adopt_ok 1 rfl) (by decide) ?_
  refine hr_aload_n X (tL_at tL_adopt_ok 2 rfl) rfl (Or.inr ⟨_, rfl⟩) ?_
  refine hr_iload_n X (tL_at tL_adopt_ok 3 rfl) rfl ?_
  refine hr_iload_n X (tL_at tL_adopt_ok 4 rfl) rfl ?_
  refine hr_iload_n X (tL_at tL_adopt_ok 5 rfl) rfl ?_
  refine hr_callVC X kCL_34 (tL_at tL_adopt_ok 6 rfl) (c_X5_adopt cA hR hI g s v) hR.c0 rfl rfl rfl rfl (Nat.le_of_ble_eq_true rfl) ⟨⟨(Nat.le_of_ble_eq_true rfl), (Nat.le_of_ble_eq_true rfl)⟩, (Nat.le_of_ble_eq_true rfl), (Nat.le_of_ble_eq_true rfl)⟩ (fun E M1 q9 hp => ?_) (fun v M1 hp => ?_)
  · obtain ⟨hE, rfl⟩ := hp
    have hQ1 : ls_Q cA M0 (ad 0 0) sg M := ⟨ta, ad, hR, hok, rfl⟩
    rcases hE with ⟨hth, rfl⟩
    refine lh_at X hC [] (0, 12, 15, 19) [] rfl (fun _ h => absurd h List.not_mem_nil) (by decide) (by decide) kXL_19 (by decide +kernel) ?_
    show hm_W C _ _ _ _ 15 _ _
    refine hr_astore X (tL_at tL_adopt_ok 10 rfl) (Nat.le_of_ble_eq_true rfl) (Or.inr ⟨_, rfl⟩) ?_
    exact lh_bad X (tL_at tL_adopt_ok 11 rfl) (by rw [hth]; decide) (by rw [hth]; decide) (tL_at tL_adopt_ok 12 rfl) ho (by rw [if_neg (by rw [hth]; decide)]; exact hQ1) (Nat.le_of_ble_eq_true rfl) (Nat.le_of_ble_eq_true rfl)
  · obtain ⟨hth, rfl, hR1⟩ := hp
    have hQ2 : ls_Q cA M0 (ad 0 0) (if sp_thAdopt sg g s v = 0 then mm_up sg 10 (4 * nN s + nN g) v else sg) M1 := by rw [if_pos hth]; exact ⟨ta, ad, hR1, cr_ok.adp hI hok, rfl⟩
    exact lh_end 19 X (tL_at tL_adopt_ok 7 rfl) (tL_at tL_adopt_ok 8 rfl) (tL_at tL_adopt_ok 9 rfl) (by decide) (tL_at tL_adopt_ok 13 rfl) (tL_at tL_adopt_ok 14 rfl) ho hth hQ2 (Nat.le_of_ble_eq_true rfl) (Nat.le_of_ble_eq_true rfl)
set_option maxHeartbeats 4000000 in
set_option maxRecDepth 100000 in
theorem c_L_fold (cA : Nat → ClassId) {sg : mm_S} {M0 M : hm_M} {b o : Nat} {f : Nat → Int64} (hI : sp_I sg) (hJ : sp_J sg) (hQ : ls_Q cA M0 b sg M) (ho : M0 o = some (lw_o cA f)) (s v : Int32) : hm_HMet cA yL_fold cL_fold 5 (some .int) [(0, 10, 13, 19), (0, 10, 17, 13)] r_L [.ref b, .int s, .int v, .ref o] M (lw_H cA M0 b o (sp_thFold sg s v) (sp_pass sg (16 * nN s + nN v) (sp_toO sg (nN s) (nN v)) false) (if sp_thFold sg s v = 0 then sp_foldS sg (nN s) (nN v) else sg)) := by
  obtain ⟨ta, ad, hR, hok, rfl⟩ := hQ
  refine hm_hmet 1 (by decide +kernel) (fun w h => by simp only [List.mem_cons, List.not_mem_nil, or_false] at h; rcases h with rfl | rfl | rfl | rfl <;> rfl) rfl (fun C X hC => ?_)
  show hm_W C 0 0 _ M 0 [some (.ref (ad 0 0)), some (.int s), some (.int v), some (.ref o), none] []
  refine hr_aload_n X (tL_at tL_fold_ok 0 rfl) rfl (Or.inr ⟨_, rfl⟩) ?_
  refine hr_iconst 0 X (tL_at tL_fold_ok 1 rfl) (by decide) ?_
  refine hr_aload_n X (tL_at tL_fold_ok 2 rfl) rfl (Or.inr ⟨_, rfl⟩) ?_
  refine hr_iload_n X (tL_at tL_fold_ok 3 rfl) rfl ?_
  refine hr_iload_n X (tL_at tL_fold_ok 4 rfl) rfl ?_
  refine hr_callVC X kCL_37 (tL_at tL_fold_ok 5 rfl) (c_X5_fold cA hR hI hok s v) hR.c0 rfl rfl rfl rfl (Nat.le_of_ble_eq_true rfl) ⟨⟨(Nat.le_of_ble_eq_true rfl), (Nat.le_of_ble_eq_true rfl)⟩, (Nat.le_of_ble_eq_true rfl), (Nat.le_of_ble_eq_true rfl)⟩ (fun E M1 q9 hp => ?_) (fun v M1 hp => ?_)
  · obtain ⟨hE, hR1⟩ := hp
    have hQ1 : ls_Q cA M0 (ad 0 0) sg M1 := ⟨ta, ad, hR1, hok, rfl⟩
    rcases hE with ⟨hth, rfl⟩ | ⟨hth, rfl⟩
    · refine lh_at X hC [] (0, 10, 13, 19) [(0, 10, 17, 13)] rfl (fun _ h => absurd h List.not_mem_nil) (by decide) (by decide) kXL_19 (by decide +kernel) ?_
      show hm_W C _ _ _ _ 13 _ _
      refine hr_astore X (tL_at tL_fold_ok 9 rfl) (Nat.le_of_ble_eq_true rfl) (Or.inr ⟨_, rfl⟩) ?_
      exact lh_bad X (tL_at tL_fold_ok 10 rfl) (by rw [hth]; decide) (by rw [hth]; decide) (tL_at tL_fold_ok 11 rfl) ho (by rw [if_neg (by rw [hth]; decide)]; exact hQ1) (Nat.le_of_ble_eq_true rfl) (Nat.le_of_ble_eq_true rfl)
    · refine lh_at X hC [(0, 10, 13, 19)] (0, 10, 17, 13) [] rfl (List.forall_mem_cons.mpr ⟨⟨by decide, _, kXL_19, by decide +kernel⟩, (fun _ h => absurd h List.not_mem_nil)⟩) (by decide) (by decide) kXL_13 (by decide +kernel) ?_
      show hm_W C _ _ _ _ 17 _ _
      refine hr_astore X (tL_at tL_fold_ok 12 rfl) (Nat.le_of_ble_eq_true rfl) (Or.inr ⟨_, rfl⟩) ?_
      exact lh_bad X (tL_at tL_fold_ok 13 rfl) (by rw [hth]; decide) (by rw [hth]; decide) (tL_at tL_fold_ok 14 rfl) ho (by rw [if_neg (by rw [hth]; decide)]; exact hQ1) (Nat.le_of_ble_eq_true rfl) (Nat.le_of_ble_eq_true rfl)
  · obtain ⟨hth, rfl, ta1, ad1, hR1, hok1, had⟩ := hp
    have hQ2 : ls_Q cA M0 (ad 0 0) (if sp_thFold sg s v = 0 then sp_foldS sg (nN s) (nN v) else sg) M1 := by rw [if_pos hth]; exact ⟨ta1, ad1, hR1, hok1, had⟩
    exact lh_end 21 X (tL_at tL_fold_ok 6 rfl) (tL_at tL_fold_ok 7 rfl) (tL_at tL_fold_ok 8 rfl) (by decide) (tL_at tL_fold_ok 15 rfl) (tL_at tL_fold_ok 16 rfl) ho hth hQ2 (Nat.le_of_ble_eq_true rfl) (Nat.le_of_ble_eq_true rfl)
set_option maxHeartbeats 4000000 in
set_option maxRecDepth 100000 in
theorem c_L_versions (cA : Nat → ClassId) {sg : mm_S} {M0 M : hm_M} {b o : Nat} {f : Nat → Int64} (hI : sp_I sg) (hJ : sp_J sg) (hQ : ls_Q cA M0 b sg M) (ho : M0 o = some (lw_o cA f)) (s : Int32) : hm_HMet cA yL_versions cL_versions 4 (some .int) [(0, 9, 12, 19)] r_L [.ref b, .int s, .ref o] M (lw_H cA M0 b o (sp_w (sp_isS sg s)) (sp_vers sg (nN s)) sg) := by
  obtain ⟨ta, ad, hR, hok, rfl⟩ := hQ
  refine hm_hmet 1 (by decide +kernel) (fun w h => by simp only [List.mem_cons, List.not_mem_nil, or_false] at h; rcases h with rfl | rfl | rfl <;> rfl) rfl (fun C X hC => ?_)
  show hm_W C 0 0 _ M 0 [some (.ref (ad 0 0)), some (.int s), some (.ref o), none] []
  refine hr_aload_n X (tL_at tL_versions_ok 0 rfl) rfl (Or.inr ⟨_, rfl⟩) ?_
  refine hr_iconst 0 X (tL_at tL_versions_ok 1 rfl) (by decide) ?_
  refine hr_aload_n X (tL_at tL_versions_ok 2 rfl) rfl (Or.inr ⟨_, rfl⟩) ?_
  refine hr_iload_n X (tL_at tL_versions_ok 3 rfl) rfl ?_
  refine hr_callVC X kCL_41 (tL_at tL_versions_ok 4 rfl) (c_X5_versions cA hR hI s) hR.c0 rfl rfl rfl rfl (Nat.le_of_ble_eq_true rfl) ⟨⟨(Nat.le_of_ble_eq_true rfl), (Nat.le_of_ble_eq_true rfl)⟩, (Nat.le_of_ble_eq_true rfl), (Nat.le_of_ble_eq_true rfl)⟩ (fun E M1 q9 hp => ?_) (fun v M1 hp => ?_)
  · obtain ⟨hc, rfl, rfl⟩ := hp
    have hth : sp_w (sp_isS sg s) = 1 := by rw [hc]; rfl
    have hQ1 : ls_Q cA M0 (ad 0 0) sg M := ⟨ta, ad, hR, hok, rfl⟩
    refine lh_at X hC [] (0, 9, 12, 19) [] rfl (fun _ h => absurd h List.not_mem_nil) (by decide) (by decide) kXL_19 (by decide +kernel) ?_
    show hm_W C _ _ _ _ 12 _ _
    refine hr_astore_n X (tL_at tL_versions_ok 8 rfl) (Nat.le_of_ble_eq_true rfl) (Or.inr ⟨_, rfl⟩) ?_
    exact lh_bad X (tL_at tL_versions_ok 9 rfl) (by rw [hth]; decide) (by rw [hth]; decide) (tL_at tL_versions_ok 10 rfl) ho hQ1 (Nat.le_of_ble_eq_true rfl) (Nat.le_of_ble_eq_true rfl)
  · obtain ⟨hc, rfl, rfl⟩ := hp
    have hth : sp_w (sp_isS sg s) = 0 := sp_w_0.mpr hc
    have hQ2 : ls_Q cA M0 (ad 0 0) sg M := ⟨ta, ad, hR, hok, rfl⟩
    exact lh_end 15 X (tL_at tL_versions_ok 5 rfl) (tL_at tL_versions_ok 6 rfl) (tL_at tL_versions_ok 7 rfl) (by decide) (tL_at tL_versions_ok 11 rfl) (tL_at tL_versions_ok 12 rfl) ho hth hQ2 (Nat.le_of_ble_eq_true rfl) (Nat.le_of_ble_eq_true rfl)
set_option maxHeartbeats 4000000 in
set_option maxRecDepth 100000 in
theorem c_L_head (cA : Nat → ClassId) {sg : mm_S} {M0 M : hm_M} {b o : Nat} {f : Nat → Int64} (hI : sp_I sg) (hJ : sp_J sg) (hQ : ls_Q cA M0 b sg M) (ho : M0 o = some (lw_o cA f)) (g s : Int32) : hm_HMet cA yL_head cL_head 5 (some .int) [(0, 10, 13, 19)] r_L [.ref b, .int g, .int s, .ref o] M (lw_H cA M0 b o (sp_w (sp_in g 0 3 && sp_isS sg s)) (sg 10 (4 * nN s + nN g)) sg) := by
  obtain ⟨ta, ad, hR, hok, rfl⟩ := hQ
  refine hm_hmet 1 (by decide +kernel) (fun w h => by simp only [List.mem_cons, List.not_mem_nil, or_false] at h; rcases h with rfl | rfl | rfl | rfl <;> rfl) rfl (fun C X hC => ?_)
  show hm_W C 0 0 _ M 0 [some (.ref (ad 0 0)), some (.int g), some (.int s), some (.ref o), none] []
  refine hr_aload_n X (tL_at tL_head_ok 0 rfl) rfl (Or.inr ⟨_, rfl⟩) ?_
  refine hr_iconst 0 X (tL_at tL_head_ok 1 rfl) (by decide) ?_
  refine hr_aload_n X (tL_at tL_head_ok 2 rfl) rfl (Or.inr ⟨_, rfl⟩) ?_
  refine hr_iload_n X (tL_at tL_head_ok 3 rfl) rfl ?_
  refine hr_iload_n X (tL_at tL_head_ok 4 rfl) rfl ?_
  refine hr_callVC X kCL_45 (tL_at tL_head_ok 5 rfl) (c_X5_head cA hR hI g s) hR.c0 rfl rfl rfl rfl (Nat.le_of_ble_eq_true rfl) ⟨⟨(Nat.le_of_ble_eq_true rfl), (Nat.le_of_ble_eq_true rfl)⟩, (Nat.le_of_ble_eq_true rfl), (Nat.le_of_ble_eq_true rfl)⟩ (fun E M1 q9 hp => ?_) (fun v M1 hp => ?_)
  · obtain ⟨hc, rfl, rfl⟩ := hp
    have hth : sp_w (sp_in g 0 3 && sp_isS sg s) = 1 := by rw [hc]; rfl
    have hQ1 : ls_Q cA M0 (ad 0 0) sg M := ⟨ta, ad, hR, hok, rfl⟩
    refine lh_at X hC [] (0, 10, 13, 19) [] rfl (fun _ h => absurd h List.not_mem_nil) (by decide) (by decide) kXL_19 (by decide +kernel) ?_
    show hm_W C _ _ _ _ 13 _ _
    refine hr_astore X (tL_at tL_head_ok 9 rfl) (Nat.le_of_ble_eq_true rfl) (Or.inr ⟨_, rfl⟩) ?_
    exact lh_bad X (tL_at tL_head_ok 10 rfl) (by rw [hth]; decide) (by rw [hth]; decide) (tL_at tL_head_ok 11 rfl) ho hQ1 (Nat.le_of_ble_eq_true rfl) (Nat.le_of_ble_eq_true rfl)
  · obtain ⟨hc, rfl, rfl⟩ := hp
    have hth : sp_w (sp_in g 0 3 && sp_isS sg s) = 0 := sp_w_0.mpr hc
    have hQ2 : ls_Q cA M0 (ad 0 0) sg M := ⟨ta, ad, hR, hok, rfl⟩
    exact lh_end 17 X (tL_at tL_head_ok 6 rfl) (tL_at tL_head_ok 7 rfl) (tL_at tL_head_ok 8 rfl) (by decide) (tL_at tL_head_ok 12 rfl) (tL_at tL_head_ok 13 rfl) ho hth hQ2 (Nat.le_of_ble_eq_true rfl) (Nat.le_of_ble_eq_true rfl)
set_option maxHeartbeats 4000000 in
set_option maxRecDepth 100000 in
theorem c_L_parent (cA : Nat → ClassId) {sg : mm_S} {M0 M : hm_M} {b o : Nat} {f : Nat → Int64} (hI : sp_I sg) (hJ : sp_J sg) (hQ : ls_Q cA M0 b sg M) (ho : M0 o = some (lw_o cA f)) (s v : Int32) : hm_HMet cA yL_parent cL_parent 5 (some .int) [(0, 10, 13, 19)] r_L [.ref b, .int s, .int v, .ref o] M (lw_H cA M0 b o (sp_w (sp_isV sg s v)) (sg 3 (16 * nN s + nN v)) sg) := by
  obtain ⟨ta, ad, hR, hok, rfl⟩ := hQ
  refine hm_hmet 1 (by decide +kernel) (fun w h => by simp only [List.mem_cons, List.not_mem_nil, or_false] at h; rcases h with rfl | rfl | rfl | rfl <;> rfl) rfl (fun C X hC => ?_)
  show hm_W C 0 0 _ M 0 [some (.ref (ad 0 0)), some (.int s), some (.int v), some (.ref o), none] []
  refine hr_aload_n X (tL_at tL_parent_ok 0 rfl) rfl (Or.inr ⟨_, rfl⟩) ?_
  refine hr_iconst 0 X (tL_at tL_parent_ok 1 rfl) (by decide) ?_
  refine hr_aload_n X (tL_at tL_parent_ok 2 rfl) rfl (Or.inr ⟨_, rfl⟩) ?_
  refine hr_iload_n X (tL_at tL_parent_ok 3 rfl) rfl ?_
  refine hr_iload_n X (tL_at tL_parent_ok 4 rfl) rfl ?_
  refine hr_callVC X kCL_48 (tL_at tL_parent_ok 5 rfl) (c_X5_parent cA hR hI s v) hR.c0 rfl rfl rfl rfl (Nat.le_of_ble_eq_true rfl) ⟨⟨(Nat.le_of_ble_eq_true rfl), (Nat.le_of_ble_eq_true rfl)⟩, (Nat.le_of_ble_eq_true rfl), (Nat.le_of_ble_eq_true rfl)⟩ (fun E M1 q9 hp => ?_) (fun v M1 hp => ?_)
  · obtain ⟨hc, rfl, rfl⟩ := hp
    have hth : sp_w (sp_isV sg s v) = 1 := by rw [hc]; rfl
    have hQ1 : ls_Q cA M0 (ad 0 0) sg M := ⟨ta, ad, hR, hok, rfl⟩
    refine lh_at X hC [] (0, 10, 13, 19) [] rfl (fun _ h => absurd h List.not_mem_nil) (by decide) (by decide) kXL_19 (by decide +kernel) ?_
    show hm_W C _ _ _ _ 13 _ _
    refine hr_astore X (tL_at tL_parent_ok 9 rfl) (Nat.le_of_ble_eq_true rfl) (Or.inr ⟨_, rfl⟩) ?_
    exact lh_bad X (tL_at tL_parent_ok 10 rfl) (by rw [hth]; decide) (by rw [hth]; decide) (tL_at tL_parent_ok 11 rfl) ho hQ1 (Nat.le_of_ble_eq_true rfl) (Nat.le_of_ble_eq_true rfl)
  · obtain ⟨hc, rfl, rfl⟩ := hp
    have hth : sp_w (sp_isV sg s v) = 0 := sp_w_0.mpr hc
    have hQ2 : ls_Q cA M0 (ad 0 0) sg M := ⟨ta, ad, hR, hok, rfl⟩
    exact lh_end 17 X (tL_at tL_parent_ok 6 rfl) (tL_at tL_parent_ok 7 rfl) (tL_at tL_parent_ok 8 rfl) (by decide) (tL_at tL_parent_ok 12 rfl) (tL_at tL_parent_ok 13 rfl) ho hth hQ2 (Nat.le_of_ble_eq_true rfl) (Nat.le_of_ble_eq_true rfl)
set_option maxHeartbeats 4000000 in
set_option maxRecDepth 100000 in
theorem c_L_kindOf (cA : Nat → ClassId) {sg : mm_S} {M0 M : hm_M} {b o : Nat} {f : Nat → Int64} (hI : sp_I sg) (hJ : sp_J sg) (hQ : ls_Q cA M0 b sg M) (ho : M0 o = some (lw_o cA f)) (s v t : Int32) : hm_HMet cA yL_kindOf cL_kindOf 6 (some .int) [(0, 12, 15, 19)] r_L [.ref b, .int s, .int v, .int t, .ref o] M (lw_H cA M0 b o (sp_thTask sg s v t) (sp_kind sg (nN s) (nN v) (nN t)) sg) := by
  obtain ⟨ta, ad, hR, hok, rfl⟩ := hQ
  refine hm_hmet 1 (by decide +kernel) (fun w h => by simp only [List.mem_cons, List.not_mem_nil, or_false] at h; rcases h with rfl | rfl | rfl | rfl | rfl <;> rfl) rfl (fun C X hC => ?_)
  show hm_W C 0 0 _ M 0 [some (.ref (ad 0 0)), some (.int s), some (.int v), some (.int t), some (.ref o), none] []
  refine hr_aload X (tL_at tL_kindOf_ok 0 rfl) rfl (Or.inr ⟨_, rfl⟩) ?_
  refine hr_iconst 0 X (tL_at tL_kindOf_ok 1 rfl) (by decide) ?_
  refine hr_aload_n X (tL_at tL_kindOf_ok 2 rfl) rfl (Or.inr ⟨_, rfl⟩) ?_
  refine hr_iload_n X (tL_at tL_kindOf_ok 3 rfl) rfl ?_
  refine hr_iload_n X (tL_at tL_kindOf_ok 4 rfl) rfl ?_
  refine hr_iload_n X (tL_at tL_kindOf_ok 5 rfl) rfl ?_
  refine hr_callVC X kCL_51 (tL_at tL_kindOf_ok 6 rfl) (c_X5_kindOf cA hR hI s v t) hR.c0 rfl rfl rfl rfl (Nat.le_of_ble_eq_true rfl) ⟨⟨(Nat.le_of_ble_eq_true rfl), (Nat.le_of_ble_eq_true rfl)⟩, (Nat.le_of_ble_eq_true rfl), (Nat.le_of_ble_eq_true rfl)⟩ (fun E M1 q9 hp => ?_) (fun v M1 hp => ?_)
  · obtain ⟨hc, rfl, rfl⟩ := hp
    have hth : sp_thTask sg s v t = 1 := by show sp_w (sp_isV sg s v && sp_in t 0 4) = 1; rw [hc]; rfl
    have hQ1 : ls_Q cA M0 (ad 0 0) sg M := ⟨ta, ad, hR, hok, rfl⟩
    refine lh_at X hC [] (0, 12, 15, 19) [] rfl (fun _ h => absurd h List.not_mem_nil) (by decide) (by decide) kXL_19 (by decide +kernel) ?_
    show hm_W C _ _ _ _ 15 _ _
    refine hr_astore X (tL_at tL_kindOf_ok 10 rfl) (Nat.le_of_ble_eq_true rfl) (Or.inr ⟨_, rfl⟩) ?_
    exact lh_bad X (tL_at tL_kindOf_ok 11 rfl) (by rw [hth]; decide) (by rw [hth]; decide) (tL_at tL_kindOf_ok 12 rfl) ho hQ1 (Nat.le_of_ble_eq_true rfl) (Nat.le_of_ble_eq_true rfl)
  · obtain ⟨hc, rfl, rfl⟩ := hp
    have hth : sp_thTask sg s v t = 0 := sp_w_0.mpr hc
    have hQ2 : ls_Q cA M0 (ad 0 0) sg M := ⟨ta, ad, hR, hok, rfl⟩
    exact lh_end 19 X (tL_at tL_kindOf_ok 7 rfl) (tL_at tL_kindOf_ok 8 rfl) (tL_at tL_kindOf_ok 9 rfl) (by decide) (tL_at tL_kindOf_ok 13 rfl) (tL_at tL_kindOf_ok 14 rfl) ho hth hQ2 (Nat.le_of_ble_eq_true rfl) (Nat.le_of_ble_eq_true rfl)
set_option maxHeartbeats 4000000 in
set_option maxRecDepth 100000 in
theorem c_L_toldIn (cA : Nat → ClassId) {sg : mm_S} {M0 M : hm_M} {b o : Nat} {f : Nat → Int64} (hI : sp_I sg) (hJ : sp_J sg) (hQ : ls_Q cA M0 b sg M) (ho : M0 o = some (lw_o cA f)) (s v t : Int32) : hm_HMet cA yL_toldIn cL_toldIn 6 (some .int) [(0, 12, 15, 19)] r_L [.ref b, .int s, .int v, .int t, .ref o] M (lw_H cA M0 b o (sp_thTask sg s v t) (sp_o (sp_tel sg (nN s) (nN v) (nN t))) sg) := by
  obtain ⟨ta, ad, hR, hok, rfl⟩ := hQ
  refine hm_hmet 1 (by decide +kernel) (fun w h => by simp only [List.mem_cons, List.not_mem_nil, or_false] at h; rcases h with rfl | rfl | rfl | rfl | rfl <;> rfl) rfl (fun C X hC => ?_)
  show hm_W C 0 0 _ M 0 [some (.ref (ad 0 0)), some (.int s), some (.int v), some (.int t), some (.ref o), none] []
  refine hr_aload X (tL_at tL_toldIn_ok 0 rfl) rfl (Or.inr ⟨_, rfl⟩) ?_
  refine hr_iconst 0 X (tL_at tL_toldIn_ok 1 rfl) (by decide) ?_
  refine hr_aload_n X (tL_at tL_toldIn_ok 2 rfl) rfl (Or.inr ⟨_, rfl⟩) ?_
  refine hr_iload_n X (tL_at tL_toldIn_ok 3 rfl) rfl ?_
  refine hr_iload_n X (tL_at tL_toldIn_ok 4 rfl) rfl ?_
  refine hr_iload_n X (tL_at tL_toldIn_ok 5 rfl) rfl ?_
  refine hr_callVC X kCL_54 (tL_at tL_toldIn_ok 6 rfl) (c_X5_toldIn cA hR hI s v t) hR.c0 rfl rfl rfl rfl (Nat.le_of_ble_eq_true rfl) ⟨⟨(Nat.le_of_ble_eq_true rfl), (Nat.le_of_ble_eq_true rfl)⟩, (Nat.le_of_ble_eq_true rfl), (Nat.le_of_ble_eq_true rfl)⟩ (fun E M1 q9 hp => ?_) (fun v M1 hp => ?_)
  · obtain ⟨hc, rfl, rfl⟩ := hp
    have hth : sp_thTask sg s v t = 1 := by show sp_w (sp_isV sg s v && sp_in t 0 4) = 1; rw [hc]; rfl
    have hQ1 : ls_Q cA M0 (ad 0 0) sg M := ⟨ta, ad, hR, hok, rfl⟩
    refine lh_at X hC [] (0, 12, 15, 19) [] rfl (fun _ h => absurd h List.not_mem_nil) (by decide) (by decide) kXL_19 (by decide +kernel) ?_
    show hm_W C _ _ _ _ 15 _ _
    refine hr_astore X (tL_at tL_toldIn_ok 10 rfl) (Nat.le_of_ble_eq_true rfl) (Or.inr ⟨_, rfl⟩) ?_
    exact lh_bad X (tL_at tL_toldIn_ok 11 rfl) (by rw [hth]; decide) (by rw [hth]; decide) (tL_at tL_toldIn_ok 12 rfl) ho hQ1 (Nat.le_of_ble_eq_true rfl) (Nat.le_of_ble_eq_true rfl)
  · obtain ⟨hc, rfl, rfl⟩ := hp
    have hth : sp_thTask sg s v t = 0 := sp_w_0.mpr hc
    have hQ2 : ls_Q cA M0 (ad 0 0) sg M := ⟨ta, ad, hR, hok, rfl⟩
    exact lh_end 19 X (tL_at tL_toldIn_ok 7 rfl) (tL_at tL_toldIn_ok 8 rfl) (tL_at tL_toldIn_ok 9 rfl) (by decide) (tL_at tL_toldIn_ok 13 rfl) (tL_at tL_toldIn_ok 14 rfl) ho hth hQ2 (Nat.le_of_ble_eq_true rfl) (Nat.le_of_ble_eq_true rfl)
set_option maxHeartbeats 4000000 in
set_option maxRecDepth 100000 in
theorem c_L_points (cA : Nat → ClassId) {sg : mm_S} {M0 M : hm_M} {b o : Nat} {f : Nat → Int64} (hI : sp_I sg) (hJ : sp_J sg) (hQ : ls_Q cA M0 b sg M) (ho : M0 o = some (lw_o cA f)) (s v : Int32) : hm_HMet cA yL_points cL_points 5 (some .int) [(0, 10, 13, 19)] r_L [.ref b, .int s, .int v, .ref o] M (lw_H cA M0 b o (sp_w (sp_isV sg s v)) (sp_pts sg (nN s) (nN v)) sg) := by
  obtain ⟨ta, ad, hR, hok, rfl⟩ := hQ
  refine hm_hmet 1 (by decide +kernel) (fun w h => by simp only [List.mem_cons, List.not_mem_nil, or_false] at h; rcases h with rfl | rfl | rfl | rfl <;> rfl) rfl (fun C X hC => ?_)
  show hm_W C 0 0 _ M 0 [some (.ref (ad 0 0)), some (.int s), some (.int v), some (.ref o), none] []
  refine hr_aload_n X (tL_at tL_points_ok 0 rfl) rfl (Or.inr ⟨_, rfl⟩) ?_
  refine hr_iconst 0 X (tL_at tL_points_ok 1 rfl) (by decide) ?_
  refine hr_aload_n X (tL_at tL_points_ok 2 rfl) rfl (Or.inr ⟨_, rfl⟩) ?_
  refine hr_iload_n X (tL_at tL_points_ok 3 rfl) rfl ?_
  refine hr_iload_n X (tL_at tL_points_ok 4 rfl) rfl ?_
  refine hr_callVC X kCL_57 (tL_at tL_points_ok 5 rfl) (c_X5_points cA hR hI s v) hR.c0 rfl rfl rfl rfl (Nat.le_of_ble_eq_true rfl) ⟨⟨(Nat.le_of_ble_eq_true rfl), (Nat.le_of_ble_eq_true rfl)⟩, (Nat.le_of_ble_eq_true rfl), (Nat.le_of_ble_eq_true rfl)⟩ (fun E M1 q9 hp => ?_) (fun v M1 hp => ?_)
  · obtain ⟨hc, rfl, rfl⟩ := hp
    have hth : sp_w (sp_isV sg s v) = 1 := by rw [hc]; rfl
    have hQ1 : ls_Q cA M0 (ad 0 0) sg M := ⟨ta, ad, hR, hok, rfl⟩
    refine lh_at X hC [] (0, 10, 13, 19) [] rfl (fun _ h => absurd h List.not_mem_nil) (by decide) (by decide) kXL_19 (by decide +kernel) ?_
    show hm_W C _ _ _ _ 13 _ _
    refine hr_astore X (tL_at tL_points_ok 9 rfl) (Nat.le_of_ble_eq_true rfl) (Or.inr ⟨_, rfl⟩) ?_
    exact lh_bad X (tL_at tL_points_ok 10 rfl) (by rw [hth]; decide) (by rw [hth]; decide) (tL_at tL_points_ok 11 rfl) ho hQ1 (Nat.le_of_ble_eq_true rfl) (Nat.le_of_ble_eq_true rfl)
  · obtain ⟨hc, rfl, rfl⟩ := hp
    have hth : sp_w (sp_isV sg s v) = 0 := sp_w_0.mpr hc
    have hQ2 : ls_Q cA M0 (ad 0 0) sg M := ⟨ta, ad, hR, hok, rfl⟩
    exact lh_end 17 X (tL_at tL_points_ok 6 rfl) (tL_at tL_points_ok 7 rfl) (tL_at tL_points_ok 8 rfl) (by decide) (tL_at tL_points_ok 12 rfl) (tL_at tL_points_ok 13 rfl) ho hth hQ2 (Nat.le_of_ble_eq_true rfl) (Nat.le_of_ble_eq_true rfl)
set_option maxHeartbeats 4000000 in
set_option maxRecDepth 100000 in
theorem c_L_mendNumber (cA : Nat → ClassId) {sg : mm_S} {M0 M : hm_M} {b o : Nat} {f : Nat → Int64} (hI : sp_I sg) (hJ : sp_J sg) (hQ : ls_Q cA M0 b sg M) (ho : M0 o = some (lw_o cA f)) (s v t value slack : Int32) : hm_HMet cA yL_mendNumber cL_mendNumber 8 (some .int) [(0, 16, 19, 19), (0, 16, 23, 21), (0, 16, 27, 13)] r_L [.ref b, .int s, .int v, .int t, .int value, .int slack, .ref o] M (lw_H cA M0 b o (sp_thMen sg s v t (sp_in value (-1000) 1000 && sp_in slack 0 100) 0) (sp_mendN sg (nN s) (sp_menE sg (nN s) (nN v) (nN t) 0) value slack) (if sp_thMen sg s v t (sp_in value (-1000) 1000 && sp_in slack 0 100) 0 = 0 then sp_mend sg (nN s) (sp_menE sg (nN s) (nN v) (nN t) 0) value slack else sg)) := by
  obtain ⟨ta, ad, hR, hok, rfl⟩ := hQ
  refine hm_hmet 1 (by decide +kernel) (fun w h => by simp only [List.mem_cons, List.not_mem_nil, or_false] at h; rcases h with rfl | rfl | rfl | rfl | rfl | rfl | rfl <;> rfl) rfl (fun C X hC => ?_)
  show hm_W C 0 0 _ M 0 [some (.ref (ad 0 0)), some (.int s), some (.int v), some (.int t), some (.int value), some (.int slack), some (.ref o), none] []
  refine hr_aload X (tL_at tL_mendNumber_ok 0 rfl) rfl (Or.inr ⟨_, rfl⟩) ?_
  refine hr_iconst 0 X (tL_at tL_mendNumber_ok 1 rfl) (by decide) ?_
  refine hr_aload_n X (tL_at tL_mendNumber_ok 2 rfl) rfl (Or.inr ⟨_, rfl⟩) ?_
  refine hr_iload_n X (tL_at tL_mendNumber_ok 3 rfl) rfl ?_
  refine hr_iload_n X (tL_at tL_mendNumber_ok 4 rfl) rfl ?_
  refine hr_iload_n X (tL_at tL_mendNumber_ok 5 rfl) rfl ?_
  refine hr_iload X (tL_at tL_mendNumber_ok 6 rfl) rfl ?_
  refine hr_iload X (tL_at tL_mendNumber_ok 7 rfl) rfl ?_
  refine hr_callVC X kCL_60 (tL_at tL_mendNumber_ok 8 rfl) (c_X5_mendNumber cA hR hI hok s v t value slack) hR.c0 rfl rfl rfl rfl (Nat.le_of_ble_eq_true rfl) ⟨⟨(Nat.le_of_ble_eq_true rfl), (Nat.le_of_ble_eq_true rfl)⟩, (Nat.le_of_ble_eq_true rfl), (Nat.le_of_ble_eq_true rfl)⟩ (fun E M1 q9 hp => ?_) (fun v M1 hp => ?_)
  · obtain ⟨hE, rfl⟩ := hp
    have hQ1 : ls_Q cA M0 (ad 0 0) sg M := ⟨ta, ad, hR, hok, rfl⟩
    rcases hE with ⟨hth, rfl⟩ | ⟨hth, rfl⟩ | ⟨hth, rfl⟩
    · refine lh_at X hC [] (0, 16, 19, 19) [(0, 16, 23, 21), (0, 16, 27, 13)] rfl (fun _ h => absurd h List.not_mem_nil) (by decide) (by decide) kXL_19 (by decide +kernel) ?_
      show hm_W C _ _ _ _ 19 _ _
      refine hr_astore X (tL_at tL_mendNumber_ok 12 rfl) (Nat.le_of_ble_eq_true rfl) (Or.inr ⟨_, rfl⟩) ?_
      exact lh_bad X (tL_at tL_mendNumber_ok 13 rfl) (by rw [hth]; decide) (by rw [hth]; decide) (tL_at tL_mendNumber_ok 14 rfl) ho (by rw [if_neg (by rw [hth]; decide)]; exact hQ1) (Nat.le_of_ble_eq_true rfl) (Nat.le_of_ble_eq_true rfl)
    · refine lh_at X hC [(0, 16, 19, 19)] (0, 16, 23, 21) [(0, 16, 27, 13)] rfl (List.forall_mem_cons.mpr ⟨⟨by decide, _, kXL_19, by decide +kernel⟩, (fun _ h => absurd h List.not_mem_nil)⟩) (by decide) (by decide) kXL_21 (by decide +kernel) ?_
      show hm_W C _ _ _ _ 23 _ _
      refine hr_astore X (tL_at tL_mendNumber_ok 15 rfl) (Nat.le_of_ble_eq_true rfl) (Or.inr ⟨_, rfl⟩) ?_
      exact lh_bad X (tL_at tL_mendNumber_ok 16 rfl) (by rw [hth]; decide) (by rw [hth]; decide) (tL_at tL_mendNumber_ok 17 rfl) ho (by rw [if_neg (by rw [hth]; decide)]; exact hQ1) (Nat.le_of_ble_eq_true rfl) (Nat.le_of_ble_eq_true rfl)
    · refine lh_at X hC [(0, 16, 19, 19), (0, 16, 23, 21)] (0, 16, 27, 13) [] rfl (List.forall_mem_cons.mpr ⟨⟨by decide, _, kXL_19, by decide +kernel⟩, (List.forall_mem_cons.mpr ⟨⟨by decide, _, kXL_21, by decide +kernel⟩, (fun _ h => absurd h List.not_mem_nil)⟩)⟩) (by decide) (by decide) kXL_13 (by decide +kernel) ?_
      show hm_W C _ _ _ _ 27 _ _
      refine hr_astore X (tL_at tL_mendNumber_ok 18 rfl) (Nat.le_of_ble_eq_true rfl) (Or.inr ⟨_, rfl⟩) ?_
      exact lh_bad X (tL_at tL_mendNumber_ok 19 rfl) (by rw [hth]; decide) (by rw [hth]; decide) (tL_at tL_mendNumber_ok 20 rfl) ho (by rw [if_neg (by rw [hth]; decide)]; exact hQ1) (Nat.le_of_ble_eq_true rfl) (Nat.le_of_ble_eq_true rfl)
  · obtain ⟨hth, rfl, ta1, hR1, hok1⟩ := hp
    have hQ2 : ls_Q cA M0 (ad 0 0) (if sp_thMen sg s v t (sp_in value (-1000) 1000 && sp_in slack 0 100) 0 = 0 then sp_mend sg (nN s) (sp_menE sg (nN s) (nN v) (nN t) 0) value slack else sg) M1 := by rw [if_pos hth]; exact ⟨ta1, ad, hR1, hok1, rfl⟩
    exact lh_end 31 X (tL_at tL_mendNumber_ok 9 rfl) (tL_at tL_mendNumber_ok 10 rfl) (tL_at tL_mendNumber_ok 11 rfl) (by decide) (tL_at tL_mendNumber_ok 21 rfl) (tL_at tL_mendNumber_ok 22 rfl) ho hth hQ2 (Nat.le_of_ble_eq_true rfl) (Nat.le_of_ble_eq_true rfl)
set_option maxHeartbeats 4000000 in
set_option maxRecDepth 100000 in
theorem c_L_mendChoice (cA : Nat → ClassId) {sg : mm_S} {M0 M : hm_M} {b o : Nat} {f : Nat → Int64} (hI : sp_I sg) (hJ : sp_J sg) (hQ : ls_Q cA M0 b sg M) (ho : M0 o = some (lw_o cA f)) (s v t signs : Int32) : hm_HMet cA yL_mendChoice cL_mendChoice 7 (some .int) [(0, 14, 17, 19), (0, 14, 21, 21), (0, 14, 25, 13)] r_L [.ref b, .int s, .int v, .int t, .int signs, .ref o] M (lw_H cA M0 b o (sp_thMen sg s v t (sp_in signs 0 31) 1) (sp_mendN sg (nN s) (sp_menE sg (nN s) (nN v) (nN t) 1) signs 0) (if sp_thMen sg s v t (sp_in signs 0 31) 1 = 0 then sp_mend sg (nN s) (sp_menE sg (nN s) (nN v) (nN t) 1) signs 0 else sg)) := by
  obtain ⟨ta, ad, hR, hok, rfl⟩ := hQ
  refine hm_hmet 1 (by decide +kernel) (fun w h => by simp only [List.mem_cons, List.not_mem_nil, or_false] at h; rcases h with rfl | rfl | rfl | rfl | rfl | rfl <;> rfl) rfl (fun C X hC => ?_)
  show hm_W C 0 0 _ M 0 [some (.ref (ad 0 0)), some (.int s), some (.int v), some (.int t), some (.int signs), some (.ref o), none] []
  refine hr_aload X (tL_at tL_mendChoice_ok 0 rfl) rfl (Or.inr ⟨_, rfl⟩) ?_
  refine hr_iconst 0 X (tL_at tL_mendChoice_ok 1 rfl) (by decide) ?_
  refine hr_aload_n X (tL_at tL_mendChoice_ok 2 rfl) rfl (Or.inr ⟨_, rfl⟩) ?_
  refine hr_iload_n X (tL_at tL_mendChoice_ok 3 rfl) rfl ?_
  refine hr_iload_n X (tL_at tL_mendChoice_ok 4 rfl) rfl ?_
  refine hr_iload_n X (tL_at tL_mendChoice_ok 5 rfl) rfl ?_
  refine hr_iload X (tL_at tL_mendChoice_ok 6 rfl) rfl ?_
  refine hr_callVC X kCL_63 (tL_at tL_mendChoice_ok 7 rfl) (c_X5_mendChoice cA hR hI hok s v t signs) hR.c0 rfl rfl rfl rfl (Nat.le_of_ble_eq_true rfl) ⟨⟨(Nat.le_of_ble_eq_true rfl), (Nat.le_of_ble_eq_true rfl)⟩, (Nat.le_of_ble_eq_true rfl), (Nat.le_of_ble_eq_true rfl)⟩ (fun E M1 q9 hp => ?_) (fun v M1 hp => ?_)
  · obtain ⟨hE, rfl⟩ := hp
    have hQ1 : ls_Q cA M0 (ad 0 0) sg M := ⟨ta, ad, hR, hok, rfl⟩
    rcases hE with ⟨hth, rfl⟩ | ⟨hth, rfl⟩ | ⟨hth, rfl⟩
    · refine lh_at X hC [] (0, 14, 17, 19) [(0, 14, 21, 21), (0, 14, 25, 13)] rfl (fun _ h => absurd h List.not_mem_nil) (by decide) (by decide) kXL_19 (by decide +kernel) ?_
      show hm_W C _ _ _ _ 17 _ _
      refine hr_astore X (tL_at tL_mendChoice_ok 11 rfl) (Nat.le_of_ble_eq_true rfl) (Or.inr ⟨_, rfl⟩) ?_
      exact lh_bad X (tL_at tL_mendChoice_ok 12 rfl) (by rw [hth]; decide) (by rw [hth]; decide) (tL_at tL_mendChoice_ok 13 rfl) ho (by rw [if_neg (by rw [hth]; decide)]; exact hQ1) (Nat.le_of_ble_eq_true rfl) (Nat.le_of_ble_eq_true rfl)
    · refine lh_at X hC [(0, 14, 17, 19)] (0, 14, 21, 21) [(0, 14, 25, 13)] rfl (List.forall_mem_cons.mpr ⟨⟨by decide, _, kXL_19, by decide +kernel⟩, (fun _ h => absurd h List.not_mem_nil)⟩) (by decide) (by decide) kXL_21 (by decide +kernel) ?_
      show hm_W C _ _ _ _ 21 _ _
      refine hr_astore X (tL_at tL_mendChoice_ok 14 rfl) (Nat.le_of_ble_eq_true rfl) (Or.inr ⟨_, rfl⟩) ?_
      exact lh_bad X (tL_at tL_mendChoice_ok 15 rfl) (by rw [hth]; decide) (by rw [hth]; decide) (tL_at tL_mendChoice_ok 16 rfl) ho (by rw [if_neg (by rw [hth]; decide)]; exact hQ1) (Nat.le_of_ble_eq_true rfl) (Nat.le_of_ble_eq_true rfl)
    · refine lh_at X hC [(0, 14, 17, 19), (0, 14, 21, 21)] (0, 14, 25, 13) [] rfl (List.forall_mem_cons.mpr ⟨⟨by decide, _, kXL_19, by decide +kernel⟩, (List.forall_mem_cons.mpr ⟨⟨by decide, _, kXL_21, by decide +kernel⟩, (fun _ h => absurd h List.not_mem_nil)⟩)⟩) (by decide) (by decide) kXL_13 (by decide +kernel) ?_
      show hm_W C _ _ _ _ 25 _ _
      refine hr_astore X (tL_at tL_mendChoice_ok 17 rfl) (Nat.le_of_ble_eq_true rfl) (Or.inr ⟨_, rfl⟩) ?_
      exact lh_bad X (tL_at tL_mendChoice_ok 18 rfl) (by rw [hth]; decide) (by rw [hth]; decide) (tL_at tL_mendChoice_ok 19 rfl) ho (by rw [if_neg (by rw [hth]; decide)]; exact hQ1) (Nat.le_of_ble_eq_true rfl) (Nat.le_of_ble_eq_true rfl)
  · obtain ⟨hth, rfl, ta1, hR1, hok1⟩ := hp
    have hQ2 : ls_Q cA M0 (ad 0 0) (if sp_thMen sg s v t (sp_in signs 0 31) 1 = 0 then sp_mend sg (nN s) (sp_menE sg (nN s) (nN v) (nN t) 1) signs 0 else sg) M1 := by rw [if_pos hth]; exact ⟨ta1, ad, hR1, hok1, rfl⟩
    exact lh_end 29 X (tL_at tL_mendChoice_ok 8 rfl) (tL_at tL_mendChoice_ok 9 rfl) (tL_at tL_mendChoice_ok 10 rfl) (by decide) (tL_at tL_mendChoice_ok 20 rfl) (tL_at tL_mendChoice_ok 21 rfl) ho hth hQ2 (Nat.le_of_ble_eq_true rfl) (Nat.le_of_ble_eq_true rfl)
set_option maxHeartbeats 4000000 in
set_option maxRecDepth 100000 in
theorem c_L_mendWords (cA : Nat → ClassId) {sg : mm_S} {M0 M : hm_M} {b o : Nat} {f : Nat → Int64} (hI : sp_I sg) (hJ : sp_J sg) (hQ : ls_Q cA M0 b sg M) (ho : M0 o = some (lw_o cA f)) (s v t words : Int32) : hm_HMet cA yL_mendWords cL_mendWords 7 (some .int) [(0, 14, 17, 19), (0, 14, 21, 21), (0, 14, 25, 13)] r_L [.ref b, .int s, .int v, .int t, .int words, .ref o] M (lw_H cA M0 b o (sp_thMenW sg s v t words) (sp_mendN sg (nN s) (sp_menE sg (nN s) (nN v) (nN t) 2) words 0) (if sp_thMenW sg s v t words = 0 then sp_mend sg (nN s) (sp_menE sg (nN s) (nN v) (nN t) 2) words 0 else sg)) := by
  obtain ⟨ta, ad, hR, hok, rfl⟩ := hQ
  refine hm_hmet 1 (by decide +kernel) (fun w h => by simp only [List.mem_cons, List.not_mem_nil, or_false] at h; rcases h with rfl | rfl | rfl | rfl | rfl | rfl <;> rfl) rfl (fun C X hC => ?_)
  show hm_W C 0 0 _ M 0 [some (.ref (ad 0 0)), some (.int s), some (.int v), some (.int t), some (.int words), some (.ref o), none] []
  refine hr_aload X (tL_at tL_mendWords_ok 0 rfl) rfl (Or.inr ⟨_, rfl⟩) ?_
  refine hr_iconst 0 X (tL_at tL_mendWords_ok 1 rfl) (by decide) ?_
  refine hr_aload_n X (tL_at tL_mendWords_ok 2 rfl) rfl (Or.inr ⟨_, rfl⟩) ?_
  refine hr_iload_n X (tL_at tL_mendWords_ok 3 rfl) rfl ?_
  refine hr_iload_n X (tL_at tL_mendWords_ok 4 rfl) rfl ?_
  refine hr_iload_n X (tL_at tL_mendWords_ok 5 rfl) rfl ?_
  refine hr_iload X (tL_at tL_mendWords_ok 6 rfl) rfl ?_
  refine hr_callVC X kCL_67 (tL_at tL_mendWords_ok 7 rfl) (c_X5_mendWords cA hR hI hok s v t words) hR.c0 rfl rfl rfl rfl (Nat.le_of_ble_eq_true rfl) ⟨⟨(Nat.le_of_ble_eq_true rfl), (Nat.le_of_ble_eq_true rfl)⟩, (Nat.le_of_ble_eq_true rfl), (Nat.le_of_ble_eq_true rfl)⟩ (fun E M1 q9 hp => ?_) (fun v M1 hp => ?_)
  · obtain ⟨hE, rfl⟩ := hp
    have hQ1 : ls_Q cA M0 (ad 0 0) sg M := ⟨ta, ad, hR, hok, rfl⟩
    rcases hE with ⟨hth, rfl⟩ | ⟨hth, rfl⟩ | ⟨hth, rfl⟩
    · refine lh_at X hC [] (0, 14, 17, 19) [(0, 14, 21, 21), (0, 14, 25, 13)] rfl (fun _ h => absurd h List.not_mem_nil) (by decide) (by decide) kXL_19 (by decide +kernel) ?_
      show hm_W C _ _ _ _ 17 _ _
      refine hr_astore X (tL_at tL_mendWords_ok 11 rfl) (Nat.le_of_ble_eq_true rfl) (Or.inr ⟨_, rfl⟩) ?_
      exact lh_bad X (tL_at tL_mendWords_ok 12 rfl) (by rw [hth]; decide) (by rw [hth]; decide) (tL_at tL_mendWords_ok 13 rfl) ho (by rw [if_neg (by rw [hth]; decide)]; exact hQ1) (Nat.le_of_ble_eq_true rfl) (Nat.le_of_ble_eq_true rfl)
    · refine lh_at X hC [(0, 14, 17, 19)] (0, 14, 21, 21) [(0, 14, 25, 13)] rfl (List.forall_mem_cons.mpr ⟨⟨by decide, _, kXL_19, by decide +kernel⟩, (fun _ h => absurd h List.not_mem_nil)⟩) (by decide) (by decide) kXL_21 (by decide +kernel) ?_
      show hm_W C _ _ _ _ 21 _ _
      refine hr_astore X (tL_at tL_mendWords_ok 14 rfl) (Nat.le_of_ble_eq_true rfl) (Or.inr ⟨_, rfl⟩) ?_
      exact lh_bad X (tL_at tL_mendWords_ok 15 rfl) (by rw [hth]; decide) (by rw [hth]; decide) (tL_at tL_mendWords_ok 16 rfl) ho (by rw [if_neg (by rw [hth]; decide)]; exact hQ1) (Nat.le_of_ble_eq_true rfl) (Nat.le_of_ble_eq_true rfl)
    · refine lh_at X hC [(0, 14, 17, 19), (0, 14, 21, 21)] (0, 14, 25, 13) [] rfl (List.forall_mem_cons.mpr ⟨⟨by decide, _, kXL_19, by decide +kernel⟩, (List.forall_mem_cons.mpr ⟨⟨by decide, _, kXL_21, by decide +kernel⟩, (fun _ h => absurd h List.not_mem_nil)⟩)⟩) (by decide) (by decide) kXL_13 (by decide +kernel) ?_
      show hm_W C _ _ _ _ 25 _ _
      refine hr_astore X (tL_at tL_mendWords_ok 17 rfl) (Nat.le_of_ble_eq_true rfl) (Or.inr ⟨_, rfl⟩) ?_
      exact lh_bad X (tL_at tL_mendWords_ok 18 rfl) (by rw [hth]; decide) (by rw [hth]; decide) (tL_at tL_mendWords_ok 19 rfl) ho (by rw [if_neg (by rw [hth]; decide)]; exact hQ1) (Nat.le_of_ble_eq_true rfl) (Nat.le_of_ble_eq_true rfl)
  · obtain ⟨hth, rfl, ta1, hR1, hok1⟩ := hp
    have hQ2 : ls_Q cA M0 (ad 0 0) (if sp_thMenW sg s v t words = 0 then sp_mend sg (nN s) (sp_menE sg (nN s) (nN v) (nN t) 2) words 0 else sg) M1 := by rw [if_pos hth]; exact ⟨ta1, ad, hR1, hok1, rfl⟩
    exact lh_end 29 X (tL_at tL_mendWords_ok 8 rfl) (tL_at tL_mendWords_ok 9 rfl) (tL_at tL_mendWords_ok 10 rfl) (by decide) (tL_at tL_mendWords_ok 20 rfl) (tL_at tL_mendWords_ok 21 rfl) ho hth hQ2 (Nat.le_of_ble_eq_true rfl) (Nat.le_of_ble_eq_true rfl)
set_option maxHeartbeats 4000000 in
set_option maxRecDepth 100000 in
theorem c_L_open (cA : Nat → ClassId) {sg : mm_S} {M0 M : hm_M} {b o : Nat} {f : Nat → Int64} (hI : sp_I sg) (hJ : sp_J sg) (hQ : ls_Q cA M0 b sg M) (ho : M0 o = some (lw_o cA f)) (p s : Int32) : hm_HMet cA yL_open cL_open 5 (some .int) [(0, 10, 13, 19), (0, 10, 17, 13)] r_L [.ref b, .int p, .int s, .ref o] M (lw_H cA M0 b o (sp_thOpen sg p s) (sg 10 (4 * nN s + nN p / 3)) (if sp_thOpen sg p s = 0 then sp_openS sg (nN p) (nN s) else sg)) := by
  obtain ⟨ta, ad, hR, hok, rfl⟩ := hQ
  refine hm_hmet 1 (by decide +kernel) (fun w h => by simp only [List.mem_cons, List.not_mem_nil, or_false] at h; rcases h with rfl | rfl | rfl | rfl <;> rfl) rfl (fun C X hC => ?_)
  show hm_W C 0 0 _ M 0 [some (.ref (ad 0 0)), some (.int p), some (.int s), some (.ref o), none] []
  refine hr_aload_n X (tL_at tL_open_ok 0 rfl) rfl (Or.inr ⟨_, rfl⟩) ?_
  refine hr_iconst 0 X (tL_at tL_open_ok 1 rfl) (by decide) ?_
  refine hr_aload_n X (tL_at tL_open_ok 2 rfl) rfl (Or.inr ⟨_, rfl⟩) ?_
  refine hr_iload_n X (tL_at tL_open_ok 3 rfl) rfl ?_
  refine hr_iload_n X (tL_at tL_open_ok 4 rfl) rfl ?_
  refine hr_callVC X kCL_70 (tL_at tL_open_ok 5 rfl) (c_X5_open cA hR hI hJ hok p s) hR.c0 rfl rfl rfl rfl (Nat.le_of_ble_eq_true rfl) ⟨⟨(Nat.le_of_ble_eq_true rfl), (Nat.le_of_ble_eq_true rfl)⟩, (Nat.le_of_ble_eq_true rfl), (Nat.le_of_ble_eq_true rfl)⟩ (fun E M1 q9 hp => ?_) (fun v M1 hp => ?_)
  · obtain ⟨hE, hR1⟩ := hp
    have hQ1 : ls_Q cA M0 (ad 0 0) sg M1 := ⟨ta, ad, hR1, hok, rfl⟩
    rcases hE with ⟨hth, rfl⟩ | ⟨hth, rfl⟩
    · refine lh_at X hC [] (0, 10, 13, 19) [(0, 10, 17, 13)] rfl (fun _ h => absurd h List.not_mem_nil) (by decide) (by decide) kXL_19 (by decide +kernel) ?_
      show hm_W C _ _ _ _ 13 _ _
      refine hr_astore X (tL_at tL_open_ok 9 rfl) (Nat.le_of_ble_eq_true rfl) (Or.inr ⟨_, rfl⟩) ?_
      exact lh_bad X (tL_at tL_open_ok 10 rfl) (by rw [hth]; decide) (by rw [hth]; decide) (tL_at tL_open_ok 11 rfl) ho (by rw [if_neg (by rw [hth]; decide)]; exact hQ1) (Nat.le_of_ble_eq_true rfl) (Nat.le_of_ble_eq_true rfl)
    · refine lh_at X hC [(0, 10, 13, 19)] (0, 10, 17, 13) [] rfl (List.forall_mem_cons.mpr ⟨⟨by decide, _, kXL_19, by decide +kernel⟩, (fun _ h => absurd h List.not_mem_nil)⟩) (by decide) (by decide) kXL_13 (by decide +kernel) ?_
      show hm_W C _ _ _ _ 17 _ _
      refine hr_astore X (tL_at tL_open_ok 12 rfl) (Nat.le_of_ble_eq_true rfl) (Or.inr ⟨_, rfl⟩) ?_
      exact lh_bad X (tL_at tL_open_ok 13 rfl) (by rw [hth]; decide) (by rw [hth]; decide) (tL_at tL_open_ok 14 rfl) ho (by rw [if_neg (by rw [hth]; decide)]; exact hQ1) (Nat.le_of_ble_eq_true rfl) (Nat.le_of_ble_eq_true rfl)
  · obtain ⟨hth, rfl, ta1, ad1, hR1, hok1, had⟩ := hp
    have hQ2 : ls_Q cA M0 (ad 0 0) (if sp_thOpen sg p s = 0 then sp_openS sg (nN p) (nN s) else sg) M1 := by rw [if_pos hth]; exact ⟨ta1, ad1, hR1, hok1, had⟩
    exact lh_end 21 X (tL_at tL_open_ok 6 rfl) (tL_at tL_open_ok 7 rfl) (tL_at tL_open_ok 8 rfl) (by decide) (tL_at tL_open_ok 15 rfl) (tL_at tL_open_ok 16 rfl) ho hth hQ2 (Nat.le_of_ble_eq_true rfl) (Nat.le_of_ble_eq_true rfl)
set_option maxHeartbeats 4000000 in
set_option maxRecDepth 100000 in
theorem c_L_say (cA : Nat → ClassId) {sg : mm_S} {M0 M : hm_M} {b o : Nat} {f : Nat → Int64} (hI : sp_I sg) (hJ : sp_J sg) (hQ : ls_Q cA M0 b sg M) (ho : M0 o = some (lw_o cA f)) (p s t said : Int32) : hm_HMet cA yL_say cL_say 7 (some .int) [(0, 14, 17, 19), (0, 14, 21, 21), (0, 14, 25, 13)] r_L [.ref b, .int p, .int s, .int t, .int said, .ref o] M (lw_H cA M0 b o (sp_thSay sg p s t said) (sp_taken (sp_sayN sg (nN p) (nN s) (nN t) said) (sp_k p s)) (if sp_thSay sg p s t said = 0 then sp_sayN sg (nN p) (nN s) (nN t) said else sg)) := by
  obtain ⟨ta, ad, hR, hok, rfl⟩ := hQ
  refine hm_hmet 1 (by decide +kernel) (fun w h => by simp only [List.mem_cons, List.not_mem_nil, or_false] at h; rcases h with rfl | rfl | rfl | rfl | rfl | rfl <;> rfl) rfl (fun C X hC => ?_)
  show hm_W C 0 0 _ M 0 [some (.ref (ad 0 0)), some (.int p), some (.int s), some (.int t), some (.int said), some (.ref o), none] []
  refine hr_aload X (tL_at tL_say_ok 0 rfl) rfl (Or.inr ⟨_, rfl⟩) ?_
  refine hr_iconst 0 X (tL_at tL_say_ok 1 rfl) (by decide) ?_
  refine hr_aload_n X (tL_at tL_say_ok 2 rfl) rfl (Or.inr ⟨_, rfl⟩) ?_
  refine hr_iload_n X (tL_at tL_say_ok 3 rfl) rfl ?_
  refine hr_iload_n X (tL_at tL_say_ok 4 rfl) rfl ?_
  refine hr_iload_n X (tL_at tL_say_ok 5 rfl) rfl ?_
  refine hr_iload X (tL_at tL_say_ok 6 rfl) rfl ?_
  refine hr_callVC X kCL_73 (tL_at tL_say_ok 7 rfl) (c_X5_say cA hR hI hok p s t said) hR.c0 rfl rfl rfl rfl (Nat.le_of_ble_eq_true rfl) ⟨⟨(Nat.le_of_ble_eq_true rfl), (Nat.le_of_ble_eq_true rfl)⟩, (Nat.le_of_ble_eq_true rfl), (Nat.le_of_ble_eq_true rfl)⟩ (fun E M1 q9 hp => ?_) (fun v M1 hp => ?_)
  · obtain ⟨hE, hR1⟩ := hp
    have hQ1 : ls_Q cA M0 (ad 0 0) sg M1 := ⟨ta, ad, hR1, hok, rfl⟩
    rcases hE with ⟨hth, rfl⟩ | ⟨hth, rfl⟩ | ⟨hth, rfl⟩
    · refine lh_at X hC [] (0, 14, 17, 19) [(0, 14, 21, 21), (0, 14, 25, 13)] rfl (fun _ h => absurd h List.not_mem_nil) (by decide) (by decide) kXL_19 (by decide +kernel) ?_
      show hm_W C _ _ _ _ 17 _ _
      refine hr_astore X (tL_at tL_say_ok 11 rfl) (Nat.le_of_ble_eq_true rfl) (Or.inr ⟨_, rfl⟩) ?_
      exact lh_bad X (tL_at tL_say_ok 12 rfl) (by rw [hth]; decide) (by rw [hth]; decide) (tL_at tL_say_ok 13 rfl) ho (by rw [if_neg (by rw [hth]; decide)]; exact hQ1) (Nat.le_of_ble_eq_true rfl) (Nat.le_of_ble_eq_true rfl)
    · refine lh_at X hC [(0, 14, 17, 19)] (0, 14, 21, 21) [(0, 14, 25, 13)] rfl (List.forall_mem_cons.mpr ⟨⟨by decide, _, kXL_19, by decide +kernel⟩, (fun _ h => absurd h List.not_mem_nil)⟩) (by decide) (by decide) kXL_21 (by decide +kernel) ?_
      show hm_W C _ _ _ _ 21 _ _
      refine hr_astore X (tL_at tL_say_ok 14 rfl) (Nat.le_of_ble_eq_true rfl) (Or.inr ⟨_, rfl⟩) ?_
      exact lh_bad X (tL_at tL_say_ok 15 rfl) (by rw [hth]; decide) (by rw [hth]; decide) (tL_at tL_say_ok 16 rfl) ho (by rw [if_neg (by rw [hth]; decide)]; exact hQ1) (Nat.le_of_ble_eq_true rfl) (Nat.le_of_ble_eq_true rfl)
    · refine lh_at X hC [(0, 14, 17, 19), (0, 14, 21, 21)] (0, 14, 25, 13) [] rfl (List.forall_mem_cons.mpr ⟨⟨by decide, _, kXL_19, by decide +kernel⟩, (List.forall_mem_cons.mpr ⟨⟨by decide, _, kXL_21, by decide +kernel⟩, (fun _ h => absurd h List.not_mem_nil)⟩)⟩) (by decide) (by decide) kXL_13 (by decide +kernel) ?_
      show hm_W C _ _ _ _ 25 _ _
      refine hr_astore X (tL_at tL_say_ok 17 rfl) (Nat.le_of_ble_eq_true rfl) (Or.inr ⟨_, rfl⟩) ?_
      exact lh_bad X (tL_at tL_say_ok 18 rfl) (by rw [hth]; decide) (by rw [hth]; decide) (tL_at tL_say_ok 19 rfl) ho (by rw [if_neg (by rw [hth]; decide)]; exact hQ1) (Nat.le_of_ble_eq_true rfl) (Nat.le_of_ble_eq_true rfl)
  · obtain ⟨hth, rfl, ta1, hR1, hok1⟩ := hp
    have hQ2 : ls_Q cA M0 (ad 0 0) (if sp_thSay sg p s t said = 0 then sp_sayN sg (nN p) (nN s) (nN t) said else sg) M1 := by rw [if_pos hth]; exact ⟨ta1, ad, hR1, hok1, rfl⟩
    exact lh_end 29 X (tL_at tL_say_ok 8 rfl) (tL_at tL_say_ok 9 rfl) (tL_at tL_say_ok 10 rfl) (by decide) (tL_at tL_say_ok 20 rfl) (tL_at tL_say_ok 21 rfl) ho hth hQ2 (Nat.le_of_ble_eq_true rfl) (Nat.le_of_ble_eq_true rfl)
set_option maxHeartbeats 4000000 in
set_option maxRecDepth 100000 in
theorem c_L_hand (cA : Nat → ClassId) {sg : mm_S} {M0 M : hm_M} {b o : Nat} {f : Nat → Int64} (hI : sp_I sg) (hJ : sp_J sg) (hQ : ls_Q cA M0 b sg M) (ho : M0 o = some (lw_o cA f)) (p s : Int32) : hm_HMet cA yL_hand cL_hand 5 (some .int) [(0, 10, 13, 19), (0, 10, 17, 13)] r_L [.ref b, .int p, .int s, .ref o] M (lw_H cA M0 b o (sp_thHand sg p s) (sp_due sg (sp_k p s)) (if sp_thHand sg p s = 0 then sp_handS sg (sp_k p s) else sg)) := by
  obtain ⟨ta, ad, hR, hok, rfl⟩ := hQ
  refine hm_hmet 1 (by decide +kernel) (fun w h => by simp only [List.mem_cons, List.not_mem_nil, or_false] at h; rcases h with rfl | rfl | rfl | rfl <;> rfl) rfl (fun C X hC => ?_)
  show hm_W C 0 0 _ M 0 [some (.ref (ad 0 0)), some (.int p), some (.int s), some (.ref o), none] []
  refine hr_aload_n X (tL_at tL_hand_ok 0 rfl) rfl (Or.inr ⟨_, rfl⟩) ?_
  refine hr_iconst 0 X (tL_at tL_hand_ok 1 rfl) (by decide) ?_
  refine hr_aload_n X (tL_at tL_hand_ok 2 rfl) rfl (Or.inr ⟨_, rfl⟩) ?_
  refine hr_iload_n X (tL_at tL_hand_ok 3 rfl) rfl ?_
  refine hr_iload_n X (tL_at tL_hand_ok 4 rfl) rfl ?_
  refine hr_callVC X kCL_76 (tL_at tL_hand_ok 5 rfl) (c_X5_hand cA hR hI hok p s) hR.c0 rfl rfl rfl rfl (Nat.le_of_ble_eq_true rfl) ⟨⟨(Nat.le_of_ble_eq_true rfl), (Nat.le_of_ble_eq_true rfl)⟩, (Nat.le_of_ble_eq_true rfl), (Nat.le_of_ble_eq_true rfl)⟩ (fun E M1 q9 hp => ?_) (fun v M1 hp => ?_)
  · obtain ⟨hE, hR1⟩ := hp
    have hQ1 : ls_Q cA M0 (ad 0 0) sg M1 := ⟨ta, ad, hR1, hok, rfl⟩
    rcases hE with ⟨hth, rfl⟩ | ⟨hth, rfl⟩
    · refine lh_at X hC [] (0, 10, 13, 19) [(0, 10, 17, 13)] rfl (fun _ h => absurd h List.not_mem_nil) (by decide) (by decide) kXL_19 (by decide +kernel) ?_
      show hm_W C _ _ _ _ 13 _ _
      refine hr_astore X (tL_at tL_hand_ok 9 rfl) (Nat.le_of_ble_eq_true rfl) (Or.inr ⟨_, rfl⟩) ?_
      exact lh_bad X (tL_at tL_hand_ok 10 rfl) (by rw [hth]; decide) (by rw [hth]; decide) (tL_at tL_hand_ok 11 rfl) ho (by rw [if_neg (by rw [hth]; decide)]; exact hQ1) (Nat.le_of_ble_eq_true rfl) (Nat.le_of_ble_eq_true rfl)
    · refine lh_at X hC [(0, 10, 13, 19)] (0, 10, 17, 13) [] rfl (List.forall_mem_cons.mpr ⟨⟨by decide, _, kXL_19, by decide +kernel⟩, (fun _ h => absurd h List.not_mem_nil)⟩) (by decide) (by decide) kXL_13 (by decide +kernel) ?_
      show hm_W C _ _ _ _ 17 _ _
      refine hr_astore X (tL_at tL_hand_ok 12 rfl) (Nat.le_of_ble_eq_true rfl) (Or.inr ⟨_, rfl⟩) ?_
      exact lh_bad X (tL_at tL_hand_ok 13 rfl) (by rw [hth]; decide) (by rw [hth]; decide) (tL_at tL_hand_ok 14 rfl) ho (by rw [if_neg (by rw [hth]; decide)]; exact hQ1) (Nat.le_of_ble_eq_true rfl) (Nat.le_of_ble_eq_true rfl)
  · obtain ⟨hth, rfl, ta1, hR1, hok1⟩ := hp
    have hQ2 : ls_Q cA M0 (ad 0 0) (if sp_thHand sg p s = 0 then sp_handS sg (sp_k p s) else sg) M1 := by rw [if_pos hth]; exact ⟨ta1, ad, hR1, hok1, rfl⟩
    exact lh_end 21 X (tL_at tL_hand_ok 6 rfl) (tL_at tL_hand_ok 7 rfl) (tL_at tL_hand_ok 8 rfl) (by decide) (tL_at tL_hand_ok 15 rfl) (tL_at tL_hand_ok 16 rfl) ho hth hQ2 (Nat.le_of_ble_eq_true rfl) (Nat.le_of_ble_eq_true rfl)
set_option maxHeartbeats 4000000 in
set_option maxRecDepth 100000 in
theorem c_L_close (cA : Nat → ClassId) {sg : mm_S} {M0 M : hm_M} {b o : Nat} {f : Nat → Int64} (hI : sp_I sg) (hJ : sp_J sg) (hQ : ls_Q cA M0 b sg M) (ho : M0 o = some (lw_o cA f)) (g s : Int32) : hm_HMet cA yL_close cL_close 5 (some .int) [(0, 10, 13, 19), (0, 10, 17, 13)] r_L [.ref b, .int g, .int s, .ref o] M (lw_H cA M0 b o (sp_thClose sg g s) (sp_clN (mm_up sg 11 (4 * nN s + nN g) 1) (12 * nN s + 3 * nN g) 3) (if sp_thClose sg g s = 0 then sp_clS (mm_up sg 11 (4 * nN s + nN g) 1) (12 * nN s + 3 * nN g) 3 else sg)) := by
  obtain ⟨ta, ad, hR, hok, rfl⟩ := hQ
  refine hm_hmet 1 (by decide +kernel) (fun w h => by simp only [List.mem_cons, List.not_mem_nil, or_false] at h; rcases h with rfl | rfl | rfl | rfl <;> rfl) rfl (fun C X hC => ?_)
  show hm_W C 0 0 _ M 0 [some (.ref (ad 0 0)), some (.int g), some (.int s), some (.ref o), none] []
  refine hr_aload_n X (tL_at tL_close_ok 0 rfl) rfl (Or.inr ⟨_, rfl⟩) ?_
  refine hr_iconst 0 X (tL_at tL_close_ok 1 rfl) (by decide) ?_
  refine hr_aload_n X (tL_at tL_close_ok 2 rfl) rfl (Or.inr ⟨_, rfl⟩) ?_
  refine hr_iload_n X (tL_at tL_close_ok 3 rfl) rfl ?_
  refine hr_iload_n X (tL_at tL_close_ok 4 rfl) rfl ?_
  refine hr_callVC X kCL_79 (tL_at tL_close_ok 5 rfl) (c_X5_close cA hR hI hok g s) hR.c0 rfl rfl rfl rfl (Nat.le_of_ble_eq_true rfl) ⟨⟨(Nat.le_of_ble_eq_true rfl), (Nat.le_of_ble_eq_true rfl)⟩, (Nat.le_of_ble_eq_true rfl), (Nat.le_of_ble_eq_true rfl)⟩ (fun E M1 q9 hp => ?_) (fun v M1 hp => ?_)
  · obtain ⟨hE, hR1⟩ := hp
    have hQ1 : ls_Q cA M0 (ad 0 0) sg M1 := ⟨ta, ad, hR1, hok, rfl⟩
    rcases hE with ⟨hth, rfl⟩ | ⟨hth, rfl⟩
    · refine lh_at X hC [] (0, 10, 13, 19) [(0, 10, 17, 13)] rfl (fun _ h => absurd h List.not_mem_nil) (by decide) (by decide) kXL_19 (by decide +kernel) ?_
      show hm_W C _ _ _ _ 13 _ _
      refine hr_astore X (tL_at tL_close_ok 9 rfl) (Nat.le_of_ble_eq_true rfl) (Or.inr ⟨_, rfl⟩) ?_
      exact lh_bad X (tL_at tL_close_ok 10 rfl) (by rw [hth]; decide) (by rw [hth]; decide) (tL_at tL_close_ok 11 rfl) ho (by rw [if_neg (by rw [hth]; decide)]; exact hQ1) (Nat.le_of_ble_eq_true rfl) (Nat.le_of_ble_eq_true rfl)
    · refine lh_at X hC [(0, 10, 13, 19)] (0, 10, 17, 13) [] rfl (List.forall_mem_cons.mpr ⟨⟨by decide, _, kXL_19, by decide +kernel⟩, (fun _ h => absurd h List.not_mem_nil)⟩) (by decide) (by decide) kXL_13 (by decide +kernel) ?_
      show hm_W C _ _ _ _ 17 _ _
      refine hr_astore X (tL_at tL_close_ok 12 rfl) (Nat.le_of_ble_eq_true rfl) (Or.inr ⟨_, rfl⟩) ?_
      exact lh_bad X (tL_at tL_close_ok 13 rfl) (by rw [hth]; decide) (by rw [hth]; decide) (tL_at tL_close_ok 14 rfl) ho (by rw [if_neg (by rw [hth]; decide)]; exact hQ1) (Nat.le_of_ble_eq_true rfl) (Nat.le_of_ble_eq_true rfl)
  · obtain ⟨hth, rfl, ta1, hR1, hok1⟩ := hp
    have hQ2 : ls_Q cA M0 (ad 0 0) (if sp_thClose sg g s = 0 then sp_clS (mm_up sg 11 (4 * nN s + nN g) 1) (12 * nN s + 3 * nN g) 3 else sg) M1 := by rw [if_pos hth]; exact ⟨ta1, ad, hR1, hok1, rfl⟩
    exact lh_end 21 X (tL_at tL_close_ok 6 rfl) (tL_at tL_close_ok 7 rfl) (tL_at tL_close_ok 8 rfl) (by decide) (tL_at tL_close_ok 15 rfl) (tL_at tL_close_ok 16 rfl) ho hth hQ2 (Nat.le_of_ble_eq_true rfl) (Nat.le_of_ble_eq_true rfl)
set_option maxHeartbeats 4000000 in
set_option maxRecDepth 100000 in
theorem c_L_answer (cA : Nat → ClassId) {sg : mm_S} {M0 M : hm_M} {b o : Nat} {f : Nat → Int64} (hI : sp_I sg) (hJ : sp_J sg) (hQ : ls_Q cA M0 b sg M) (ho : M0 o = some (lw_o cA f)) (p s : Int32) : hm_HMet cA yL_answer cL_answer 5 (some .int) [(0, 10, 13, 19)] r_L [.ref b, .int p, .int s, .ref o] M (lw_H cA M0 b o (sp_w (sp_both sg p s)) (sg 13 (sp_k p s)) sg) := by
  obtain ⟨ta, ad, hR, hok, rfl⟩ := hQ
  refine hm_hmet 1 (by decide +kernel) (fun w h => by simp only [List.mem_cons, List.not_mem_nil, or_false] at h; rcases h with rfl | rfl | rfl | rfl <;> rfl) rfl (fun C X hC => ?_)
  show hm_W C 0 0 _ M 0 [some (.ref (ad 0 0)), some (.int p), some (.int s), some (.ref o), none] []
  refine hr_aload_n X (tL_at tL_answer_ok 0 rfl) rfl (Or.inr ⟨_, rfl⟩) ?_
  refine hr_iconst 0 X (tL_at tL_answer_ok 1 rfl) (by decide) ?_
  refine hr_aload_n X (tL_at tL_answer_ok 2 rfl) rfl (Or.inr ⟨_, rfl⟩) ?_
  refine hr_iload_n X (tL_at tL_answer_ok 3 rfl) rfl ?_
  refine hr_iload_n X (tL_at tL_answer_ok 4 rfl) rfl ?_
  refine hr_callVC X kCL_82 (tL_at tL_answer_ok 5 rfl) (c_X5_answer cA hR hI p s) hR.c0 rfl rfl rfl rfl (Nat.le_of_ble_eq_true rfl) ⟨⟨(Nat.le_of_ble_eq_true rfl), (Nat.le_of_ble_eq_true rfl)⟩, (Nat.le_of_ble_eq_true rfl), (Nat.le_of_ble_eq_true rfl)⟩ (fun E M1 q9 hp => ?_) (fun v M1 hp => ?_)
  · obtain ⟨hc, rfl, rfl⟩ := hp
    have hth : sp_w (sp_both sg p s) = 1 := by show sp_w (sp_in p 0 11 && sp_isS sg s) = 1; rw [hc]; rfl
    have hQ1 : ls_Q cA M0 (ad 0 0) sg M := ⟨ta, ad, hR, hok, rfl⟩
    refine lh_at X hC [] (0, 10, 13, 19) [] rfl (fun _ h => absurd h List.not_mem_nil) (by decide) (by decide) kXL_19 (by decide +kernel) ?_
    show hm_W C _ _ _ _ 13 _ _
    refine hr_astore X (tL_at tL_answer_ok 9 rfl) (Nat.le_of_ble_eq_true rfl) (Or.inr ⟨_, rfl⟩) ?_
    exact lh_bad X (tL_at tL_answer_ok 10 rfl) (by rw [hth]; decide) (by rw [hth]; decide) (tL_at tL_answer_ok 11 rfl) ho hQ1 (Nat.le_of_ble_eq_true rfl) (Nat.le_of_ble_eq_true rfl)
  · obtain ⟨hc, rfl, rfl⟩ := hp
    have hth : sp_w (sp_both sg p s) = 0 := sp_w_0.mpr hc
    have hQ2 : ls_Q cA M0 (ad 0 0) sg M := ⟨ta, ad, hR, hok, rfl⟩
    rw [lb_answer hI hc]
    exact lh_end 17 X (tL_at tL_answer_ok 6 rfl) (tL_at tL_answer_ok 7 rfl) (tL_at tL_answer_ok 8 rfl) (by decide) (tL_at tL_answer_ok 12 rfl) (tL_at tL_answer_ok 13 rfl) ho hth hQ2 (Nat.le_of_ble_eq_true rfl) (Nat.le_of_ble_eq_true rfl)
set_option maxHeartbeats 4000000 in
set_option maxRecDepth 100000 in
theorem c_L_mark (cA : Nat → ClassId) {sg : mm_S} {M0 M : hm_M} {b o : Nat} {f : Nat → Int64} (hI : sp_I sg) (hJ : sp_J sg) (hQ : ls_Q cA M0 b sg M) (ho : M0 o = some (lw_o cA f)) (p s : Int32) : hm_HMet cA yL_mark cL_mark 5 (some .int) [(0, 10, 13, 19)] r_L [.ref b, .int p, .int s, .ref o] M (lw_H cA M0 b o (sp_w (sp_both sg p s)) (sp_rMark sg (sp_k p s)) sg) := by
  obtain ⟨ta, ad, hR, hok, rfl⟩ := hQ
  refine hm_hmet 1 (by decide +kernel) (fun w h => by simp only [List.mem_cons, List.not_mem_nil, or_false] at h; rcases h with rfl | rfl | rfl | rfl <;> rfl) rfl (fun C X hC => ?_)
  show hm_W C 0 0 _ M 0 [some (.ref (ad 0 0)), some (.int p), some (.int s), some (.ref o), none] []
  refine hr_aload_n X (tL_at tL_mark_ok 0 rfl) rfl (Or.inr ⟨_, rfl⟩) ?_
  refine hr_iconst 0 X (tL_at tL_mark_ok 1 rfl) (by decide) ?_
  refine hr_aload_n X (tL_at tL_mark_ok 2 rfl) rfl (Or.inr ⟨_, rfl⟩) ?_
  refine hr_iload_n X (tL_at tL_mark_ok 3 rfl) rfl ?_
  refine hr_iload_n X (tL_at tL_mark_ok 4 rfl) rfl ?_
  refine hr_callVC X kCL_85 (tL_at tL_mark_ok 5 rfl) (c_X5_mark cA hR hI p s) hR.c0 rfl rfl rfl rfl (Nat.le_of_ble_eq_true rfl) ⟨⟨(Nat.le_of_ble_eq_true rfl), (Nat.le_of_ble_eq_true rfl)⟩, (Nat.le_of_ble_eq_true rfl), (Nat.le_of_ble_eq_true rfl)⟩ (fun E M1 q9 hp => ?_) (fun v M1 hp => ?_)
  · obtain ⟨hc, rfl, rfl⟩ := hp
    have hth : sp_w (sp_both sg p s) = 1 := by show sp_w (sp_in p 0 11 && sp_isS sg s) = 1; rw [hc]; rfl
    have hQ1 : ls_Q cA M0 (ad 0 0) sg M := ⟨ta, ad, hR, hok, rfl⟩
    refine lh_at X hC [] (0, 10, 13, 19) [] rfl (fun _ h => absurd h List.not_mem_nil) (by decide) (by decide) kXL_19 (by decide +kernel) ?_
    show hm_W C _ _ _ _ 13 _ _
    refine hr_astore X (tL_at tL_mark_ok 9 rfl) (Nat.le_of_ble_eq_true rfl) (Or.inr ⟨_, rfl⟩) ?_
    exact lh_bad X (tL_at tL_mark_ok 10 rfl) (by rw [hth]; decide) (by rw [hth]; decide) (tL_at tL_mark_ok 11 rfl) ho hQ1 (Nat.le_of_ble_eq_true rfl) (Nat.le_of_ble_eq_true rfl)
  · obtain ⟨hc, rfl, rfl⟩ := hp
    have hth : sp_w (sp_both sg p s) = 0 := sp_w_0.mpr hc
    have hQ2 : ls_Q cA M0 (ad 0 0) sg M := ⟨ta, ad, hR, hok, rfl⟩
    rw [lb_mark]
    exact lh_end 17 X (tL_at tL_mark_ok 6 rfl) (tL_at tL_mark_ok 7 rfl) (tL_at tL_mark_ok 8 rfl) (by decide) (tL_at tL_mark_ok 12 rfl) (tL_at tL_mark_ok 13 rfl) ho hth hQ2 (Nat.le_of_ble_eq_true rfl) (Nat.le_of_ble_eq_true rfl)
set_option maxHeartbeats 4000000 in
set_option maxRecDepth 100000 in
theorem c_L_due (cA : Nat → ClassId) {sg : mm_S} {M0 M : hm_M} {b o : Nat} {f : Nat → Int64} (hI : sp_I sg) (hJ : sp_J sg) (hQ : ls_Q cA M0 b sg M) (ho : M0 o = some (lw_o cA f)) (p s : Int32) : hm_HMet cA yL_due cL_due 5 (some .int) [(0, 10, 13, 19)] r_L [.ref b, .int p, .int s, .ref o] M (lw_H cA M0 b o (sp_w (sp_both sg p s)) (sp_rDue sg (sp_k p s)) sg) := by
  obtain ⟨ta, ad, hR, hok, rfl⟩ := hQ
  refine hm_hmet 1 (by decide +kernel) (fun w h => by simp only [List.mem_cons, List.not_mem_nil, or_false] at h; rcases h with rfl | rfl | rfl | rfl <;> rfl) rfl (fun C X hC => ?_)
  show hm_W C 0 0 _ M 0 [some (.ref (ad 0 0)), some (.int p), some (.int s), some (.ref o), none] []
  refine hr_aload_n X (tL_at tL_due_ok 0 rfl) rfl (Or.inr ⟨_, rfl⟩) ?_
  refine hr_iconst 0 X (tL_at tL_due_ok 1 rfl) (by decide) ?_
  refine hr_aload_n X (tL_at tL_due_ok 2 rfl) rfl (Or.inr ⟨_, rfl⟩) ?_
  refine hr_iload_n X (tL_at tL_due_ok 3 rfl) rfl ?_
  refine hr_iload_n X (tL_at tL_due_ok 4 rfl) rfl ?_
  refine hr_callVC X kCL_88 (tL_at tL_due_ok 5 rfl) (c_X5_due cA hR hI hok.o2 p s) hR.c0 rfl rfl rfl rfl (Nat.le_of_ble_eq_true rfl) ⟨⟨(Nat.le_of_ble_eq_true rfl), (Nat.le_of_ble_eq_true rfl)⟩, (Nat.le_of_ble_eq_true rfl), (Nat.le_of_ble_eq_true rfl)⟩ (fun E M1 q9 hp => ?_) (fun v M1 hp => ?_)
  · obtain ⟨hc, rfl, rfl⟩ := hp
    have hth : sp_w (sp_both sg p s) = 1 := by show sp_w (sp_in p 0 11 && sp_isS sg s) = 1; rw [hc]; rfl
    have hQ1 : ls_Q cA M0 (ad 0 0) sg M := ⟨ta, ad, hR, hok, rfl⟩
    refine lh_at X hC [] (0, 10, 13, 19) [] rfl (fun _ h => absurd h List.not_mem_nil) (by decide) (by decide) kXL_19 (by decide +kernel) ?_
    show hm_W C _ _ _ _ 13 _ _
    refine hr_astore X (tL_at tL_due_ok 9 rfl) (Nat.le_of_ble_eq_true rfl) (Or.inr ⟨_, rfl⟩) ?_
    exact lh_bad X (tL_at tL_due_ok 10 rfl) (by rw [hth]; decide) (by rw [hth]; decide) (tL_at tL_due_ok 11 rfl) ho hQ1 (Nat.le_of_ble_eq_true rfl) (Nat.le_of_ble_eq_true rfl)
  · obtain ⟨hc, rfl, ta1, hR1, ht1⟩ := hp
    have hth : sp_w (sp_both sg p s) = 0 := sp_w_0.mpr hc
    have hQ2 : ls_Q cA M0 (ad 0 0) sg M1 := ⟨ta1, ad, hR1, hok.congr (fun j h5 _ _ => ht1 j h5), rfl⟩
    exact lh_end 17 X (tL_at tL_due_ok 6 rfl) (tL_at tL_due_ok 7 rfl) (tL_at tL_due_ok 8 rfl) (by decide) (tL_at tL_due_ok 12 rfl) (tL_at tL_due_ok 13 rfl) ho hth hQ2 (Nat.le_of_ble_eq_true rfl) (Nat.le_of_ble_eq_true rfl)
set_option maxHeartbeats 4000000 in
set_option maxRecDepth 100000 in
theorem c_L_told (cA : Nat → ClassId) {sg : mm_S} {M0 M : hm_M} {b o : Nat} {f : Nat → Int64} (hI : sp_I sg) (hJ : sp_J sg) (hQ : ls_Q cA M0 b sg M) (ho : M0 o = some (lw_o cA f)) (p s : Int32) : hm_HMet cA yL_told cL_told 5 (some .int) [(0, 10, 13, 19)] r_L [.ref b, .int p, .int s, .ref o] M (lw_H cA M0 b o (sp_w (sp_both sg p s)) (sg 16 (sp_k p s)) sg) := by
  obtain ⟨ta, ad, hR, hok, rfl⟩ := hQ
  refine hm_hmet 1 (by decide +kernel) (fun w h => by simp only [List.mem_cons, List.not_mem_nil, or_false] at h; rcases h with rfl | rfl | rfl | rfl <;> rfl) rfl (fun C X hC => ?_)
  show hm_W C 0 0 _ M 0 [some (.ref (ad 0 0)), some (.int p), some (.int s), some (.ref o), none] []
  refine hr_aload_n X (tL_at tL_told_ok 0 rfl) rfl (Or.inr ⟨_, rfl⟩) ?_
  refine hr_iconst 0 X (tL_at tL_told_ok 1 rfl) (by decide) ?_
  refine hr_aload_n X (tL_at tL_told_ok 2 rfl) rfl (Or.inr ⟨_, rfl⟩) ?_
  refine hr_iload_n X (tL_at tL_told_ok 3 rfl) rfl ?_
  refine hr_iload_n X (tL_at tL_told_ok 4 rfl) rfl ?_
  refine hr_callVC X kCL_91 (tL_at tL_told_ok 5 rfl) (c_X5_told cA hR hI p s) hR.c0 rfl rfl rfl rfl (Nat.le_of_ble_eq_true rfl) ⟨⟨(Nat.le_of_ble_eq_true rfl), (Nat.le_of_ble_eq_true rfl)⟩, (Nat.le_of_ble_eq_true rfl), (Nat.le_of_ble_eq_true rfl)⟩ (fun E M1 q9 hp => ?_) (fun v M1 hp => ?_)
  · obtain ⟨hc, rfl, rfl⟩ := hp
    have hth : sp_w (sp_both sg p s) = 1 := by show sp_w (sp_in p 0 11 && sp_isS sg s) = 1; rw [hc]; rfl
    have hQ1 : ls_Q cA M0 (ad 0 0) sg M := ⟨ta, ad, hR, hok, rfl⟩
    refine lh_at X hC [] (0, 10, 13, 19) [] rfl (fun _ h => absurd h List.not_mem_nil) (by decide) (by decide) kXL_19 (by decide +kernel) ?_
    show hm_W C _ _ _ _ 13 _ _
    refine hr_astore X (tL_at tL_told_ok 9 rfl) (Nat.le_of_ble_eq_true rfl) (Or.inr ⟨_, rfl⟩) ?_
    exact lh_bad X (tL_at tL_told_ok 10 rfl) (by rw [hth]; decide) (by rw [hth]; decide) (tL_at tL_told_ok 11 rfl) ho hQ1 (Nat.le_of_ble_eq_true rfl) (Nat.le_of_ble_eq_true rfl)
  · obtain ⟨hc, rfl, rfl⟩ := hp
    have hth : sp_w (sp_both sg p s) = 0 := sp_w_0.mpr hc
    have hQ2 : ls_Q cA M0 (ad 0 0) sg M := ⟨ta, ad, hR, hok, rfl⟩
    rw [lb_told hI hJ hc]
    exact lh_end 17 X (tL_at tL_told_ok 6 rfl) (tL_at tL_told_ok 7 rfl) (tL_at tL_told_ok 8 rfl) (by decide) (tL_at tL_told_ok 12 rfl) (tL_at tL_told_ok 13 rfl) ho hth hQ2 (Nat.le_of_ble_eq_true rfl) (Nat.le_of_ble_eq_true rfl)
set_option maxHeartbeats 4000000 in
set_option maxRecDepth 100000 in
theorem c_L_average (cA : Nat → ClassId) {sg : mm_S} {M0 M : hm_M} {b o : Nat} {f : Nat → Int64} (hI : sp_I sg) (hJ : sp_J sg) (hQ : ls_Q cA M0 b sg M) (ho : M0 o = some (lw_o cA f)) (g s : Int32) : hm_HMet cA yL_average cL_average 5 (some .int) [(0, 10, 13, 19)] r_L [.ref b, .int g, .int s, .ref o] M (lw_H cA M0 b o (sp_w (sp_cs sg g s)) (sp_avg sg (12 * nN s + 3 * nN g)) sg) := by
  obtain ⟨ta, ad, hR, hok, rfl⟩ := hQ
  refine hm_hmet 1 (by decide +kernel) (fun w h => by simp only [List.mem_cons, List.not_mem_nil, or_false] at h; rcases h with rfl | rfl | rfl | rfl <;> rfl) rfl (fun C X hC => ?_)
  show hm_W C 0 0 _ M 0 [some (.ref (ad 0 0)), some (.int g), some (.int s), some (.ref o), none] []
  refine hr_aload_n X (tL_at tL_average_ok 0 rfl) rfl (Or.inr ⟨_, rfl⟩) ?_
  refine hr_iconst 0 X (tL_at tL_average_ok 1 rfl) (by decide) ?_
  refine hr_aload_n X (tL_at tL_average_ok 2 rfl) rfl (Or.inr ⟨_, rfl⟩) ?_
  refine hr_iload_n X (tL_at tL_average_ok 3 rfl) rfl ?_
  refine hr_iload_n X (tL_at tL_average_ok 4 rfl) rfl ?_
  refine hr_callVC X kCL_94 (tL_at tL_average_ok 5 rfl) (c_X5_average cA hR hI g s) hR.c0 rfl rfl rfl rfl (Nat.le_of_ble_eq_true rfl) ⟨⟨(Nat.le_of_ble_eq_true rfl), (Nat.le_of_ble_eq_true rfl)⟩, (Nat.le_of_ble_eq_true rfl), (Nat.le_of_ble_eq_true rfl)⟩ (fun E M1 q9 hp => ?_) (fun v M1 hp => ?_)
  · obtain ⟨hc, rfl, rfl⟩ := hp
    have hth : sp_w (sp_cs sg g s) = 1 := by rw [hc]; rfl
    have hQ1 : ls_Q cA M0 (ad 0 0) sg M := ⟨ta, ad, hR, hok, rfl⟩
    refine lh_at X hC [] (0, 10, 13, 19) [] rfl (fun _ h => absurd h List.not_mem_nil) (by decide) (by decide) kXL_19 (by decide +kernel) ?_
    show hm_W C _ _ _ _ 13 _ _
    refine hr_astore X (tL_at tL_average_ok 9 rfl) (Nat.le_of_ble_eq_true rfl) (Or.inr ⟨_, rfl⟩) ?_
    exact lh_bad X (tL_at tL_average_ok 10 rfl) (by rw [hth]; decide) (by rw [hth]; decide) (tL_at tL_average_ok 11 rfl) ho hQ1 (Nat.le_of_ble_eq_true rfl) (Nat.le_of_ble_eq_true rfl)
  · obtain ⟨hc, rfl, rfl⟩ := hp
    have hth : sp_w (sp_cs sg g s) = 0 := sp_w_0.mpr hc
    have hQ2 : ls_Q cA M0 (ad 0 0) sg M := ⟨ta, ad, hR, hok, rfl⟩
    exact lh_end 17 X (tL_at tL_average_ok 6 rfl) (tL_at tL_average_ok 7 rfl) (tL_at tL_average_ok 8 rfl) (by decide) (tL_at tL_average_ok 12 rfl) (tL_at tL_average_ok 13 rfl) ho hth hQ2 (Nat.le_of_ble_eq_true rfl) (Nat.le_of_ble_eq_true rfl)
set_option maxHeartbeats 4000000 in
set_option maxRecDepth 100000 in
theorem c_L_fingerprints (cA : Nat → ClassId) {sg : mm_S} {M0 M : hm_M} {b o : Nat} {f : Nat → Int64} (hI : sp_I sg) (hJ : sp_J sg) (hQ : ls_Q cA M0 b sg M) (ho : M0 o = some (lw_o cA f)) (p s : Int32) : hm_HMet cA yL_fingerprints cL_fingerprints 5 (some .int) [(0, 10, 13, 19)] r_L [.ref b, .int p, .int s, .ref o] M (lw_H cA M0 b o (sp_w (sp_both sg p s)) (nI (sp_prs sg (sp_k p s)).length) sg) := by
  obtain ⟨ta, ad, hR, hok, rfl⟩ := hQ
  refine hm_hmet 1 (by decide +kernel) (fun w h => by simp only [List.mem_cons, List.not_mem_nil, or_false] at h; rcases h with rfl | rfl | rfl | rfl <;> rfl) rfl (fun C X hC => ?_)
  show hm_W C 0 0 _ M 0 [some (.ref (ad 0 0)), some (.int p), some (.int s), some (.ref o), none] []
  refine hr_aload_n X (tL_at tL_fingerprints_ok 0 rfl) rfl (Or.inr ⟨_, rfl⟩) ?_
  refine hr_iconst 0 X (tL_at tL_fingerprints_ok 1 rfl) (by decide) ?_
  refine hr_aload_n X (tL_at tL_fingerprints_ok 2 rfl) rfl (Or.inr ⟨_, rfl⟩) ?_
  refine hr_iload_n X (tL_at tL_fingerprints_ok 3 rfl) rfl ?_
  refine hr_iload_n X (tL_at tL_fingerprints_ok 4 rfl) rfl ?_
  refine hr_callVC X kCL_97 (tL_at tL_fingerprints_ok 5 rfl) (c_X5_fingerprints cA hR hI p s) hR.c0 rfl rfl rfl rfl (Nat.le_of_ble_eq_true rfl) ⟨⟨(Nat.le_of_ble_eq_true rfl), (Nat.le_of_ble_eq_true rfl)⟩, (Nat.le_of_ble_eq_true rfl), (Nat.le_of_ble_eq_true rfl)⟩ (fun E M1 q9 hp => ?_) (fun v M1 hp => ?_)
  · obtain ⟨hc, rfl, rfl⟩ := hp
    have hth : sp_w (sp_both sg p s) = 1 := by show sp_w (sp_in p 0 11 && sp_isS sg s) = 1; rw [hc]; rfl
    have hQ1 : ls_Q cA M0 (ad 0 0) sg M := ⟨ta, ad, hR, hok, rfl⟩
    refine lh_at X hC [] (0, 10, 13, 19) [] rfl (fun _ h => absurd h List.not_mem_nil) (by decide) (by decide) kXL_19 (by decide +kernel) ?_
    show hm_W C _ _ _ _ 13 _ _
    refine hr_astore X (tL_at tL_fingerprints_ok 9 rfl) (Nat.le_of_ble_eq_true rfl) (Or.inr ⟨_, rfl⟩) ?_
    exact lh_bad X (tL_at tL_fingerprints_ok 10 rfl) (by rw [hth]; decide) (by rw [hth]; decide) (tL_at tL_fingerprints_ok 11 rfl) ho hQ1 (Nat.le_of_ble_eq_true rfl) (Nat.le_of_ble_eq_true rfl)
  · obtain ⟨hc, rfl, rfl⟩ := hp
    have hth : sp_w (sp_both sg p s) = 0 := sp_w_0.mpr hc
    have hQ2 : ls_Q cA M0 (ad 0 0) sg M := ⟨ta, ad, hR, hok, rfl⟩
    rw [lb_fing hI hok hc]
    exact lh_end 17 X (tL_at tL_fingerprints_ok 6 rfl) (tL_at tL_fingerprints_ok 7 rfl) (tL_at tL_fingerprints_ok 8 rfl) (by decide) (tL_at tL_fingerprints_ok 12 rfl) (tL_at tL_fingerprints_ok 13 rfl) ho hth hQ2 (Nat.le_of_ble_eq_true rfl) (Nat.le_of_ble_eq_true rfl)
set_option maxHeartbeats 4000000 in
set_option maxRecDepth 100000 in
theorem c_L_withPrint (cA : Nat → ClassId) {sg : mm_S} {M0 M : hm_M} {b o : Nat} {f : Nat → Int64} (hI : sp_I sg) (hJ : sp_J sg) (hQ : ls_Q cA M0 b sg M) (ho : M0 o = some (lw_o cA f)) (s pr : Int32) : hm_HMet cA yL_withPrint cL_withPrint 5 (some .int) [(0, 10, 13, 19)] r_L [.ref b, .int s, .int pr, .ref o] M (lw_H cA M0 b o (sp_w (sp_isS sg s)) (sp_wp sg (nN s) pr 12) sg) := by
  obtain ⟨ta, ad, hR, hok, rfl⟩ := hQ
  refine hm_hmet 1 (by decide +kernel) (fun w h => by simp only [List.mem_cons, List.not_mem_nil, or_false] at h; rcases h with rfl | rfl | rfl | rfl <;> rfl) rfl (fun C X hC => ?_)
  show hm_W C 0 0 _ M 0 [some (.ref (ad 0 0)), some (.int s), some (.int pr), some (.ref o), none] []
  refine hr_aload_n X (tL_at tL_withPrint_ok 0 rfl) rfl (Or.inr ⟨_, rfl⟩) ?_
  refine hr_iconst 0 X (tL_at tL_withPrint_ok 1 rfl) (by decide) ?_
  refine hr_aload_n X (tL_at tL_withPrint_ok 2 rfl) rfl (Or.inr ⟨_, rfl⟩) ?_
  refine hr_iload_n X (tL_at tL_withPrint_ok 3 rfl) rfl ?_
  refine hr_iload_n X (tL_at tL_withPrint_ok 4 rfl) rfl ?_
  refine hr_callVC X kCL_100 (tL_at tL_withPrint_ok 5 rfl) (c_X5_withPrint cA hR hI hok s pr) hR.c0 rfl rfl rfl rfl (Nat.le_of_ble_eq_true rfl) ⟨⟨(Nat.le_of_ble_eq_true rfl), (Nat.le_of_ble_eq_true rfl)⟩, (Nat.le_of_ble_eq_true rfl), (Nat.le_of_ble_eq_true rfl)⟩ (fun E M1 q9 hp => ?_) (fun v M1 hp => ?_)
  · obtain ⟨hc, rfl, rfl⟩ := hp
    have hth : sp_w (sp_isS sg s) = 1 := by rw [hc]; rfl
    have hQ1 : ls_Q cA M0 (ad 0 0) sg M := ⟨ta, ad, hR, hok, rfl⟩
    refine lh_at X hC [] (0, 10, 13, 19) [] rfl (fun _ h => absurd h List.not_mem_nil) (by decide) (by decide) kXL_19 (by decide +kernel) ?_
    show hm_W C _ _ _ _ 13 _ _
    refine hr_astore X (tL_at tL_withPrint_ok 9 rfl) (Nat.le_of_ble_eq_true rfl) (Or.inr ⟨_, rfl⟩) ?_
    exact lh_bad X (tL_at tL_withPrint_ok 10 rfl) (by rw [hth]; decide) (by rw [hth]; decide) (tL_at tL_withPrint_ok 11 rfl) ho hQ1 (Nat.le_of_ble_eq_true rfl) (Nat.le_of_ble_eq_true rfl)
  · obtain ⟨hc, rfl, rfl⟩ := hp
    have hth : sp_w (sp_isS sg s) = 0 := sp_w_0.mpr hc
    have hQ2 : ls_Q cA M0 (ad 0 0) sg M := ⟨ta, ad, hR, hok, rfl⟩
    exact lh_end 17 X (tL_at tL_withPrint_ok 6 rfl) (tL_at tL_withPrint_ok 7 rfl) (tL_at tL_withPrint_ok 8 rfl) (by decide) (tL_at tL_withPrint_ok 12 rfl) (tL_at tL_withPrint_ok 13 rfl) ho hth hQ2 (Nat.le_of_ble_eq_true rfl) (Nat.le_of_ble_eq_true rfl)
set_option maxHeartbeats 4000000 in
set_option maxRecDepth 100000 in
theorem c_L_likeness (cA : Nat → ClassId) {sg : mm_S} {M0 M : hm_M} {b o : Nat} {f : Nat → Int64} (hI : sp_I sg) (hJ : sp_J sg) (hQ : ls_Q cA M0 b sg M) (ho : M0 o = some (lw_o cA f)) (s p q : Int32) : hm_HMet cA yL_likeness cL_likeness 6 (some .int) [(0, 12, 15, 19)] r_L [.ref b, .int s, .int p, .int q, .ref o] M (lw_H cA M0 b o (sp_w (sp_isS sg s && sp_in p 0 11 && sp_in q 0 11)) (sp_like sg s p q) sg) := by
  obtain ⟨ta, ad, hR, hok, rfl⟩ := hQ
  refine hm_hmet 1 (by decide +kernel) (fun w h => by simp only [List.mem_cons, List.not_mem_nil, or_false] at h; rcases h with rfl | rfl | rfl | rfl | rfl <;> rfl) rfl (fun C X hC => ?_)
  show hm_W C 0 0 _ M 0 [some (.ref (ad 0 0)), some (.int s), some (.int p), some (.int q), some (.ref o), none] []
  refine hr_aload X (tL_at tL_likeness_ok 0 rfl) rfl (Or.inr ⟨_, rfl⟩) ?_
  refine hr_iconst 0 X (tL_at tL_likeness_ok 1 rfl) (by decide) ?_
  refine hr_aload_n X (tL_at tL_likeness_ok 2 rfl) rfl (Or.inr ⟨_, rfl⟩) ?_
  refine hr_iload_n X (tL_at tL_likeness_ok 3 rfl) rfl ?_
  refine hr_iload_n X (tL_at tL_likeness_ok 4 rfl) rfl ?_
  refine hr_iload_n X (tL_at tL_likeness_ok 5 rfl) rfl ?_
  refine hr_callVC X kCL_103 (tL_at tL_likeness_ok 6 rfl) (c_X5_likeness cA hR hI hok s p q) hR.c0 rfl rfl rfl rfl (Nat.le_of_ble_eq_true rfl) ⟨⟨(Nat.le_of_ble_eq_true rfl), (Nat.le_of_ble_eq_true rfl)⟩, (Nat.le_of_ble_eq_true rfl), (Nat.le_of_ble_eq_true rfl)⟩ (fun E M1 q9 hp => ?_) (fun v M1 hp => ?_)
  · obtain ⟨hc, rfl, rfl⟩ := hp
    have hth : sp_w (sp_isS sg s && sp_in p 0 11 && sp_in q 0 11) = 1 := by rw [hc]; rfl
    have hQ1 : ls_Q cA M0 (ad 0 0) sg M := ⟨ta, ad, hR, hok, rfl⟩
    refine lh_at X hC [] (0, 12, 15, 19) [] rfl (fun _ h => absurd h List.not_mem_nil) (by decide) (by decide) kXL_19 (by decide +kernel) ?_
    show hm_W C _ _ _ _ 15 _ _
    refine hr_astore X (tL_at tL_likeness_ok 10 rfl) (Nat.le_of_ble_eq_true rfl) (Or.inr ⟨_, rfl⟩) ?_
    exact lh_bad X (tL_at tL_likeness_ok 11 rfl) (by rw [hth]; decide) (by rw [hth]; decide) (tL_at tL_likeness_ok 12 rfl) ho hQ1 (Nat.le_of_ble_eq_true rfl) (Nat.le_of_ble_eq_true rfl)
  · obtain ⟨hc, rfl, rfl⟩ := hp
    have hth : sp_w (sp_isS sg s && sp_in p 0 11 && sp_in q 0 11) = 0 := sp_w_0.mpr hc
    have hQ2 : ls_Q cA M0 (ad 0 0) sg M := ⟨ta, ad, hR, hok, rfl⟩
    exact lh_end 19 X (tL_at tL_likeness_ok 7 rfl) (tL_at tL_likeness_ok 8 rfl) (tL_at tL_likeness_ok 9 rfl) (by decide) (tL_at tL_likeness_ok 13 rfl) (tL_at tL_likeness_ok 14 rfl) ho hth hQ2 (Nat.le_of_ble_eq_true rfl) (Nat.le_of_ble_eq_true rfl)
set_option maxHeartbeats 4000000 in
set_option maxRecDepth 100000 in
theorem c_L_pairs (cA : Nat → ClassId) {sg : mm_S} {M0 M : hm_M} {b o : Nat} {f : Nat → Int64} (hI : sp_I sg) (hJ : sp_J sg) (hQ : ls_Q cA M0 b sg M) (ho : M0 o = some (lw_o cA f)) (s : Int32) : hm_HMet cA yL_pairs cL_pairs 4 (some .int) [(0, 9, 12, 19)] r_L [.ref b, .int s, .ref o] M (lw_H cA M0 b o (sp_w (sp_isS sg s)) (sp_prN sg (nN s) 144) sg) := by
  obtain ⟨ta, ad, hR, hok, rfl⟩ := hQ
  refine hm_hmet 1 (by decide +kernel) (fun w h => by simp only [List.mem_cons, List.not_mem_nil, or_false] at h; rcases h with rfl | rfl | rfl <;> rfl) rfl (fun C X hC => ?_)
  show hm_W C 0 0 _ M 0 [some (.ref (ad 0 0)), some (.int s), some (.ref o), none] []
  refine hr_aload_n X (tL_at tL_pairs_ok 0 rfl) rfl (Or.inr ⟨_, rfl⟩) ?_
  refine hr_iconst 0 X (tL_at tL_pairs_ok 1 rfl) (by decide) ?_
  refine hr_aload_n X (tL_at tL_pairs_ok 2 rfl) rfl (Or.inr ⟨_, rfl⟩) ?_
  refine hr_iload_n X (tL_at tL_pairs_ok 3 rfl) rfl ?_
  refine hr_callVC X kCL_106 (tL_at tL_pairs_ok 4 rfl) (c_X5_pairs cA hR hI hok s) hR.c0 rfl rfl rfl rfl (Nat.le_of_ble_eq_true rfl) ⟨⟨(Nat.le_of_ble_eq_true rfl), (Nat.le_of_ble_eq_true rfl)⟩, (Nat.le_of_ble_eq_true rfl), (Nat.le_of_ble_eq_true rfl)⟩ (fun E M1 q9 hp => ?_) (fun v M1 hp => ?_)
  · obtain ⟨hc, rfl, rfl⟩ := hp
    have hth : sp_w (sp_isS sg s) = 1 := by rw [hc]; rfl
    have hQ1 : ls_Q cA M0 (ad 0 0) sg M := ⟨ta, ad, hR, hok, rfl⟩
    refine lh_at X hC [] (0, 9, 12, 19) [] rfl (fun _ h => absurd h List.not_mem_nil) (by decide) (by decide) kXL_19 (by decide +kernel) ?_
    show hm_W C _ _ _ _ 12 _ _
    refine hr_astore_n X (tL_at tL_pairs_ok 8 rfl) (Nat.le_of_ble_eq_true rfl) (Or.inr ⟨_, rfl⟩) ?_
    exact lh_bad X (tL_at tL_pairs_ok 9 rfl) (by rw [hth]; decide) (by rw [hth]; decide) (tL_at tL_pairs_ok 10 rfl) ho hQ1 (Nat.le_of_ble_eq_true rfl) (Nat.le_of_ble_eq_true rfl)
  · obtain ⟨hc, rfl, rfl⟩ := hp
    have hth : sp_w (sp_isS sg s) = 0 := sp_w_0.mpr hc
    have hQ2 : ls_Q cA M0 (ad 0 0) sg M := ⟨ta, ad, hR, hok, rfl⟩
    exact lh_end 15 X (tL_at tL_pairs_ok 5 rfl) (tL_at tL_pairs_ok 6 rfl) (tL_at tL_pairs_ok 7 rfl) (by decide) (tL_at tL_pairs_ok 11 rfl) (tL_at tL_pairs_ok 12 rfl) ho hth hQ2 (Nat.le_of_ble_eq_true rfl) (Nat.le_of_ble_eq_true rfl)
set_option maxHeartbeats 4000000 in
set_option maxRecDepth 100000 in
theorem c_L_pairAt (cA : Nat → ClassId) {sg : mm_S} {M0 M : hm_M} {b o : Nat} {f : Nat → Int64} (hI : sp_I sg) (hJ : sp_J sg) (hQ : ls_Q cA M0 b sg M) (ho : M0 o = some (lw_o cA f)) (s place : Int32) : hm_HMet cA yL_pairAt cL_pairAt 5 (some .int) [(0, 10, 13, 19)] r_L [.ref b, .int s, .int place, .ref o] M (lw_H cA M0 b o (sp_w (!decide (sp_paR sg s place = -1))) (sp_paR sg s place) sg) := by
  obtain ⟨ta, ad, hR, hok, rfl⟩ := hQ
  refine hm_hmet 1 (by decide +kernel) (fun w h => by simp only [List.mem_cons, List.not_mem_nil, or_false] at h; rcases h with rfl | rfl | rfl | rfl <;> rfl) rfl (fun C X hC => ?_)
  show hm_W C 0 0 _ M 0 [some (.ref (ad 0 0)), some (.int s), some (.int place), some (.ref o), none] []
  refine hr_aload_n X (tL_at tL_pairAt_ok 0 rfl) rfl (Or.inr ⟨_, rfl⟩) ?_
  refine hr_iconst 0 X (tL_at tL_pairAt_ok 1 rfl) (by decide) ?_
  refine hr_aload_n X (tL_at tL_pairAt_ok 2 rfl) rfl (Or.inr ⟨_, rfl⟩) ?_
  refine hr_iload_n X (tL_at tL_pairAt_ok 3 rfl) rfl ?_
  refine hr_iload_n X (tL_at tL_pairAt_ok 4 rfl) rfl ?_
  refine hr_callVC X kCL_109 (tL_at tL_pairAt_ok 5 rfl) (c_X5_pairAt cA hR hI hok s place) hR.c0 rfl rfl rfl rfl (Nat.le_of_ble_eq_true rfl) ⟨⟨(Nat.le_of_ble_eq_true rfl), (Nat.le_of_ble_eq_true rfl)⟩, (Nat.le_of_ble_eq_true rfl), (Nat.le_of_ble_eq_true rfl)⟩ (fun E M1 q9 hp => ?_) (fun v M1 hp => ?_)
  · obtain ⟨hc, rfl, rfl⟩ := hp
    have hth : sp_w (!decide (sp_paR sg s place = -1)) = 1 := by rw [decide_eq_true hc]; rfl
    have hQ1 : ls_Q cA M0 (ad 0 0) sg M := ⟨ta, ad, hR, hok, rfl⟩
    refine lh_at X hC [] (0, 10, 13, 19) [] rfl (fun _ h => absurd h List.not_mem_nil) (by decide) (by decide) kXL_19 (by decide +kernel) ?_
    show hm_W C _ _ _ _ 13 _ _
    refine hr_astore X (tL_at tL_pairAt_ok 9 rfl) (Nat.le_of_ble_eq_true rfl) (Or.inr ⟨_, rfl⟩) ?_
    exact lh_bad X (tL_at tL_pairAt_ok 10 rfl) (by rw [hth]; decide) (by rw [hth]; decide) (tL_at tL_pairAt_ok 11 rfl) ho hQ1 (Nat.le_of_ble_eq_true rfl) (Nat.le_of_ble_eq_true rfl)
  · obtain ⟨hc, rfl, rfl⟩ := hp
    have hth : sp_w (!decide (sp_paR sg s place = -1)) = 0 := by rw [decide_eq_false hc]; rfl
    have hQ2 : ls_Q cA M0 (ad 0 0) sg M := ⟨ta, ad, hR, hok, rfl⟩
    exact lh_end 17 X (tL_at tL_pairAt_ok 6 rfl) (tL_at tL_pairAt_ok 7 rfl) (tL_at tL_pairAt_ok 8 rfl) (by decide) (tL_at tL_pairAt_ok 12 rfl) (tL_at tL_pairAt_ok 13 rfl) ho hth hQ2 (Nat.le_of_ble_eq_true rfl) (Nat.le_of_ble_eq_true rfl)
set_option maxHeartbeats 4000000 in
set_option maxRecDepth 100000 in
theorem c_L_pairsAnew (cA : Nat → ClassId) {sg : mm_S} {M0 M : hm_M} {b o : Nat} {f : Nat → Int64} (hI : sp_I sg) (hJ : sp_J sg) (hQ : ls_Q cA M0 b sg M) (ho : M0 o = some (lw_o cA f)) (s : Int32) : hm_HMet cA yL_pairsAnew cL_pairsAnew 4 (some .int) [(0, 9, 12, 19)] r_L [.ref b, .int s, .ref o] M (lw_H cA M0 b o (sp_w (sp_isS sg s)) (sp_prN sg (nN s) 144) sg) := by
  obtain ⟨ta, ad, hR, hok, rfl⟩ := hQ
  refine hm_hmet 1 (by decide +kernel) (fun w h => by simp only [List.mem_cons, List.not_mem_nil, or_false] at h; rcases h with rfl | rfl | rfl <;> rfl) rfl (fun C X hC => ?_)
  show hm_W C 0 0 _ M 0 [some (.ref (ad 0 0)), some (.int s), some (.ref o), none] []
  refine hr_aload_n X (tL_at tL_pairsAnew_ok 0 rfl) rfl (Or.inr ⟨_, rfl⟩) ?_
  refine hr_iconst 0 X (tL_at tL_pairsAnew_ok 1 rfl) (by decide) ?_
  refine hr_aload_n X (tL_at tL_pairsAnew_ok 2 rfl) rfl (Or.inr ⟨_, rfl⟩) ?_
  refine hr_iload_n X (tL_at tL_pairsAnew_ok 3 rfl) rfl ?_
  refine hr_callVC X kCL_112 (tL_at tL_pairsAnew_ok 4 rfl) (c_X5_pairsAnew cA hR hI hok s) hR.c0 rfl rfl rfl rfl (Nat.le_of_ble_eq_true rfl) ⟨⟨(Nat.le_of_ble_eq_true rfl), (Nat.le_of_ble_eq_true rfl)⟩, (Nat.le_of_ble_eq_true rfl), (Nat.le_of_ble_eq_true rfl)⟩ (fun E M1 q9 hp => ?_) (fun v M1 hp => ?_)
  · obtain ⟨hc, rfl, rfl⟩ := hp
    have hth : sp_w (sp_isS sg s) = 1 := by rw [hc]; rfl
    have hQ1 : ls_Q cA M0 (ad 0 0) sg M := ⟨ta, ad, hR, hok, rfl⟩
    refine lh_at X hC [] (0, 9, 12, 19) [] rfl (fun _ h => absurd h List.not_mem_nil) (by decide) (by decide) kXL_19 (by decide +kernel) ?_
    show hm_W C _ _ _ _ 12 _ _
    refine hr_astore_n X (tL_at tL_pairsAnew_ok 8 rfl) (Nat.le_of_ble_eq_true rfl) (Or.inr ⟨_, rfl⟩) ?_
    exact lh_bad X (tL_at tL_pairsAnew_ok 9 rfl) (by rw [hth]; decide) (by rw [hth]; decide) (tL_at tL_pairsAnew_ok 10 rfl) ho hQ1 (Nat.le_of_ble_eq_true rfl) (Nat.le_of_ble_eq_true rfl)
  · obtain ⟨hc, rfl, ta1, hR1, ht1⟩ := hp
    have hth : sp_w (sp_isS sg s) = 0 := sp_w_0.mpr hc
    have hQ2 : ls_Q cA M0 (ad 0 0) sg M1 := ⟨ta1, ad, hR1, hok.congr (fun j _ h6 h7 => ht1 j h6 h7), rfl⟩
    exact lh_end 15 X (tL_at tL_pairsAnew_ok 5 rfl) (tL_at tL_pairsAnew_ok 6 rfl) (tL_at tL_pairsAnew_ok 7 rfl) (by decide) (tL_at tL_pairsAnew_ok 11 rfl) (tL_at tL_pairsAnew_ok 12 rfl) ho hth hQ2 (Nat.le_of_ble_eq_true rfl) (Nat.le_of_ble_eq_true rfl)
set_option maxHeartbeats 4000000 in
set_option maxRecDepth 100000 in
theorem c_L_setQuota (cA : Nat → ClassId) {sg : mm_S} {M0 M : hm_M} {b o : Nat} {f : Nat → Int64} (hI : sp_I sg) (hJ : sp_J sg) (hQ : ls_Q cA M0 b sg M) (ho : M0 o = some (lw_o cA f)) (g q : Int32) : hm_HMet cA yL_setQuota cL_setQuota 5 (some .int) [(0, 10, 13, 19), (0, 10, 17, 21)] r_L [.ref b, .int g, .int q, .ref o] M (lw_H cA M0 b o (sp_thQuota g q) (sg 12 (nN g)) (if sp_thQuota g q = 0 then mm_up sg 12 (nN g) q else sg)) := by
  obtain ⟨ta, ad, hR, hok, rfl⟩ := hQ
  refine hm_hmet 1 (by decide +kernel) (fun w h => by simp only [List.mem_cons, List.not_mem_nil, or_false] at h; rcases h with rfl | rfl | rfl | rfl <;> rfl) rfl (fun C X hC => ?_)
  show hm_W C 0 0 _ M 0 [some (.ref (ad 0 0)), some (.int g), some (.int q), some (.ref o), none] []
  refine hr_aload_n X (tL_at tL_setQuota_ok 0 rfl) rfl (Or.inr ⟨_, rfl⟩) ?_
  refine hr_iconst 0 X (tL_at tL_setQuota_ok 1 rfl) (by decide) ?_
  refine hr_aload_n X (tL_at tL_setQuota_ok 2 rfl) rfl (Or.inr ⟨_, rfl⟩) ?_
  refine hr_iload_n X (tL_at tL_setQuota_ok 3 rfl) rfl ?_
  refine hr_iload_n X (tL_at tL_setQuota_ok 4 rfl) rfl ?_
  refine hr_callVC X kCL_115 (tL_at tL_setQuota_ok 5 rfl) (c_X5_setQuota cA hR g q) hR.c0 rfl rfl rfl rfl (Nat.le_of_ble_eq_true rfl) ⟨⟨(Nat.le_of_ble_eq_true rfl), (Nat.le_of_ble_eq_true rfl)⟩, (Nat.le_of_ble_eq_true rfl), (Nat.le_of_ble_eq_true rfl)⟩ (fun E M1 q9 hp => ?_) (fun v M1 hp => ?_)
  · obtain ⟨hE, rfl⟩ := hp
    have hQ1 : ls_Q cA M0 (ad 0 0) sg M := ⟨ta, ad, hR, hok, rfl⟩
    rcases hE with ⟨hth, rfl⟩ | ⟨hth, rfl⟩
    · refine lh_at X hC [] (0, 10, 13, 19) [(0, 10, 17, 21)] rfl (fun _ h => absurd h List.not_mem_nil) (by decide) (by decide) kXL_19 (by decide +kernel) ?_
      show hm_W C _ _ _ _ 13 _ _
      refine hr_astore X (tL_at tL_setQuota_ok 9 rfl) (Nat.le_of_ble_eq_true rfl) (Or.inr ⟨_, rfl⟩) ?_
      exact lh_bad X (tL_at tL_setQuota_ok 10 rfl) (by rw [hth]; decide) (by rw [hth]; decide) (tL_at tL_setQuota_ok 11 rfl) ho (by rw [if_neg (by rw [hth]; decide)]; exact hQ1) (Nat.le_of_ble_eq_true rfl) (Nat.le_of_ble_eq_true rfl)
    · refine lh_at X hC [(0, 10, 13, 19)] (0, 10, 17, 21) [] rfl (List.forall_mem_cons.mpr ⟨⟨by decide, _, kXL_19, by decide +kernel⟩, (fun _ h => absurd h List.not_mem_nil)⟩) (by decide) (by decide) kXL_21 (by decide +kernel) ?_
      show hm_W C _ _ _ _ 17 _ _
      refine hr_astore X (tL_at tL_setQuota_ok 12 rfl) (Nat.le_of_ble_eq_true rfl) (Or.inr ⟨_, rfl⟩) ?_
      exact lh_bad X (tL_at tL_setQuota_ok 13 rfl) (by rw [hth]; decide) (by rw [hth]; decide) (tL_at tL_setQuota_ok 14 rfl) ho (by rw [if_neg (by rw [hth]; decide)]; exact hQ1) (Nat.le_of_ble_eq_true rfl) (Nat.le_of_ble_eq_true rfl)
  · obtain ⟨hth, rfl, hR1⟩ := hp
    have hQ2 : ls_Q cA M0 (ad 0 0) (if sp_thQuota g q = 0 then mm_up sg 12 (nN g) q else sg) M1 := by rw [if_pos hth]; exact ⟨ta, ad, hR1, cr_ok.quo hI hok, rfl⟩
    exact lh_end 21 X (tL_at tL_setQuota_ok 6 rfl) (tL_at tL_setQuota_ok 7 rfl) (tL_at tL_setQuota_ok 8 rfl) (by decide) (tL_at tL_setQuota_ok 15 rfl) (tL_at tL_setQuota_ok 16 rfl) ho hth hQ2 (Nat.le_of_ble_eq_true rfl) (Nat.le_of_ble_eq_true rfl)
set_option maxHeartbeats 4000000 in
set_option maxRecDepth 100000 in
theorem c_L_used (cA : Nat → ClassId) {sg : mm_S} {M0 M : hm_M} {b o : Nat} {f : Nat → Int64} (hI : sp_I sg) (hJ : sp_J sg) (hQ : ls_Q cA M0 b sg M) (ho : M0 o = some (lw_o cA f)) (g : Int32) : hm_HMet cA yL_used cL_used 4 (some .int) [(0, 9, 12, 19)] r_L [.ref b, .int g, .ref o] M (lw_H cA M0 b o (sp_w (sp_in g 0 3)) (sp_used sg g) sg) := by
  obtain ⟨ta, ad, hR, hok, rfl⟩ := hQ
  refine hm_hmet 1 (by decide +kernel) (fun w h => by simp only [List.mem_cons, List.not_mem_nil, or_false] at h; rcases h with rfl | rfl | rfl <;> rfl) rfl (fun C X hC => ?_)
  show hm_W C 0 0 _ M 0 [some (.ref (ad 0 0)), some (.int g), some (.ref o), none] []
  refine hr_aload_n X (tL_at tL_used_ok 0 rfl) rfl (Or.inr ⟨_, rfl⟩) ?_
  refine hr_iconst 0 X (tL_at tL_used_ok 1 rfl) (by decide) ?_
  refine hr_aload_n X (tL_at tL_used_ok 2 rfl) rfl (Or.inr ⟨_, rfl⟩) ?_
  refine hr_iload_n X (tL_at tL_used_ok 3 rfl) rfl ?_
  refine hr_callVC X kCL_118 (tL_at tL_used_ok 4 rfl) (c_X5_used cA hR hI g) hR.c0 rfl rfl rfl rfl (Nat.le_of_ble_eq_true rfl) ⟨⟨(Nat.le_of_ble_eq_true rfl), (Nat.le_of_ble_eq_true rfl)⟩, (Nat.le_of_ble_eq_true rfl), (Nat.le_of_ble_eq_true rfl)⟩ (fun E M1 q9 hp => ?_) (fun v M1 hp => ?_)
  · obtain ⟨hc, rfl, rfl⟩ := hp
    have hth : sp_w (sp_in g 0 3) = 1 := by rw [hc]; rfl
    have hQ1 : ls_Q cA M0 (ad 0 0) sg M := ⟨ta, ad, hR, hok, rfl⟩
    refine lh_at X hC [] (0, 9, 12, 19) [] rfl (fun _ h => absurd h List.not_mem_nil) (by decide) (by decide) kXL_19 (by decide +kernel) ?_
    show hm_W C _ _ _ _ 12 _ _
    refine hr_astore_n X (tL_at tL_used_ok 8 rfl) (Nat.le_of_ble_eq_true rfl) (Or.inr ⟨_, rfl⟩) ?_
    exact lh_bad X (tL_at tL_used_ok 9 rfl) (by rw [hth]; decide) (by rw [hth]; decide) (tL_at tL_used_ok 10 rfl) ho hQ1 (Nat.le_of_ble_eq_true rfl) (Nat.le_of_ble_eq_true rfl)
  · obtain ⟨hc, rfl, rfl⟩ := hp
    have hth : sp_w (sp_in g 0 3) = 0 := sp_w_0.mpr hc
    have hQ2 : ls_Q cA M0 (ad 0 0) sg M := ⟨ta, ad, hR, hok, rfl⟩
    rw [lb_used hok hc]
    exact lh_end 15 X (tL_at tL_used_ok 5 rfl) (tL_at tL_used_ok 6 rfl) (tL_at tL_used_ok 7 rfl) (by decide) (tL_at tL_used_ok 11 rfl) (tL_at tL_used_ok 12 rfl) ho hth hQ2 (Nat.le_of_ble_eq_true rfl) (Nat.le_of_ble_eq_true rfl)
set_option maxHeartbeats 4000000 in
set_option maxRecDepth 100000 in
theorem c_L_usedAnew (cA : Nat → ClassId) {sg : mm_S} {M0 M : hm_M} {b o : Nat} {f : Nat → Int64} (hI : sp_I sg) (hJ : sp_J sg) (hQ : ls_Q cA M0 b sg M) (ho : M0 o = some (lw_o cA f)) (g : Int32) : hm_HMet cA yL_usedAnew cL_usedAnew 4 (some .int) [(0, 9, 12, 19)] r_L [.ref b, .int g, .ref o] M (lw_H cA M0 b o (sp_w (sp_in g 0 3)) (sp_used sg g) sg) := by
  obtain ⟨ta, ad, hR, hok, rfl⟩ := hQ
  refine hm_hmet 1 (by decide +kernel) (fun w h => by simp only [List.mem_cons, List.not_mem_nil, or_false] at h; rcases h with rfl | rfl | rfl <;> rfl) rfl (fun C X hC => ?_)
  show hm_W C 0 0 _ M 0 [some (.ref (ad 0 0)), some (.int g), some (.ref o), none] []
  refine hr_aload_n X (tL_at tL_usedAnew_ok 0 rfl) rfl (Or.inr ⟨_, rfl⟩) ?_
  refine hr_iconst 0 X (tL_at tL_usedAnew_ok 1 rfl) (by decide) ?_
  refine hr_aload_n X (tL_at tL_usedAnew_ok 2 rfl) rfl (Or.inr ⟨_, rfl⟩) ?_
  refine hr_iload_n X (tL_at tL_usedAnew_ok 3 rfl) rfl ?_
  refine hr_callVC X kCL_121 (tL_at tL_usedAnew_ok 4 rfl) (c_X5_usedAnew cA hR hI hJ g) hR.c0 rfl rfl rfl rfl (Nat.le_of_ble_eq_true rfl) ⟨⟨(Nat.le_of_ble_eq_true rfl), (Nat.le_of_ble_eq_true rfl)⟩, (Nat.le_of_ble_eq_true rfl), (Nat.le_of_ble_eq_true rfl)⟩ (fun E M1 q9 hp => ?_) (fun v M1 hp => ?_)
  · obtain ⟨hc, rfl, rfl⟩ := hp
    have hth : sp_w (sp_in g 0 3) = 1 := by rw [hc]; rfl
    have hQ1 : ls_Q cA M0 (ad 0 0) sg M := ⟨ta, ad, hR, hok, rfl⟩
    refine lh_at X hC [] (0, 9, 12, 19) [] rfl (fun _ h => absurd h List.not_mem_nil) (by decide) (by decide) kXL_19 (by decide +kernel) ?_
    show hm_W C _ _ _ _ 12 _ _
    refine hr_astore_n X (tL_at tL_usedAnew_ok 8 rfl) (Nat.le_of_ble_eq_true rfl) (Or.inr ⟨_, rfl⟩) ?_
    exact lh_bad X (tL_at tL_usedAnew_ok 9 rfl) (by rw [hth]; decide) (by rw [hth]; decide) (tL_at tL_usedAnew_ok 10 rfl) ho hQ1 (Nat.le_of_ble_eq_true rfl) (Nat.le_of_ble_eq_true rfl)
  · obtain ⟨hc, rfl, rfl⟩ := hp
    have hth : sp_w (sp_in g 0 3) = 0 := sp_w_0.mpr hc
    have hQ2 : ls_Q cA M0 (ad 0 0) sg M := ⟨ta, ad, hR, hok, rfl⟩
    exact lh_end 15 X (tL_at tL_usedAnew_ok 5 rfl) (tL_at tL_usedAnew_ok 6 rfl) (tL_at tL_usedAnew_ok 7 rfl) (by decide) (tL_at tL_usedAnew_ok 11 rfl) (tL_at tL_usedAnew_ok 12 rfl) ho hth hQ2 (Nat.le_of_ble_eq_true rfl) (Nat.le_of_ble_eq_true rfl)
