/-! the law's helper methods -/
abbrev lNI : Int32 := -2000000001
abbrev lNA : Int32 := -2000000002
abbrev lNS : Int32 := -2000000003
/-- what a helper answers: the answer, or the number of what was thrown -/
def lcf (e1 e2 e3 th r : Int32) : Int32 := if th = 0 then r else if th = 1 then e1 else if th = 2 then e2 else e3
theorem lcf_0 {e1 e2 e3 th r : Int32} (h : th = 0) : lcf e1 e2 e3 th r = r := if_pos h
theorem lcf_1 {e1 e2 e3 th r : Int32} (h : th = 1) : lcf e1 e2 e3 th r = e1 := by rw [h]; rfl
theorem lcf_2 {e1 e2 e3 th r : Int32} (h : th = 2) : lcf e1 e2 e3 th r = e2 := by rw [h]; rfl
theorem lcf_3 {e1 e2 e3 th r : Int32} (h : th = 3) : lcf e1 e2 e3 th r = e3 := by rw [h]; rfl
def lw_R (cA : Nat → ClassId) (N : hm_M) (b : Nat) (v : Int32) (sg' : mm_S) : Option Value → hm_M → Prop := fun w M' => w = some (.int v) ∧ ls_Q cA N b sg' M'
theorem lb_mark {sg : mm_S} {k : Nat} : (if sg 13 k = 0 then -1 else sp_rMark sg k) = sp_rMark sg k := by
  unfold sp_rMark
  by_cases h : sg 13 k = 0
  · rw [if_pos h, if_neg (by rw [h]; decide)]
  · rw [if_neg h]
theorem lb_k {sg : mm_S} (hI : sp_I sg) {p s : Int32} (hc : (sp_in p 0 11 && sp_isS sg s) = true) : ∃ a b, a < 12 ∧ b < 4 ∧ b < sp_n sg ∧ sp_k p s = 12 * b + a := by
  obtain ⟨a, b, ha, hb, hb4, rfl, rfl, e1, e2⟩ := sp_both_nat hI (show sp_both sg p s = true from hc)
  exact ⟨a, b, ha, hb4, hb, by unfold sp_k; rw [e1, e2]⟩
theorem lb_answer {sg : mm_S} (hI : sp_I sg) {p s : Int32} (hc : (sp_in p 0 11 && sp_isS sg s) = true) : cr_st sg (sp_k p s) = sg 13 (sp_k p s) := by
  obtain ⟨a, b, ha, hb, -, e⟩ := lb_k hI hc
  rw [e]
  unfold cr_st
  rcases hI.i9 b a hb ha with ⟨h, -⟩ | ⟨h | h, -⟩
  · rw [if_pos h, h]
  · rw [if_neg (by rw [h]; decide), if_neg (by rw [h]; decide), h]
  · rw [if_neg (by rw [h]; decide), if_pos h, h]
theorem lb_told {sg : mm_S} (hI : sp_I sg) (hJ : sp_J sg) {p s : Int32} (hc : (sp_in p 0 11 && sp_isS sg s) = true) : (if sg 13 (sp_k p s) = 0 then 0 else sg 16 (sp_k p s)) = sg 16 (sp_k p s) := by
  obtain ⟨a, b, ha, hb, -, e⟩ := lb_k hI hc
  by_cases h : sg 13 (sp_k p s) = 0
  · rw [if_pos h, hJ.2.1 _ (by rw [e]; omega) (by rw [h]; decide)]
  · rw [if_neg h]
theorem lb_fing {sg ta : mm_S} (hI : sp_I sg) (hok : cr_ok sg ta) {p s : Int32} (hc : (sp_in p 0 11 && sp_isS sg s) = true) : (if sg 13 (sp_k p s) = 0 then 0 else ta 2 (sp_k p s)) = nI (sp_prs sg (sp_k p s)).length := by
  obtain ⟨a, b, ha, hb, -, e⟩ := lb_k hI hc
  by_cases h : sg 13 (sp_k p s) = 0
  · rw [if_pos h, sp_prs_0 h]
    rfl
  · rw [if_neg h]
    obtain ⟨l, h1, h2, h3⟩ := cr_pr hok (by rw [e]; omega) h
    rw [h2, (ca_len h1 (sp_prs_nd _ _) h3).length_eq]
theorem lb_used {sg ta : mm_S} (hok : cr_ok sg ta) {g : Int32} (hc : sp_in g 0 3 = true) : ta 0 (nN g) = sp_used sg g := by
  obtain ⟨g, hg, rfl⟩ := sp_in_g hc
  rw [show nN (nI g) = g from nI_clamp (by omega)]
  exact hok.1 g hg
abbrev r_L_sheets : Room := { frames := 7, cells := 8, slots := 56, locals := 111 }
set_option maxHeartbeats 4000000 in
set_option maxRecDepth 100000 in
theorem c_L_sheets (cA : Nat → ClassId) {sg : mm_S} {N M : hm_M} {b : Nat} (hI : sp_I sg) (hJ : sp_J sg) (hQ : ls_Q cA N b sg M) : hm_HMet cA yL_sheets cL_sheets 2 (some .int) [(0, 4, 5, 13)] r_L_sheets [.ref b] M (lw_R cA N b (lcf lNS lNS lNS (sp_w (!decide (sg 1 0 = 4))) (sg 1 0)) (if sp_w (!decide (sg 1 0 = 4)) = 0 then sp_addS sg else sg)) := by
  obtain ⟨ta, ad, hR, hok, rfl⟩ := hQ
  refine hm_hmet 1 (by decide +kernel) (fun w h => by simp only [List.mem_cons, List.not_mem_nil, or_false] at h; rcases h with rfl <;> rfl) rfl (fun C X hC => ?_)
  show hm_W C 0 0 _ M 0 [some (.ref (ad 0 0)), none] []
  refine hr_aload_n X (tL_at tL_sheets_ok 0 rfl) rfl (Or.inr ⟨_, rfl⟩) ?_
  refine hr_callVC X kCL_7 (tL_at tL_sheets_ok 1 rfl) (c_X5_addSheet cA hR hI hJ hok) hR.c0 rfl rfl rfl rfl (Nat.le_of_ble_eq_true rfl) ⟨⟨(Nat.le_of_ble_eq_true rfl), (Nat.le_of_ble_eq_true rfl)⟩, (Nat.le_of_ble_eq_true rfl), (Nat.le_of_ble_eq_true rfl)⟩ (fun E M1 q9 hp => ?_) (fun v M1 hp => ?_)
  · obtain ⟨hE, hR1⟩ := hp
    have hQ1 : ls_Q cA N (ad 0 0) sg M1 := ⟨ta, ad, hR1, hok, rfl⟩
    rcases hE with ⟨hth, rfl⟩
    refine lh_at X hC [] (0, 4, 5, 13) [] rfl (fun _ h => absurd h List.not_mem_nil) (by decide) (by decide) kXL_13 (by decide +kernel) ?_
    show hm_W C _ _ _ _ 5 _ _
    refine hr_astore_n X (tL_at tL_sheets_ok 3 rfl) (Nat.le_of_ble_eq_true rfl) (Or.inr ⟨_, rfl⟩) ?_
    refine hr_ldc (lNS) X (tL_at tL_sheets_ok 4 rfl) kKL_15 ?_
    exact hr_iretX X (tL_at tL_sheets_ok 5 rfl) (Nat.le_of_ble_eq_true rfl) (Nat.le_of_ble_eq_true rfl) ⟨by rw [lcf_1 hth], (by rw [if_neg (by rw [hth]; decide)]; exact hQ1)⟩
  · obtain ⟨hth, rfl, ta1, ad1, hR1, hok1, had⟩ := hp
    have hQ2 : ls_Q cA N (ad 0 0) (if sp_w (!decide (sg 1 0 = 4)) = 0 then sp_addS sg else sg) M1 := by rw [if_pos hth]; exact ⟨ta1, ad1, hR1, hok1, had⟩
    exact hr_iretX X (tL_at tL_sheets_ok 2 rfl) (Nat.le_of_ble_eq_true rfl) (Nat.le_of_ble_eq_true rfl) ⟨by rw [lcf_0 hth], hQ2⟩
abbrev r_L_numbers : Room := { frames := 9, cells := 10, slots := 55, locals := 160 }
set_option maxHeartbeats 4000000 in
set_option maxRecDepth 100000 in
theorem c_L_numbers (cA : Nat → ClassId) {sg : mm_S} {N M : hm_M} {b : Nat} (hI : sp_I sg) (hJ : sp_J sg) (hQ : ls_Q cA N b sg M) (g s t points value slack : Int32) : hm_HMet cA yL_numbers cL_numbers 8 (some .int) [(0, 13, 14, 20), (0, 13, 19, 23), (0, 13, 24, 13)] r_L_numbers [.ref b, .int g, .int s, .int t, .int points, .int value, .int slack] M (lw_R cA N b (lcf lNI lNA lNS (sp_thSet sg g s t (sp_areN points value slack) (2)) (sg 5 (nN s))) (if sp_thSet sg g s t (sp_areN points value slack) (2) = 0 then sp_rev sg (nN g) (nN s) (nN t) 0 points value slack else sg)) := by
  obtain ⟨ta, ad, hR, hok, rfl⟩ := hQ
  refine hm_hmet 1 (by decide +kernel) (fun w h => by simp only [List.mem_cons, List.not_mem_nil, or_false] at h; rcases h with rfl | rfl | rfl | rfl | rfl | rfl | rfl <;> rfl) rfl (fun C X hC => ?_)
  show hm_W C 0 0 _ M 0 [some (.ref (ad 0 0)), some (.int g), some (.int s), some (.int t), some (.int points), some (.int value), some (.int slack), none] []
  refine hr_aload_n X (tL_at tL_numbers_ok 0 rfl) rfl (Or.inr ⟨_, rfl⟩) ?_
  refine hr_iload_n X (tL_at tL_numbers_ok 1 rfl) rfl ?_
  refine hr_iload_n X (tL_at tL_numbers_ok 2 rfl) rfl ?_
  refine hr_iload_n X (tL_at tL_numbers_ok 3 rfl) rfl ?_
  refine hr_iload X (tL_at tL_numbers_ok 4 rfl) rfl ?_
  refine hr_iload X (tL_at tL_numbers_ok 5 rfl) rfl ?_
  refine hr_iload X (tL_at tL_numbers_ok 6 rfl) rfl ?_
  refine hr_callVC X kCL_16 (tL_at tL_numbers_ok 7 rfl) (c_X5_setNumber cA hR hI hok g s t points value slack) hR.c0 rfl rfl rfl rfl (Nat.le_of_ble_eq_true rfl) ⟨⟨(Nat.le_of_ble_eq_true rfl), (Nat.le_of_ble_eq_true rfl)⟩, (Nat.le_of_ble_eq_true rfl), (Nat.le_of_ble_eq_true rfl)⟩ (fun E M1 q9 hp => ?_) (fun v M1 hp => ?_)
  · obtain ⟨hE, hR1⟩ := hp
    have hQ1 : ls_Q cA N (ad 0 0) sg M1 := ⟨ta, ad, hR1, hok, rfl⟩
    rcases hE with ⟨hth, rfl⟩ | ⟨hth, rfl⟩ | ⟨hth, rfl⟩
    · refine lh_at X hC [] (0, 13, 14, 20) [(0, 13, 19, 23), (0, 13, 24, 13)] rfl (fun _ h => absurd h List.not_mem_nil) (by decide) (by decide) kXL_20 (by decide +kernel) ?_
      show hm_W C _ _ _ _ 14 _ _
      refine hr_astore X (tL_at tL_numbers_ok 9 rfl) (Nat.le_of_ble_eq_true rfl) (Or.inr ⟨_, rfl⟩) ?_
      refine hr_ldc (lNI) X (tL_at tL_numbers_ok 10 rfl) kKL_22 ?_
      exact hr_iretX X (tL_at tL_numbers_ok 11 rfl) (Nat.le_of_ble_eq_true rfl) (Nat.le_of_ble_eq_true rfl) ⟨by rw [lcf_1 hth], (by rw [if_neg (by rw [hth]; decide)]; exact hQ1)⟩
    · refine lh_at X hC [(0, 13, 14, 20)] (0, 13, 19, 23) [(0, 13, 24, 13)] rfl (List.forall_mem_cons.mpr ⟨⟨by decide, _, kXL_20, by decide +kernel⟩, (fun _ h => absurd h List.not_mem_nil)⟩) (by decide) (by decide) kXL_23 (by decide +kernel) ?_
      show hm_W C _ _ _ _ 19 _ _
      refine hr_astore X (tL_at tL_numbers_ok 12 rfl) (Nat.le_of_ble_eq_true rfl) (Or.inr ⟨_, rfl⟩) ?_
      refine hr_ldc (lNA) X (tL_at tL_numbers_ok 13 rfl) kKL_25 ?_
      exact hr_iretX X (tL_at tL_numbers_ok 14 rfl) (Nat.le_of_ble_eq_true rfl) (Nat.le_of_ble_eq_true rfl) ⟨by rw [lcf_2 hth], (by rw [if_neg (by rw [hth]; decide)]; exact hQ1)⟩
    · refine lh_at X hC [(0, 13, 14, 20), (0, 13, 19, 23)] (0, 13, 24, 13) [] rfl (List.forall_mem_cons.mpr ⟨⟨by decide, _, kXL_20, by decide +kernel⟩, (List.forall_mem_cons.mpr ⟨⟨by decide, _, kXL_23, by decide +kernel⟩, (fun _ h => absurd h List.not_mem_nil)⟩)⟩) (by decide) (by decide) kXL_13 (by decide +kernel) ?_
      show hm_W C _ _ _ _ 24 _ _
      refine hr_astore X (tL_at tL_numbers_ok 15 rfl) (Nat.le_of_ble_eq_true rfl) (Or.inr ⟨_, rfl⟩) ?_
      refine hr_ldc (lNS) X (tL_at tL_numbers_ok 16 rfl) kKL_15 ?_
      exact hr_iretX X (tL_at tL_numbers_ok 17 rfl) (Nat.le_of_ble_eq_true rfl) (Nat.le_of_ble_eq_true rfl) ⟨by rw [lcf_3 hth], (by rw [if_neg (by rw [hth]; decide)]; exact hQ1)⟩
  · obtain ⟨hth, rfl, ta1, ad1, hR1, hok1, had⟩ := hp
    have hQ2 : ls_Q cA N (ad 0 0) (if sp_thSet sg g s t (sp_areN points value slack) (2) = 0 then sp_rev sg (nN g) (nN s) (nN t) 0 points value slack else sg) M1 := by rw [if_pos hth]; exact ⟨ta1, ad1, hR1, hok1, had⟩
    exact hr_iretX X (tL_at tL_numbers_ok 8 rfl) (Nat.le_of_ble_eq_true rfl) (Nat.le_of_ble_eq_true rfl) ⟨by rw [lcf_0 hth], hQ2⟩
abbrev r_L_choices : Room := { frames := 8, cells := 9, slots := 49, locals := 141 }
set_option maxHeartbeats 4000000 in
set_option maxRecDepth 100000 in
theorem c_L_choices (cA : Nat → ClassId) {sg : mm_S} {N M : hm_M} {b : Nat} (hI : sp_I sg) (hJ : sp_J sg) (hQ : ls_Q cA N b sg M) (g s t points signs : Int32) : hm_HMet cA yL_choices cL_choices 7 (some .int) [(0, 11, 12, 20), (0, 11, 17, 23), (0, 11, 22, 13)] r_L_choices [.ref b, .int g, .int s, .int t, .int points, .int signs] M (lw_R cA N b (lcf lNI lNA lNS (sp_thSet sg g s t (sp_areC points signs) (1)) (sg 5 (nN s))) (if sp_thSet sg g s t (sp_areC points signs) (1) = 0 then sp_rev sg (nN g) (nN s) (nN t) 1 points signs 0 else sg)) := by
  obtain ⟨ta, ad, hR, hok, rfl⟩ := hQ
  refine hm_hmet 1 (by decide +kernel) (fun w h => by simp only [List.mem_cons, List.not_mem_nil, or_false] at h; rcases h with rfl | rfl | rfl | rfl | rfl | rfl <;> rfl) rfl (fun C X hC => ?_)
  show hm_W C 0 0 _ M 0 [some (.ref (ad 0 0)), some (.int g), some (.int s), some (.int t), some (.int points), some (.int signs), none] []
  refine hr_aload_n X (tL_at tL_choices_ok 0 rfl) rfl (Or.inr ⟨_, rfl⟩) ?_
  refine hr_iload_n X (tL_at tL_choices_ok 1 rfl) rfl ?_
  refine hr_iload_n X (tL_at tL_choices_ok 2 rfl) rfl ?_
  refine hr_iload_n X (tL_at tL_choices_ok 3 rfl) rfl ?_
  refine hr_iload X (tL_at tL_choices_ok 4 rfl) rfl ?_
  refine hr_iload X (tL_at tL_choices_ok 5 rfl) rfl ?_
  refine hr_callVC X kCL_26 (tL_at tL_choices_ok 6 rfl) (c_X5_setChoice cA hR hI hok g s t points signs) hR.c0 rfl rfl rfl rfl (Nat.le_of_ble_eq_true rfl) ⟨⟨(Nat.le_of_ble_eq_true rfl), (Nat.le_of_ble_eq_true rfl)⟩, (Nat.le_of_ble_eq_true rfl), (Nat.le_of_ble_eq_true rfl)⟩ (fun E M1 q9 hp => ?_) (fun v M1 hp => ?_)
  · obtain ⟨hE, hR1⟩ := hp
    have hQ1 : ls_Q cA N (ad 0 0) sg M1 := ⟨ta, ad, hR1, hok, rfl⟩
    rcases hE with ⟨hth, rfl⟩ | ⟨hth, rfl⟩ | ⟨hth, rfl⟩
    · refine lh_at X hC [] (0, 11, 12, 20) [(0, 11, 17, 23), (0, 11, 22, 13)] rfl (fun _ h => absurd h List.not_mem_nil) (by decide) (by decide) kXL_20 (by decide +kernel) ?_
      show hm_W C _ _ _ _ 12 _ _
      refine hr_astore X (tL_at tL_choices_ok 8 rfl) (Nat.le_of_ble_eq_true rfl) (Or.inr ⟨_, rfl⟩) ?_
      refine hr_ldc (lNI) X (tL_at tL_choices_ok 9 rfl) kKL_22 ?_
      exact hr_iretX X (tL_at tL_choices_ok 10 rfl) (Nat.le_of_ble_eq_true rfl) (Nat.le_of_ble_eq_true rfl) ⟨by rw [lcf_1 hth], (by rw [if_neg (by rw [hth]; decide)]; exact hQ1)⟩
    · refine lh_at X hC [(0, 11, 12, 20)] (0, 11, 17, 23) [(0, 11, 22, 13)] rfl (List.forall_mem_cons.mpr ⟨⟨by decide, _, kXL_20, by decide +kernel⟩, (fun _ h => absurd h List.not_mem_nil)⟩) (by decide) (by decide) kXL_23 (by decide +kernel) ?_
      show hm_W C _ _ _ _ 17 _ _
      refine hr_astore X (tL_at tL_choices_ok 11 rfl) (Nat.le_of_ble_eq_true rfl) (Or.inr ⟨_, rfl⟩) ?_
      refine hr_ldc (lNA) X (tL_at tL_choices_ok 12 rfl) kKL_25 ?_
      exact hr_iretX X (tL_at tL_choices_ok 13 rfl) (Nat.le_of_ble_eq_true rfl) (Nat.le_of_ble_eq_true rfl) ⟨by rw [lcf_2 hth], (by rw [if_neg (by rw [hth]; decide)]; exact hQ1)⟩
    · refine lh_at X hC [(0, 11, 12, 20), (0, 11, 17, 23)] (0, 11, 22, 13) [] rfl (List.forall_mem_cons.mpr ⟨⟨by decide, _, kXL_20, by decide +kernel⟩, (List.forall_mem_cons.mpr ⟨⟨by decide, _, kXL_23, by decide +kernel⟩, (fun _ h => absurd h List.not_mem_nil)⟩)⟩) (by decide) (by decide) kXL_13 (by decide +kernel) ?_
      show hm_W C _ _ _ _ 22 _ _
      refine hr_astore X (tL_at tL_choices_ok 14 rfl) (Nat.le_of_ble_eq_true rfl) (Or.inr ⟨_, rfl⟩) ?_
      refine hr_ldc (lNS) X (tL_at tL_choices_ok 15 rfl) kKL_15 ?_
      exact hr_iretX X (tL_at tL_choices_ok 16 rfl) (Nat.le_of_ble_eq_true rfl) (Nat.le_of_ble_eq_true rfl) ⟨by rw [lcf_3 hth], (by rw [if_neg (by rw [hth]; decide)]; exact hQ1)⟩
  · obtain ⟨hth, rfl, ta1, ad1, hR1, hok1, had⟩ := hp
    have hQ2 : ls_Q cA N (ad 0 0) (if sp_thSet sg g s t (sp_areC points signs) (1) = 0 then sp_rev sg (nN g) (nN s) (nN t) 1 points signs 0 else sg) M1 := by rw [if_pos hth]; exact ⟨ta1, ad1, hR1, hok1, had⟩
    exact hr_iretX X (tL_at tL_choices_ok 7 rfl) (Nat.le_of_ble_eq_true rfl) (Nat.le_of_ble_eq_true rfl) ⟨by rw [lcf_0 hth], hQ2⟩
abbrev r_L_words : Room := { frames := 8, cells := 9, slots := 49, locals := 141 }
set_option maxHeartbeats 4000000 in
set_option maxRecDepth 100000 in
theorem c_L_words (cA : Nat → ClassId) {sg : mm_S} {N M : hm_M} {b : Nat} (hI : sp_I sg) (hJ : sp_J sg) (hQ : ls_Q cA N b sg M) (g s t points words : Int32) : hm_HMet cA yL_words cL_words 7 (some .int) [(0, 11, 12, 20), (0, 11, 17, 23), (0, 11, 22, 13)] r_L_words [.ref b, .int g, .int s, .int t, .int points, .int words] M (lw_R cA N b (lcf lNI lNA lNS (sp_thSet sg g s t (sp_areW points words) (nI (sp_len words))) (sg 5 (nN s))) (if sp_thSet sg g s t (sp_areW points words) (nI (sp_len words)) = 0 then sp_rev sg (nN g) (nN s) (nN t) 2 points words 0 else sg)) := by
  obtain ⟨ta, ad, hR, hok, rfl⟩ := hQ
  refine hm_hmet 1 (by decide +kernel) (fun w h => by simp only [List.mem_cons, List.not_mem_nil, or_false] at h; rcases h with rfl | rfl | rfl | rfl | rfl | rfl <;> rfl) rfl (fun C X hC => ?_)
  show hm_W C 0 0 _ M 0 [some (.ref (ad 0 0)), some (.int g), some (.int s), some (.int t), some (.int points), some (.int words), none] []
  refine hr_aload_n X (tL_at tL_words_ok 0 rfl) rfl (Or.inr ⟨_, rfl⟩) ?_
  refine hr_iload_n X (tL_at tL_words_ok 1 rfl) rfl ?_
  refine hr_iload_n X (tL_at tL_words_ok 2 rfl) rfl ?_
  refine hr_iload_n X (tL_at tL_words_ok 3 rfl) rfl ?_
  refine hr_iload X (tL_at tL_words_ok 4 rfl) rfl ?_
  refine hr_iload X (tL_at tL_words_ok 5 rfl) rfl ?_
  refine hr_callVC X kCL_30 (tL_at tL_words_ok 6 rfl) (c_X5_setWords cA hR hI hok g s t points words) hR.c0 rfl rfl rfl rfl (Nat.le_of_ble_eq_true rfl) ⟨⟨(Nat.le_of_ble_eq_true rfl), (Nat.le_of_ble_eq_true rfl)⟩, (Nat.le_of_ble_eq_true rfl), (Nat.le_of_ble_eq_true rfl)⟩ (fun E M1 q9 hp => ?_) (fun v M1 hp => ?_)
  · obtain ⟨hE, hR1⟩ := hp
    have hQ1 : ls_Q cA N (ad 0 0) sg M1 := ⟨ta, ad, hR1, hok, rfl⟩
    rcases hE with ⟨hth, rfl⟩ | ⟨hth, rfl⟩ | ⟨hth, rfl⟩
    · refine lh_at X hC [] (0, 11, 12, 20) [(0, 11, 17, 23), (0, 11, 22, 13)] rfl (fun _ h => absurd h List.not_mem_nil) (by decide) (by decide) kXL_20 (by decide +kernel) ?_
      show hm_W C _ _ _ _ 12 _ _
      refine hr_astore X (tL_at tL_words_ok 8 rfl) (Nat.le_of_ble_eq_true rfl) (Or.inr ⟨_, rfl⟩) ?_
      refine hr_ldc (lNI) X (tL_at tL_words_ok 9 rfl) kKL_22 ?_
      exact hr_iretX X (tL_at tL_words_ok 10 rfl) (Nat.le_of_ble_eq_true rfl) (Nat.le_of_ble_eq_true rfl) ⟨by rw [lcf_1 hth], (by rw [if_neg (by rw [hth]; decide)]; exact hQ1)⟩
    · refine lh_at X hC [(0, 11, 12, 20)] (0, 11, 17, 23) [(0, 11, 22, 13)] rfl (List.forall_mem_cons.mpr ⟨⟨by decide, _, kXL_20, by decide +kernel⟩, (fun _ h => absurd h List.not_mem_nil)⟩) (by decide) (by decide) kXL_23 (by decide +kernel) ?_
      show hm_W C _ _ _ _ 17 _ _
      refine hr_astore X (tL_at tL_words_ok 11 rfl) (Nat.le_of_ble_eq_true rfl) (Or.inr ⟨_, rfl⟩) ?_
      refine hr_ldc (lNA) X (tL_at tL_words_ok 12 rfl) kKL_25 ?_
      exact hr_iretX X (tL_at tL_words_ok 13 rfl) (Nat.le_of_ble_eq_true rfl) (Nat.le_of_ble_eq_true rfl) ⟨by rw [lcf_2 hth], (by rw [if_neg (by rw [hth]; decide)]; exact hQ1)⟩
    · refine lh_at X hC [(0, 11, 12, 20), (0, 11, 17, 23)] (0, 11, 22, 13) [] rfl (List.forall_mem_cons.mpr ⟨⟨by decide, _, kXL_20, by decide +kernel⟩, (List.forall_mem_cons.mpr ⟨⟨by decide, _, kXL_23, by decide +kernel⟩, (fun _ h => absurd h List.not_mem_nil)⟩)⟩) (by decide) (by decide) kXL_13 (by decide +kernel) ?_
      show hm_W C _ _ _ _ 22 _ _
      refine hr_astore X (tL_at tL_words_ok 14 rfl) (Nat.le_of_ble_eq_true rfl) (Or.inr ⟨_, rfl⟩) ?_
      refine hr_ldc (lNS) X (tL_at tL_words_ok 15 rfl) kKL_15 ?_
      exact hr_iretX X (tL_at tL_words_ok 16 rfl) (Nat.le_of_ble_eq_true rfl) (Nat.le_of_ble_eq_true rfl) ⟨by rw [lcf_3 hth], (by rw [if_neg (by rw [hth]; decide)]; exact hQ1)⟩
  · obtain ⟨hth, rfl, ta1, ad1, hR1, hok1, had⟩ := hp
    have hQ2 : ls_Q cA N (ad 0 0) (if sp_thSet sg g s t (sp_areW points words) (nI (sp_len words)) = 0 then sp_rev sg (nN g) (nN s) (nN t) 2 points words 0 else sg) M1 := by rw [if_pos hth]; exact ⟨ta1, ad1, hR1, hok1, had⟩
    exact hr_iretX X (tL_at tL_words_ok 7 rfl) (Nat.le_of_ble_eq_true rfl) (Nat.le_of_ble_eq_true rfl) ⟨by rw [lcf_0 hth], hQ2⟩
abbrev r_L_drops : Room := { frames := 8, cells := 8, slots := 43, locals := 139 }
set_option maxHeartbeats 4000000 in
set_option maxRecDepth 100000 in
theorem c_L_drops (cA : Nat → ClassId) {sg : mm_S} {N M : hm_M} {b : Nat} (hI : sp_I sg) (hJ : sp_J sg) (hQ : ls_Q cA N b sg M) (g s t : Int32) : hm_HMet cA yL_drops cL_drops 5 (some .int) [(0, 7, 8, 20), (0, 7, 13, 13)] r_L_drops [.ref b, .int g, .int s, .int t] M (lw_R cA N b (lcf lNI lNS lNS (sp_thDrop sg g s t) (sg 5 (nN s))) (if sp_thDrop sg g s t = 0 then sp_rev sg (nN g) (nN s) (nN t) 3 0 0 0 else sg)) := by
  obtain ⟨ta, ad, hR, hok, rfl⟩ := hQ
  refine hm_hmet 1 (by decide +kernel) (fun w h => by simp only [List.mem_cons, List.not_mem_nil, or_false] at h; rcases h with rfl | rfl | rfl | rfl <;> rfl) rfl (fun C X hC => ?_)
  show hm_W C 0 0 _ M 0 [some (.ref (ad 0 0)), some (.int g), some (.int s), some (.int t), none] []
  refine hr_aload_n X (tL_at tL_drops_ok 0 rfl) rfl (Or.inr ⟨_, rfl⟩) ?_
  refine hr_iload_n X (tL_at tL_drops_ok 1 rfl) rfl ?_
  refine hr_iload_n X (tL_at tL_drops_ok 2 rfl) rfl ?_
  refine hr_iload_n X (tL_at tL_drops_ok 3 rfl) rfl ?_
  refine hr_callVC X kCL_33 (tL_at tL_drops_ok 4 rfl) (c_X5_drop cA hR hI hok g s t) hR.c0 rfl rfl rfl rfl (Nat.le_of_ble_eq_true rfl) ⟨⟨(Nat.le_of_ble_eq_true rfl), (Nat.le_of_ble_eq_true rfl)⟩, (Nat.le_of_ble_eq_true rfl), (Nat.le_of_ble_eq_true rfl)⟩ (fun E M1 q9 hp => ?_) (fun v M1 hp => ?_)
  · obtain ⟨hE, hR1⟩ := hp
    have hQ1 : ls_Q cA N (ad 0 0) sg M1 := ⟨ta, ad, hR1, hok, rfl⟩
    rcases hE with ⟨hth, rfl⟩ | ⟨hth, rfl⟩
    · refine lh_at X hC [] (0, 7, 8, 20) [(0, 7, 13, 13)] rfl (fun _ h => absurd h List.not_mem_nil) (by decide) (by decide) kXL_20 (by decide +kernel) ?_
      show hm_W C _ _ _ _ 8 _ _
      refine hr_astore X (tL_at tL_drops_ok 6 rfl) (Nat.le_of_ble_eq_true rfl) (Or.inr ⟨_, rfl⟩) ?_
      refine hr_ldc (lNI) X (tL_at tL_drops_ok 7 rfl) kKL_22 ?_
      exact hr_iretX X (tL_at tL_drops_ok 8 rfl) (Nat.le_of_ble_eq_true rfl) (Nat.le_of_ble_eq_true rfl) ⟨by rw [lcf_1 hth], (by rw [if_neg (by rw [hth]; decide)]; exact hQ1)⟩
    · refine lh_at X hC [(0, 7, 8, 20)] (0, 7, 13, 13) [] rfl (List.forall_mem_cons.mpr ⟨⟨by decide, _, kXL_20, by decide +kernel⟩, (fun _ h => absurd h List.not_mem_nil)⟩) (by decide) (by decide) kXL_13 (by decide +kernel) ?_
      show hm_W C _ _ _ _ 13 _ _
      refine hr_astore X (tL_at tL_drops_ok 9 rfl) (Nat.le_of_ble_eq_true rfl) (Or.inr ⟨_, rfl⟩) ?_
      refine hr_ldc (lNS) X (tL_at tL_drops_ok 10 rfl) kKL_15 ?_
      exact hr_iretX X (tL_at tL_drops_ok 11 rfl) (Nat.le_of_ble_eq_true rfl) (Nat.le_of_ble_eq_true rfl) ⟨by rw [lcf_2 hth], (by rw [if_neg (by rw [hth]; decide)]; exact hQ1)⟩
  · obtain ⟨hth, rfl, ta1, ad1, hR1, hok1, had⟩ := hp
    have hQ2 : ls_Q cA N (ad 0 0) (if sp_thDrop sg g s t = 0 then sp_rev sg (nN g) (nN s) (nN t) 3 0 0 0 else sg) M1 := by rw [if_pos hth]; exact ⟨ta1, ad1, hR1, hok1, had⟩
    exact hr_iretX X (tL_at tL_drops_ok 5 rfl) (Nat.le_of_ble_eq_true rfl) (Nat.le_of_ble_eq_true rfl) ⟨by rw [lcf_0 hth], hQ2⟩
abbrev r_L_adopts : Room := { frames := 8, cells := 3, slots := 18, locals := 138 }
set_option maxHeartbeats 4000000 in
set_option maxRecDepth 100000 in
theorem c_L_adopts (cA : Nat → ClassId) {sg : mm_S} {N M : hm_M} {b : Nat} (hI : sp_I sg) (hJ : sp_J sg) (hQ : ls_Q cA N b sg M) (g s v : Int32) : hm_HMet cA yL_adopts cL_adopts 5 (some .int) [(0, 7, 8, 20)] r_L_adopts [.ref b, .int g, .int s, .int v] M (lw_R cA N b (lcf lNI lNI lNI (sp_thAdopt sg g s v) (sg 10 (4 * nN s + nN g))) (if sp_thAdopt sg g s v = 0 then mm_up sg 10 (4 * nN s + nN g) v else sg)) := by
  obtain ⟨ta, ad, hR, hok, rfl⟩ := hQ
  refine hm_hmet 1 (by decide +kernel) (fun w h => by simp only [List.mem_cons, List.not_mem_nil, or_false] at h; rcases h with rfl | rfl | rfl | rfl <;> rfl) rfl (fun C X hC => ?_)
  show hm_W C 0 0 _ M 0 [some (.ref (ad 0 0)), some (.int g), some (.int s), some (.int v), none] []
  refine hr_aload_n X (tL_at tL_adopts_ok 0 rfl) rfl (Or.inr ⟨_, rfl⟩) ?_
  refine hr_iload_n X (tL_at tL_adopts_ok 1 rfl) rfl ?_
  refine hr_iload_n X (tL_at tL_adopts_ok 2 rfl) rfl ?_
  refine hr_iload_n X (tL_at tL_adopts_ok 3 rfl) rfl ?_
  refine hr_callVC X kCL_37 (tL_at tL_adopts_ok 4 rfl) (c_X5_adopt cA hR hI g s v) hR.c0 rfl rfl rfl rfl (Nat.le_of_ble_eq_true rfl) ⟨⟨(Nat.le_of_ble_eq_true rfl), (Nat.le_of_ble_eq_true rfl)⟩, (Nat.le_of_ble_eq_true rfl), (Nat.le_of_ble_eq_true rfl)⟩ (fun E M1 q9 hp => ?_) (fun v M1 hp => ?_)
  · obtain ⟨hE, rfl⟩ := hp
    have hQ1 : ls_Q cA N (ad 0 0) sg M := ⟨ta, ad, hR, hok, rfl⟩
    rcases hE with ⟨hth, rfl⟩
    refine lh_at X hC [] (0, 7, 8, 20) [] rfl (fun _ h => absurd h List.not_mem_nil) (by decide) (by decide) kXL_20 (by decide +kernel) ?_
    show hm_W C _ _ _ _ 8 _ _
    refine hr_astore X (tL_at tL_adopts_ok 6 rfl) (Nat.le_of_ble_eq_true rfl) (Or.inr ⟨_, rfl⟩) ?_
    refine hr_ldc (lNI) X (tL_at tL_adopts_ok 7 rfl) kKL_22 ?_
    exact hr_iretX X (tL_at tL_adopts_ok 8 rfl) (Nat.le_of_ble_eq_true rfl) (Nat.le_of_ble_eq_true rfl) ⟨by rw [lcf_1 hth], (by rw [if_neg (by rw [hth]; decide)]; exact hQ1)⟩
  · obtain ⟨hth, rfl, hR1⟩ := hp
    have hQ2 : ls_Q cA N (ad 0 0) (if sp_thAdopt sg g s v = 0 then mm_up sg 10 (4 * nN s + nN g) v else sg) M1 := by rw [if_pos hth]; exact ⟨ta, ad, hR1, cr_ok.adp hI hok, rfl⟩
    exact hr_iretX X (tL_at tL_adopts_ok 5 rfl) (Nat.le_of_ble_eq_true rfl) (Nat.le_of_ble_eq_true rfl) ⟨by rw [lcf_0 hth], hQ2⟩
abbrev r_L_folds : Room := { frames := 8, cells := 3, slots := 18, locals := 139 }
set_option maxHeartbeats 4000000 in
set_option maxRecDepth 100000 in
theorem c_L_folds (cA : Nat → ClassId) {sg : mm_S} {N M : hm_M} {b : Nat} (hI : sp_I sg) (hJ : sp_J sg) (hQ : ls_Q cA N b sg M) (s v : Int32) : hm_HMet cA yL_folds cL_folds 4 (some .int) [(0, 6, 7, 20), (0, 6, 11, 13)] r_L_folds [.ref b, .int s, .int v] M (lw_R cA N b (lcf lNI lNS lNS (sp_thFold sg s v) (sp_pass sg (16 * nN s + nN v) (sp_toO sg (nN s) (nN v)) false)) (if sp_thFold sg s v = 0 then sp_foldS sg (nN s) (nN v) else sg)) := by
  obtain ⟨ta, ad, hR, hok, rfl⟩ := hQ
  refine hm_hmet 1 (by decide +kernel) (fun w h => by simp only [List.mem_cons, List.not_mem_nil, or_false] at h; rcases h with rfl | rfl | rfl <;> rfl) rfl (fun C X hC => ?_)
  show hm_W C 0 0 _ M 0 [some (.ref (ad 0 0)), some (.int s), some (.int v), none] []
  refine hr_aload_n X (tL_at tL_folds_ok 0 rfl) rfl (Or.inr ⟨_, rfl⟩) ?_
  refine hr_iload_n X (tL_at tL_folds_ok 1 rfl) rfl ?_
  refine hr_iload_n X (tL_at tL_folds_ok 2 rfl) rfl ?_
  refine hr_callVC X kCL_40 (tL_at tL_folds_ok 3 rfl) (c_X5_fold cA hR hI hok s v) hR.c0 rfl rfl rfl rfl (Nat.le_of_ble_eq_true rfl) ⟨⟨(Nat.le_of_ble_eq_true rfl), (Nat.le_of_ble_eq_true rfl)⟩, (Nat.le_of_ble_eq_true rfl), (Nat.le_of_ble_eq_true rfl)⟩ (fun E M1 q9 hp => ?_) (fun v M1 hp => ?_)
  · obtain ⟨hE, hR1⟩ := hp
    have hQ1 : ls_Q cA N (ad 0 0) sg M1 := ⟨ta, ad, hR1, hok, rfl⟩
    rcases hE with ⟨hth, rfl⟩ | ⟨hth, rfl⟩
    · refine lh_at X hC [] (0, 6, 7, 20) [(0, 6, 11, 13)] rfl (fun _ h => absurd h List.not_mem_nil) (by decide) (by decide) kXL_20 (by decide +kernel) ?_
      show hm_W C _ _ _ _ 7 _ _
      refine hr_astore_n X (tL_at tL_folds_ok 5 rfl) (Nat.le_of_ble_eq_true rfl) (Or.inr ⟨_, rfl⟩) ?_
      refine hr_ldc (lNI) X (tL_at tL_folds_ok 6 rfl) kKL_22 ?_
      exact hr_iretX X (tL_at tL_folds_ok 7 rfl) (Nat.le_of_ble_eq_true rfl) (Nat.le_of_ble_eq_true rfl) ⟨by rw [lcf_1 hth], (by rw [if_neg (by rw [hth]; decide)]; exact hQ1)⟩
    · refine lh_at X hC [(0, 6, 7, 20)] (0, 6, 11, 13) [] rfl (List.forall_mem_cons.mpr ⟨⟨by decide, _, kXL_20, by decide +kernel⟩, (fun _ h => absurd h List.not_mem_nil)⟩) (by decide) (by decide) kXL_13 (by decide +kernel) ?_
      show hm_W C _ _ _ _ 11 _ _
      refine hr_astore_n X (tL_at tL_folds_ok 8 rfl) (Nat.le_of_ble_eq_true rfl) (Or.inr ⟨_, rfl⟩) ?_
      refine hr_ldc (lNS) X (tL_at tL_folds_ok 9 rfl) kKL_15 ?_
      exact hr_iretX X (tL_at tL_folds_ok 10 rfl) (Nat.le_of_ble_eq_true rfl) (Nat.le_of_ble_eq_true rfl) ⟨by rw [lcf_2 hth], (by rw [if_neg (by rw [hth]; decide)]; exact hQ1)⟩
  · obtain ⟨hth, rfl, ta1, ad1, hR1, hok1, had⟩ := hp
    have hQ2 : ls_Q cA N (ad 0 0) (if sp_thFold sg s v = 0 then sp_foldS sg (nN s) (nN v) else sg) M1 := by rw [if_pos hth]; exact ⟨ta1, ad1, hR1, hok1, had⟩
    exact hr_iretX X (tL_at tL_folds_ok 4 rfl) (Nat.le_of_ble_eq_true rfl) (Nat.le_of_ble_eq_true rfl) ⟨by rw [lcf_0 hth], hQ2⟩
abbrev r_L_versions : Room := { frames := 8, cells := 1, slots := 6, locals := 136 }
set_option maxHeartbeats 4000000 in
set_option maxRecDepth 100000 in
theorem c_L_versions (cA : Nat → ClassId) {sg : mm_S} {N M : hm_M} {b : Nat} (hI : sp_I sg) (hJ : sp_J sg) (hQ : ls_Q cA N b sg M) (s : Int32) : hm_HMet cA yL_versions cL_versions 3 (some .int) [(0, 5, 6, 20)] r_L_versions [.ref b, .int s] M (lw_R cA N b (lcf lNI lNI lNI (sp_w (sp_isS sg s)) (sp_vers sg (nN s))) sg) := by
  obtain ⟨ta, ad, hR, hok, rfl⟩ := hQ
  refine hm_hmet 1 (by decide +kernel) (fun w h => by simp only [List.mem_cons, List.not_mem_nil, or_false] at h; rcases h with rfl | rfl <;> rfl) rfl (fun C X hC => ?_)
  show hm_W C 0 0 _ M 0 [some (.ref (ad 0 0)), some (.int s), none] []
  refine hr_aload_n X (tL_at tL_versions_ok 0 rfl) rfl (Or.inr ⟨_, rfl⟩) ?_
  refine hr_iload_n X (tL_at tL_versions_ok 1 rfl) rfl ?_
  refine hr_callVC X kCL_44 (tL_at tL_versions_ok 2 rfl) (c_X5_versions cA hR hI s) hR.c0 rfl rfl rfl rfl (Nat.le_of_ble_eq_true rfl) ⟨⟨(Nat.le_of_ble_eq_true rfl), (Nat.le_of_ble_eq_true rfl)⟩, (Nat.le_of_ble_eq_true rfl), (Nat.le_of_ble_eq_true rfl)⟩ (fun E M1 q9 hp => ?_) (fun v M1 hp => ?_)
  · obtain ⟨hc, rfl, rfl⟩ := hp
    have hth : sp_w (sp_isS sg s) = 1 := by rw [hc]; rfl
    have hQ1 : ls_Q cA N (ad 0 0) sg M := ⟨ta, ad, hR, hok, rfl⟩
    refine lh_at X hC [] (0, 5, 6, 20) [] rfl (fun _ h => absurd h List.not_mem_nil) (by decide) (by decide) kXL_20 (by decide +kernel) ?_
    show hm_W C _ _ _ _ 6 _ _
    refine hr_astore_n X (tL_at tL_versions_ok 4 rfl) (Nat.le_of_ble_eq_true rfl) (Or.inr ⟨_, rfl⟩) ?_
    refine hr_ldc (lNI) X (tL_at tL_versions_ok 5 rfl) kKL_22 ?_
    exact hr_iretX X (tL_at tL_versions_ok 6 rfl) (Nat.le_of_ble_eq_true rfl) (Nat.le_of_ble_eq_true rfl) ⟨by rw [lcf_1 hth], hQ1⟩
  · obtain ⟨hc, rfl, rfl⟩ := hp
    have hth : sp_w (sp_isS sg s) = 0 := sp_w_0.mpr hc
    have hQ2 : ls_Q cA N (ad 0 0) sg M := ⟨ta, ad, hR, hok, rfl⟩
    exact hr_iretX X (tL_at tL_versions_ok 3 rfl) (Nat.le_of_ble_eq_true rfl) (Nat.le_of_ble_eq_true rfl) ⟨by rw [lcf_0 hth], hQ2⟩
abbrev r_L_head : Room := { frames := 8, cells := 2, slots := 12, locals := 134 }
set_option maxHeartbeats 4000000 in
set_option maxRecDepth 100000 in
theorem c_L_head (cA : Nat → ClassId) {sg : mm_S} {N M : hm_M} {b : Nat} (hI : sp_I sg) (hJ : sp_J sg) (hQ : ls_Q cA N b sg M) (g s : Int32) : hm_HMet cA yL_head cL_head 4 (some .int) [(0, 6, 7, 20)] r_L_head [.ref b, .int g, .int s] M (lw_R cA N b (lcf lNI lNI lNI (sp_w (sp_in g 0 3 && sp_isS sg s)) (sg 10 (4 * nN s + nN g))) sg) := by
  obtain ⟨ta, ad, hR, hok, rfl⟩ := hQ
  refine hm_hmet 1 (by decide +kernel) (fun w h => by simp only [List.mem_cons, List.not_mem_nil, or_false] at h; rcases h with rfl | rfl | rfl <;> rfl) rfl (fun C X hC => ?_)
  show hm_W C 0 0 _ M 0 [some (.ref (ad 0 0)), some (.int g), some (.int s), none] []
  refine hr_aload_n X (tL_at tL_head_ok 0 rfl) rfl (Or.inr ⟨_, rfl⟩) ?_
  refine hr_iload_n X (tL_at tL_head_ok 1 rfl) rfl ?_
  refine hr_iload_n X (tL_at tL_head_ok 2 rfl) rfl ?_
  refine hr_callVC X kCL_48 (tL_at tL_head_ok 3 rfl) (c_X5_head cA hR hI g s) hR.c0 rfl rfl rfl rfl (Nat.le_of_ble_eq_true rfl) ⟨⟨(Nat.le_of_ble_eq_true rfl), (Nat.le_of_ble_eq_true rfl)⟩, (Nat.le_of_ble_eq_true rfl), (Nat.le_of_ble_eq_true rfl)⟩ (fun E M1 q9 hp => ?_) (fun v M1 hp => ?_)
  · obtain ⟨hc, rfl, rfl⟩ := hp
    have hth : sp_w (sp_in g 0 3 && sp_isS sg s) = 1 := by rw [hc]; rfl
    have hQ1 : ls_Q cA N (ad 0 0) sg M := ⟨ta, ad, hR, hok, rfl⟩
    refine lh_at X hC [] (0, 6, 7, 20) [] rfl (fun _ h => absurd h List.not_mem_nil) (by decide) (by decide) kXL_20 (by decide +kernel) ?_
    show hm_W C _ _ _ _ 7 _ _
    refine hr_astore_n X (tL_at tL_head_ok 5 rfl) (Nat.le_of_ble_eq_true rfl) (Or.inr ⟨_, rfl⟩) ?_
    refine hr_ldc (lNI) X (tL_at tL_head_ok 6 rfl) kKL_22 ?_
    exact hr_iretX X (tL_at tL_head_ok 7 rfl) (Nat.le_of_ble_eq_true rfl) (Nat.le_of_ble_eq_true rfl) ⟨by rw [lcf_1 hth], hQ1⟩
  · obtain ⟨hc, rfl, rfl⟩ := hp
    have hth : sp_w (sp_in g 0 3 && sp_isS sg s) = 0 := sp_w_0.mpr hc
    have hQ2 : ls_Q cA N (ad 0 0) sg M := ⟨ta, ad, hR, hok, rfl⟩
    exact hr_iretX X (tL_at tL_head_ok 4 rfl) (Nat.le_of_ble_eq_true rfl) (Nat.le_of_ble_eq_true rfl) ⟨by rw [lcf_0 hth], hQ2⟩
abbrev r_L_parent : Room := { frames := 8, cells := 2, slots := 12, locals := 134 }
set_option maxHeartbeats 4000000 in
set_option maxRecDepth 100000 in
theorem c_L_parent (cA : Nat → ClassId) {sg : mm_S} {N M : hm_M} {b : Nat} (hI : sp_I sg) (hJ : sp_J sg) (hQ : ls_Q cA N b sg M) (s v : Int32) : hm_HMet cA yL_parent cL_parent 4 (some .int) [(0, 6, 7, 20)] r_L_parent [.ref b, .int s, .int v] M (lw_R cA N b (lcf lNI lNI lNI (sp_w (sp_isV sg s v)) (sg 3 (16 * nN s + nN v))) sg) := by
  obtain ⟨ta, ad, hR, hok, rfl⟩ := hQ
  refine hm_hmet 1 (by decide +kernel) (fun w h => by simp only [List.mem_cons, List.not_mem_nil, or_false] at h; rcases h with rfl | rfl | rfl <;> rfl) rfl (fun C X hC => ?_)
  show hm_W C 0 0 _ M 0 [some (.ref (ad 0 0)), some (.int s), some (.int v), none] []
  refine hr_aload_n X (tL_at tL_parent_ok 0 rfl) rfl (Or.inr ⟨_, rfl⟩) ?_
  refine hr_iload_n X (tL_at tL_parent_ok 1 rfl) rfl ?_
  refine hr_iload_n X (tL_at tL_parent_ok 2 rfl) rfl ?_
  refine hr_callVC X kCL_51 (tL_at tL_parent_ok 3 rfl) (c_X5_parent cA hR hI s v) hR.c0 rfl rfl rfl rfl (Nat.le_of_ble_eq_true rfl) ⟨⟨(Nat.le_of_ble_eq_true rfl), (Nat.le_of_ble_eq_true rfl)⟩, (Nat.le_of_ble_eq_true rfl), (Nat.le_of_ble_eq_true rfl)⟩ (fun E M1 q9 hp => ?_) (fun v M1 hp => ?_)
  · obtain ⟨hc, rfl, rfl⟩ := hp
    have hth : sp_w (sp_isV sg s v) = 1 := by rw [hc]; rfl
    have hQ1 : ls_Q cA N (ad 0 0) sg M := ⟨ta, ad, hR, hok, rfl⟩
    refine lh_at X hC [] (0, 6, 7, 20) [] rfl (fun _ h => absurd h List.not_mem_nil) (by decide) (by decide) kXL_20 (by decide +kernel) ?_
    show hm_W C _ _ _ _ 7 _ _
    refine hr_astore_n X (tL_at tL_parent_ok 5 rfl) (Nat.le_of_ble_eq_true rfl) (Or.inr ⟨_, rfl⟩) ?_
    refine hr_ldc (lNI) X (tL_at tL_parent_ok 6 rfl) kKL_22 ?_
    exact hr_iretX X (tL_at tL_parent_ok 7 rfl) (Nat.le_of_ble_eq_true rfl) (Nat.le_of_ble_eq_true rfl) ⟨by rw [lcf_1 hth], hQ1⟩
  · obtain ⟨hc, rfl, rfl⟩ := hp
    have hth : sp_w (sp_isV sg s v) = 0 := sp_w_0.mpr hc
    have hQ2 : ls_Q cA N (ad 0 0) sg M := ⟨ta, ad, hR, hok, rfl⟩
    exact hr_iretX X (tL_at tL_parent_ok 4 rfl) (Nat.le_of_ble_eq_true rfl) (Nat.le_of_ble_eq_true rfl) ⟨by rw [lcf_0 hth], hQ2⟩
abbrev r_L_kind : Room := { frames := 8, cells := 3, slots := 18, locals := 137 }
set_option maxHeartbeats 4000000 in
set_option maxRecDepth 100000 in
theorem c_L_kind (cA : Nat → ClassId) {sg : mm_S} {N M : hm_M} {b : Nat} (hI : sp_I sg) (hJ : sp_J sg) (hQ : ls_Q cA N b sg M) (s v t : Int32) : hm_HMet cA yL_kind cL_kind 5 (some .int) [(0, 7, 8, 20)] r_L_kind [.ref b, .int s, .int v, .int t] M (lw_R cA N b (lcf lNI lNI lNI (sp_thTask sg s v t) (sp_kind sg (nN s) (nN v) (nN t))) sg) := by
  obtain ⟨ta, ad, hR, hok, rfl⟩ := hQ
  refine hm_hmet 1 (by decide +kernel) (fun w h => by simp only [List.mem_cons, List.not_mem_nil, or_false] at h; rcases h with rfl | rfl | rfl | rfl <;> rfl) rfl (fun C X hC => ?_)
  show hm_W C 0 0 _ M 0 [some (.ref (ad 0 0)), some (.int s), some (.int v), some (.int t), none] []
  refine hr_aload_n X (tL_at tL_kind_ok 0 rfl) rfl (Or.inr ⟨_, rfl⟩) ?_
  refine hr_iload_n X (tL_at tL_kind_ok 1 rfl) rfl ?_
  refine hr_iload_n X (tL_at tL_kind_ok 2 rfl) rfl ?_
  refine hr_iload_n X (tL_at tL_kind_ok 3 rfl) rfl ?_
  refine hr_callVC X kCL_54 (tL_at tL_kind_ok 4 rfl) (c_X5_kindOf cA hR hI s v t) hR.c0 rfl rfl rfl rfl (Nat.le_of_ble_eq_true rfl) ⟨⟨(Nat.le_of_ble_eq_true rfl), (Nat.le_of_ble_eq_true rfl)⟩, (Nat.le_of_ble_eq_true rfl), (Nat.le_of_ble_eq_true rfl)⟩ (fun E M1 q9 hp => ?_) (fun v M1 hp => ?_)
  · obtain ⟨hc, rfl, rfl⟩ := hp
    have hth : sp_thTask sg s v t = 1 := by show sp_w (sp_isV sg s v && sp_in t 0 4) = 1; rw [hc]; rfl
    have hQ1 : ls_Q cA N (ad 0 0) sg M := ⟨ta, ad, hR, hok, rfl⟩
    refine lh_at X hC [] (0, 7, 8, 20) [] rfl (fun _ h => absurd h List.not_mem_nil) (by decide) (by decide) kXL_20 (by decide +kernel) ?_
    show hm_W C _ _ _ _ 8 _ _
    refine hr_astore X (tL_at tL_kind_ok 6 rfl) (Nat.le_of_ble_eq_true rfl) (Or.inr ⟨_, rfl⟩) ?_
    refine hr_ldc (lNI) X (tL_at tL_kind_ok 7 rfl) kKL_22 ?_
    exact hr_iretX X (tL_at tL_kind_ok 8 rfl) (Nat.le_of_ble_eq_true rfl) (Nat.le_of_ble_eq_true rfl) ⟨by rw [lcf_1 hth], hQ1⟩
  · obtain ⟨hc, rfl, rfl⟩ := hp
    have hth : sp_thTask sg s v t = 0 := sp_w_0.mpr hc
    have hQ2 : ls_Q cA N (ad 0 0) sg M := ⟨ta, ad, hR, hok, rfl⟩
    exact hr_iretX X (tL_at tL_kind_ok 5 rfl) (Nat.le_of_ble_eq_true rfl) (Nat.le_of_ble_eq_true rfl) ⟨by rw [lcf_0 hth], hQ2⟩
abbrev r_L_toldIn : Room := { frames := 8, cells := 3, slots := 18, locals := 136 }
set_option maxHeartbeats 4000000 in
set_option maxRecDepth 100000 in
theorem c_L_toldIn (cA : Nat → ClassId) {sg : mm_S} {N M : hm_M} {b : Nat} (hI : sp_I sg) (hJ : sp_J sg) (hQ : ls_Q cA N b sg M) (s v t : Int32) : hm_HMet cA yL_toldIn cL_toldIn 5 (some .int) [(0, 7, 8, 20)] r_L_toldIn [.ref b, .int s, .int v, .int t] M (lw_R cA N b (lcf lNI lNI lNI (sp_thTask sg s v t) (sp_o (sp_tel sg (nN s) (nN v) (nN t)))) sg) := by
  obtain ⟨ta, ad, hR, hok, rfl⟩ := hQ
  refine hm_hmet 1 (by decide +kernel) (fun w h => by simp only [List.mem_cons, List.not_mem_nil, or_false] at h; rcases h with rfl | rfl | rfl | rfl <;> rfl) rfl (fun C X hC => ?_)
  show hm_W C 0 0 _ M 0 [some (.ref (ad 0 0)), some (.int s), some (.int v), some (.int t), none] []
  refine hr_aload_n X (tL_at tL_toldIn_ok 0 rfl) rfl (Or.inr ⟨_, rfl⟩) ?_
  refine hr_iload_n X (tL_at tL_toldIn_ok 1 rfl) rfl ?_
  refine hr_iload_n X (tL_at tL_toldIn_ok 2 rfl) rfl ?_
  refine hr_iload_n X (tL_at tL_toldIn_ok 3 rfl) rfl ?_
  refine hr_callVC X kCL_57 (tL_at tL_toldIn_ok 4 rfl) (c_X5_toldIn cA hR hI s v t) hR.c0 rfl rfl rfl rfl (Nat.le_of_ble_eq_true rfl) ⟨⟨(Nat.le_of_ble_eq_true rfl), (Nat.le_of_ble_eq_true rfl)⟩, (Nat.le_of_ble_eq_true rfl), (Nat.le_of_ble_eq_true rfl)⟩ (fun E M1 q9 hp => ?_) (fun v M1 hp => ?_)
  · obtain ⟨hc, rfl, rfl⟩ := hp
    have hth : sp_thTask sg s v t = 1 := by show sp_w (sp_isV sg s v && sp_in t 0 4) = 1; rw [hc]; rfl
    have hQ1 : ls_Q cA N (ad 0 0) sg M := ⟨ta, ad, hR, hok, rfl⟩
    refine lh_at X hC [] (0, 7, 8, 20) [] rfl (fun _ h => absurd h List.not_mem_nil) (by decide) (by decide) kXL_20 (by decide +kernel) ?_
    show hm_W C _ _ _ _ 8 _ _
    refine hr_astore X (tL_at tL_toldIn_ok 6 rfl) (Nat.le_of_ble_eq_true rfl) (Or.inr ⟨_, rfl⟩) ?_
    refine hr_ldc (lNI) X (tL_at tL_toldIn_ok 7 rfl) kKL_22 ?_
    exact hr_iretX X (tL_at tL_toldIn_ok 8 rfl) (Nat.le_of_ble_eq_true rfl) (Nat.le_of_ble_eq_true rfl) ⟨by rw [lcf_1 hth], hQ1⟩
  · obtain ⟨hc, rfl, rfl⟩ := hp
    have hth : sp_thTask sg s v t = 0 := sp_w_0.mpr hc
    have hQ2 : ls_Q cA N (ad 0 0) sg M := ⟨ta, ad, hR, hok, rfl⟩
    exact hr_iretX X (tL_at tL_toldIn_ok 5 rfl) (Nat.le_of_ble_eq_true rfl) (Nat.le_of_ble_eq_true rfl) ⟨by rw [lcf_0 hth], hQ2⟩
abbrev r_L_points : Room := { frames := 8, cells := 2, slots := 12, locals := 138 }
set_option maxHeartbeats 4000000 in
set_option maxRecDepth 100000 in
theorem c_L_points (cA : Nat → ClassId) {sg : mm_S} {N M : hm_M} {b : Nat} (hI : sp_I sg) (hJ : sp_J sg) (hQ : ls_Q cA N b sg M) (s v : Int32) : hm_HMet cA yL_points cL_points 4 (some .int) [(0, 6, 7, 20)] r_L_points [.ref b, .int s, .int v] M (lw_R cA N b (lcf lNI lNI lNI (sp_w (sp_isV sg s v)) (sp_pts sg (nN s) (nN v))) sg) := by
  obtain ⟨ta, ad, hR, hok, rfl⟩ := hQ
  refine hm_hmet 1 (by decide +kernel) (fun w h => by simp only [List.mem_cons, List.not_mem_nil, or_false] at h; rcases h with rfl | rfl | rfl <;> rfl) rfl (fun C X hC => ?_)
  show hm_W C 0 0 _ M 0 [some (.ref (ad 0 0)), some (.int s), some (.int v), none] []
  refine hr_aload_n X (tL_at tL_points_ok 0 rfl) rfl (Or.inr ⟨_, rfl⟩) ?_
  refine hr_iload_n X (tL_at tL_points_ok 1 rfl) rfl ?_
  refine hr_iload_n X (tL_at tL_points_ok 2 rfl) rfl ?_
  refine hr_callVC X kCL_60 (tL_at tL_points_ok 3 rfl) (c_X5_points cA hR hI s v) hR.c0 rfl rfl rfl rfl (Nat.le_of_ble_eq_true rfl) ⟨⟨(Nat.le_of_ble_eq_true rfl), (Nat.le_of_ble_eq_true rfl)⟩, (Nat.le_of_ble_eq_true rfl), (Nat.le_of_ble_eq_true rfl)⟩ (fun E M1 q9 hp => ?_) (fun v M1 hp => ?_)
  · obtain ⟨hc, rfl, rfl⟩ := hp
    have hth : sp_w (sp_isV sg s v) = 1 := by rw [hc]; rfl
    have hQ1 : ls_Q cA N (ad 0 0) sg M := ⟨ta, ad, hR, hok, rfl⟩
    refine lh_at X hC [] (0, 6, 7, 20) [] rfl (fun _ h => absurd h List.not_mem_nil) (by decide) (by decide) kXL_20 (by decide +kernel) ?_
    show hm_W C _ _ _ _ 7 _ _
    refine hr_astore_n X (tL_at tL_points_ok 5 rfl) (Nat.le_of_ble_eq_true rfl) (Or.inr ⟨_, rfl⟩) ?_
    refine hr_ldc (lNI) X (tL_at tL_points_ok 6 rfl) kKL_22 ?_
    exact hr_iretX X (tL_at tL_points_ok 7 rfl) (Nat.le_of_ble_eq_true rfl) (Nat.le_of_ble_eq_true rfl) ⟨by rw [lcf_1 hth], hQ1⟩
  · obtain ⟨hc, rfl, rfl⟩ := hp
    have hth : sp_w (sp_isV sg s v) = 0 := sp_w_0.mpr hc
    have hQ2 : ls_Q cA N (ad 0 0) sg M := ⟨ta, ad, hR, hok, rfl⟩
    exact hr_iretX X (tL_at tL_points_ok 4 rfl) (Nat.le_of_ble_eq_true rfl) (Nat.le_of_ble_eq_true rfl) ⟨by rw [lcf_0 hth], hQ2⟩
abbrev r_L_mendsNumber : Room := { frames := 9, cells := 6, slots := 36, locals := 200 }
set_option maxHeartbeats 4000000 in
set_option maxRecDepth 100000 in
theorem c_L_mendsNumber (cA : Nat → ClassId) {sg : mm_S} {N M : hm_M} {b : Nat} (hI : sp_I sg) (hJ : sp_J sg) (hQ : ls_Q cA N b sg M) (s v t value slack : Int32) : hm_HMet cA yL_mendsNumber cL_mendsNumber 7 (some .int) [(0, 11, 12, 20), (0, 11, 17, 23), (0, 11, 22, 13)] r_L_mendsNumber [.ref b, .int s, .int v, .int t, .int value, .int slack] M (lw_R cA N b (lcf lNI lNA lNS (sp_thMen sg s v t (sp_in value (-1000) 1000 && sp_in slack 0 100) 0) (sp_mendN sg (nN s) (sp_menE sg (nN s) (nN v) (nN t) 0) value slack)) (if sp_thMen sg s v t (sp_in value (-1000) 1000 && sp_in slack 0 100) 0 = 0 then sp_mend sg (nN s) (sp_menE sg (nN s) (nN v) (nN t) 0) value slack else sg)) := by
  obtain ⟨ta, ad, hR, hok, rfl⟩ := hQ
  refine hm_hmet 1 (by decide +kernel) (fun w h => by simp only [List.mem_cons, List.not_mem_nil, or_false] at h; rcases h with rfl | rfl | rfl | rfl | rfl | rfl <;> rfl) rfl (fun C X hC => ?_)
  show hm_W C 0 0 _ M 0 [some (.ref (ad 0 0)), some (.int s), some (.int v), some (.int t), some (.int value), some (.int slack), none] []
  refine hr_aload_n X (tL_at tL_mendsNumber_ok 0 rfl) rfl (Or.inr ⟨_, rfl⟩) ?_
  refine hr_iload_n X (tL_at tL_mendsNumber_ok 1 rfl) rfl ?_
  refine hr_iload_n X (tL_at tL_mendsNumber_ok 2 rfl) rfl ?_
  refine hr_iload_n X (tL_at tL_mendsNumber_ok 3 rfl) rfl ?_
  refine hr_iload X (tL_at tL_mendsNumber_ok 4 rfl) rfl ?_
  refine hr_iload X (tL_at tL_mendsNumber_ok 5 rfl) rfl ?_
  refine hr_callVC X kCL_63 (tL_at tL_mendsNumber_ok 6 rfl) (c_X5_mendNumber cA hR hI hok s v t value slack) hR.c0 rfl rfl rfl rfl (Nat.le_of_ble_eq_true rfl) ⟨⟨(Nat.le_of_ble_eq_true rfl), (Nat.le_of_ble_eq_true rfl)⟩, (Nat.le_of_ble_eq_true rfl), (Nat.le_of_ble_eq_true rfl)⟩ (fun E M1 q9 hp => ?_) (fun v M1 hp => ?_)
  · obtain ⟨hE, rfl⟩ := hp
    have hQ1 : ls_Q cA N (ad 0 0) sg M := ⟨ta, ad, hR, hok, rfl⟩
    rcases hE with ⟨hth, rfl⟩ | ⟨hth, rfl⟩ | ⟨hth, rfl⟩
    · refine lh_at X hC [] (0, 11, 12, 20) [(0, 11, 17, 23), (0, 11, 22, 13)] rfl (fun _ h => absurd h List.not_mem_nil) (by decide) (by decide) kXL_20 (by decide +kernel) ?_
      show hm_W C _ _ _ _ 12 _ _
      refine hr_astore X (tL_at tL_mendsNumber_ok 8 rfl) (Nat.le_of_ble_eq_true rfl) (Or.inr ⟨_, rfl⟩) ?_
      refine hr_ldc (lNI) X (tL_at tL_mendsNumber_ok 9 rfl) kKL_22 ?_
      exact hr_iretX X (tL_at tL_mendsNumber_ok 10 rfl) (Nat.le_of_ble_eq_true rfl) (Nat.le_of_ble_eq_true rfl) ⟨by rw [lcf_1 hth], (by rw [if_neg (by rw [hth]; decide)]; exact hQ1)⟩
    · refine lh_at X hC [(0, 11, 12, 20)] (0, 11, 17, 23) [(0, 11, 22, 13)] rfl (List.forall_mem_cons.mpr ⟨⟨by decide, _, kXL_20, by decide +kernel⟩, (fun _ h => absurd h List.not_mem_nil)⟩) (by decide) (by decide) kXL_23 (by decide +kernel) ?_
      show hm_W C _ _ _ _ 17 _ _
      refine hr_astore X (tL_at tL_mendsNumber_ok 11 rfl) (Nat.le_of_ble_eq_true rfl) (Or.inr ⟨_, rfl⟩) ?_
      refine hr_ldc (lNA) X (tL_at tL_mendsNumber_ok 12 rfl) kKL_25 ?_
      exact hr_iretX X (tL_at tL_mendsNumber_ok 13 rfl) (Nat.le_of_ble_eq_true rfl) (Nat.le_of_ble_eq_true rfl) ⟨by rw [lcf_2 hth], (by rw [if_neg (by rw [hth]; decide)]; exact hQ1)⟩
    · refine lh_at X hC [(0, 11, 12, 20), (0, 11, 17, 23)] (0, 11, 22, 13) [] rfl (List.forall_mem_cons.mpr ⟨⟨by decide, _, kXL_20, by decide +kernel⟩, (List.forall_mem_cons.mpr ⟨⟨by decide, _, kXL_23, by decide +kernel⟩, (fun _ h => absurd h List.not_mem_nil)⟩)⟩) (by decide) (by decide) kXL_13 (by decide +kernel) ?_
      show hm_W C _ _ _ _ 22 _ _
      refine hr_astore X (tL_at tL_mendsNumber_ok 14 rfl) (Nat.le_of_ble_eq_true rfl) (Or.inr ⟨_, rfl⟩) ?_
      refine hr_ldc (lNS) X (tL_at tL_mendsNumber_ok 15 rfl) kKL_15 ?_
      exact hr_iretX X (tL_at tL_mendsNumber_ok 16 rfl) (Nat.le_of_ble_eq_true rfl) (Nat.le_of_ble_eq_true rfl) ⟨by rw [lcf_3 hth], (by rw [if_neg (by rw [hth]; decide)]; exact hQ1)⟩
  · obtain ⟨hth, rfl, ta1, hR1, hok1⟩ := hp
    have hQ2 : ls_Q cA N (ad 0 0) (if sp_thMen sg s v t (sp_in value (-1000) 1000 && sp_in slack 0 100) 0 = 0 then sp_mend sg (nN s) (sp_menE sg (nN s) (nN v) (nN t) 0) value slack else sg) M1 := by rw [if_pos hth]; exact ⟨ta1, ad, hR1, hok1, rfl⟩
    exact hr_iretX X (tL_at tL_mendsNumber_ok 7 rfl) (Nat.le_of_ble_eq_true rfl) (Nat.le_of_ble_eq_true rfl) ⟨by rw [lcf_0 hth], hQ2⟩
abbrev r_L_mendsChoice : Room := { frames := 8, cells := 5, slots := 30, locals := 199 }
set_option maxHeartbeats 4000000 in
set_option maxRecDepth 100000 in
theorem c_L_mendsChoice (cA : Nat → ClassId) {sg : mm_S} {N M : hm_M} {b : Nat} (hI : sp_I sg) (hJ : sp_J sg) (hQ : ls_Q cA N b sg M) (s v t signs : Int32) : hm_HMet cA yL_mendsChoice cL_mendsChoice 6 (some .int) [(0, 9, 10, 20), (0, 9, 15, 23), (0, 9, 20, 13)] r_L_mendsChoice [.ref b, .int s, .int v, .int t, .int signs] M (lw_R cA N b (lcf lNI lNA lNS (sp_thMen sg s v t (sp_in signs 0 31) 1) (sp_mendN sg (nN s) (sp_menE sg (nN s) (nN v) (nN t) 1) signs 0)) (if sp_thMen sg s v t (sp_in signs 0 31) 1 = 0 then sp_mend sg (nN s) (sp_menE sg (nN s) (nN v) (nN t) 1) signs 0 else sg)) := by
  obtain ⟨ta, ad, hR, hok, rfl⟩ := hQ
  refine hm_hmet 1 (by decide +kernel) (fun w h => by simp only [List.mem_cons, List.not_mem_nil, or_false] at h; rcases h with rfl | rfl | rfl | rfl | rfl <;> rfl) rfl (fun C X hC => ?_)
  show hm_W C 0 0 _ M 0 [some (.ref (ad 0 0)), some (.int s), some (.int v), some (.int t), some (.int signs), none] []
  refine hr_aload_n X (tL_at tL_mendsChoice_ok 0 rfl) rfl (Or.inr ⟨_, rfl⟩) ?_
  refine hr_iload_n X (tL_at tL_mendsChoice_ok 1 rfl) rfl ?_
  refine hr_iload_n X (tL_at tL_mendsChoice_ok 2 rfl) rfl ?_
  refine hr_iload_n X (tL_at tL_mendsChoice_ok 3 rfl) rfl ?_
  refine hr_iload X (tL_at tL_mendsChoice_ok 4 rfl) rfl ?_
  refine hr_callVC X kCL_66 (tL_at tL_mendsChoice_ok 5 rfl) (c_X5_mendChoice cA hR hI hok s v t signs) hR.c0 rfl rfl rfl rfl (Nat.le_of_ble_eq_true rfl) ⟨⟨(Nat.le_of_ble_eq_true rfl), (Nat.le_of_ble_eq_true rfl)⟩, (Nat.le_of_ble_eq_true rfl), (Nat.le_of_ble_eq_true rfl)⟩ (fun E M1 q9 hp => ?_) (fun v M1 hp => ?_)
  · obtain ⟨hE, rfl⟩ := hp
    have hQ1 : ls_Q cA N (ad 0 0) sg M := ⟨ta, ad, hR, hok, rfl⟩
    rcases hE with ⟨hth, rfl⟩ | ⟨hth, rfl⟩ | ⟨hth, rfl⟩
    · refine lh_at X hC [] (0, 9, 10, 20) [(0, 9, 15, 23), (0, 9, 20, 13)] rfl (fun _ h => absurd h List.not_mem_nil) (by decide) (by decide) kXL_20 (by decide +kernel) ?_
      show hm_W C _ _ _ _ 10 _ _
      refine hr_astore X (tL_at tL_mendsChoice_ok 7 rfl) (Nat.le_of_ble_eq_true rfl) (Or.inr ⟨_, rfl⟩) ?_
      refine hr_ldc (lNI) X (tL_at tL_mendsChoice_ok 8 rfl) kKL_22 ?_
      exact hr_iretX X (tL_at tL_mendsChoice_ok 9 rfl) (Nat.le_of_ble_eq_true rfl) (Nat.le_of_ble_eq_true rfl) ⟨by rw [lcf_1 hth], (by rw [if_neg (by rw [hth]; decide)]; exact hQ1)⟩
    · refine lh_at X hC [(0, 9, 10, 20)] (0, 9, 15, 23) [(0, 9, 20, 13)] rfl (List.forall_mem_cons.mpr ⟨⟨by decide, _, kXL_20, by decide +kernel⟩, (fun _ h => absurd h List.not_mem_nil)⟩) (by decide) (by decide) kXL_23 (by decide +kernel) ?_
      show hm_W C _ _ _ _ 15 _ _
      refine hr_astore X (tL_at tL_mendsChoice_ok 10 rfl) (Nat.le_of_ble_eq_true rfl) (Or.inr ⟨_, rfl⟩) ?_
      refine hr_ldc (lNA) X (tL_at tL_mendsChoice_ok 11 rfl) kKL_25 ?_
      exact hr_iretX X (tL_at tL_mendsChoice_ok 12 rfl) (Nat.le_of_ble_eq_true rfl) (Nat.le_of_ble_eq_true rfl) ⟨by rw [lcf_2 hth], (by rw [if_neg (by rw [hth]; decide)]; exact hQ1)⟩
    · refine lh_at X hC [(0, 9, 10, 20), (0, 9, 15, 23)] (0, 9, 20, 13) [] rfl (List.forall_mem_cons.mpr ⟨⟨by decide, _, kXL_20, by decide +kernel⟩, (List.forall_mem_cons.mpr ⟨⟨by decide, _, kXL_23, by decide +kernel⟩, (fun _ h => absurd h List.not_mem_nil)⟩)⟩) (by decide) (by decide) kXL_13 (by decide +kernel) ?_
      show hm_W C _ _ _ _ 20 _ _
      refine hr_astore X (tL_at tL_mendsChoice_ok 13 rfl) (Nat.le_of_ble_eq_true rfl) (Or.inr ⟨_, rfl⟩) ?_
      refine hr_ldc (lNS) X (tL_at tL_mendsChoice_ok 14 rfl) kKL_15 ?_
      exact hr_iretX X (tL_at tL_mendsChoice_ok 15 rfl) (Nat.le_of_ble_eq_true rfl) (Nat.le_of_ble_eq_true rfl) ⟨by rw [lcf_3 hth], (by rw [if_neg (by rw [hth]; decide)]; exact hQ1)⟩
  · obtain ⟨hth, rfl, ta1, hR1, hok1⟩ := hp
    have hQ2 : ls_Q cA N (ad 0 0) (if sp_thMen sg s v t (sp_in signs 0 31) 1 = 0 then sp_mend sg (nN s) (sp_menE sg (nN s) (nN v) (nN t) 1) signs 0 else sg) M1 := by rw [if_pos hth]; exact ⟨ta1, ad, hR1, hok1, rfl⟩
    exact hr_iretX X (tL_at tL_mendsChoice_ok 6 rfl) (Nat.le_of_ble_eq_true rfl) (Nat.le_of_ble_eq_true rfl) ⟨by rw [lcf_0 hth], hQ2⟩
abbrev r_L_mendsWords : Room := { frames := 8, cells := 5, slots := 30, locals := 199 }
set_option maxHeartbeats 4000000 in
set_option maxRecDepth 100000 in
theorem c_L_mendsWords (cA : Nat → ClassId) {sg : mm_S} {N M : hm_M} {b : Nat} (hI : sp_I sg) (hJ : sp_J sg) (hQ : ls_Q cA N b sg M) (s v t words : Int32) : hm_HMet cA yL_mendsWords cL_mendsWords 6 (some .int) [(0, 9, 10, 20), (0, 9, 15, 23), (0, 9, 20, 13)] r_L_mendsWords [.ref b, .int s, .int v, .int t, .int words] M (lw_R cA N b (lcf lNI lNA lNS (sp_thMenW sg s v t words) (sp_mendN sg (nN s) (sp_menE sg (nN s) (nN v) (nN t) 2) words 0)) (if sp_thMenW sg s v t words = 0 then sp_mend sg (nN s) (sp_menE sg (nN s) (nN v) (nN t) 2) words 0 else sg)) := by
  obtain ⟨ta, ad, hR, hok, rfl⟩ := hQ
  refine hm_hmet 1 (by decide +kernel) (fun w h => by simp only [List.mem_cons, List.not_mem_nil, or_false] at h; rcases h with rfl | rfl | rfl | rfl | rfl <;> rfl) rfl (fun C X hC => ?_)
  show hm_W C 0 0 _ M 0 [some (.ref (ad 0 0)), some (.int s), some (.int v), some (.int t), some (.int words), none] []
  refine hr_aload_n X (tL_at tL_mendsWords_ok 0 rfl) rfl (Or.inr ⟨_, rfl⟩) ?_
  refine hr_iload_n X (tL_at tL_mendsWords_ok 1 rfl) rfl ?_
  refine hr_iload_n X (tL_at tL_mendsWords_ok 2 rfl) rfl ?_
  refine hr_iload_n X (tL_at tL_mendsWords_ok 3 rfl) rfl ?_
  refine hr_iload X (tL_at tL_mendsWords_ok 4 rfl) rfl ?_
  refine hr_callVC X kCL_70 (tL_at tL_mendsWords_ok 5 rfl) (c_X5_mendWords cA hR hI hok s v t words) hR.c0 rfl rfl rfl rfl (Nat.le_of_ble_eq_true rfl) ⟨⟨(Nat.le_of_ble_eq_true rfl), (Nat.le_of_ble_eq_true rfl)⟩, (Nat.le_of_ble_eq_true rfl), (Nat.le_of_ble_eq_true rfl)⟩ (fun E M1 q9 hp => ?_) (fun v M1 hp => ?_)
  · obtain ⟨hE, rfl⟩ := hp
    have hQ1 : ls_Q cA N (ad 0 0) sg M := ⟨ta, ad, hR, hok, rfl⟩
    rcases hE with ⟨hth, rfl⟩ | ⟨hth, rfl⟩ | ⟨hth, rfl⟩
    · refine lh_at X hC [] (0, 9, 10, 20) [(0, 9, 15, 23), (0, 9, 20, 13)] rfl (fun _ h => absurd h List.not_mem_nil) (by decide) (by decide) kXL_20 (by decide +kernel) ?_
      show hm_W C _ _ _ _ 10 _ _
      refine hr_astore X (tL_at tL_mendsWords_ok 7 rfl) (Nat.le_of_ble_eq_true rfl) (Or.inr ⟨_, rfl⟩) ?_
      refine hr_ldc (lNI) X (tL_at tL_mendsWords_ok 8 rfl) kKL_22 ?_
      exact hr_iretX X (tL_at tL_mendsWords_ok 9 rfl) (Nat.le_of_ble_eq_true rfl) (Nat.le_of_ble_eq_true rfl) ⟨by rw [lcf_1 hth], (by rw [if_neg (by rw [hth]; decide)]; exact hQ1)⟩
    · refine lh_at X hC [(0, 9, 10, 20)] (0, 9, 15, 23) [(0, 9, 20, 13)] rfl (List.forall_mem_cons.mpr ⟨⟨by decide, _, kXL_20, by decide +kernel⟩, (fun _ h => absurd h List.not_mem_nil)⟩) (by decide) (by decide) kXL_23 (by decide +kernel) ?_
      show hm_W C _ _ _ _ 15 _ _
      refine hr_astore X (tL_at tL_mendsWords_ok 10 rfl) (Nat.le_of_ble_eq_true rfl) (Or.inr ⟨_, rfl⟩) ?_
      refine hr_ldc (lNA) X (tL_at tL_mendsWords_ok 11 rfl) kKL_25 ?_
      exact hr_iretX X (tL_at tL_mendsWords_ok 12 rfl) (Nat.le_of_ble_eq_true rfl) (Nat.le_of_ble_eq_true rfl) ⟨by rw [lcf_2 hth], (by rw [if_neg (by rw [hth]; decide)]; exact hQ1)⟩
    · refine lh_at X hC [(0, 9, 10, 20), (0, 9, 15, 23)] (0, 9, 20, 13) [] rfl (List.forall_mem_cons.mpr ⟨⟨by decide, _, kXL_20, by decide +kernel⟩, (List.forall_mem_cons.mpr ⟨⟨by decide, _, kXL_23, by decide +kernel⟩, (fun _ h => absurd h List.not_mem_nil)⟩)⟩) (by decide) (by decide) kXL_13 (by decide +kernel) ?_
      show hm_W C _ _ _ _ 20 _ _
      refine hr_astore X (tL_at tL_mendsWords_ok 13 rfl) (Nat.le_of_ble_eq_true rfl) (Or.inr ⟨_, rfl⟩) ?_
      refine hr_ldc (lNS) X (tL_at tL_mendsWords_ok 14 rfl) kKL_15 ?_
      exact hr_iretX X (tL_at tL_mendsWords_ok 15 rfl) (Nat.le_of_ble_eq_true rfl) (Nat.le_of_ble_eq_true rfl) ⟨by rw [lcf_3 hth], (by rw [if_neg (by rw [hth]; decide)]; exact hQ1)⟩
  · obtain ⟨hth, rfl, ta1, hR1, hok1⟩ := hp
    have hQ2 : ls_Q cA N (ad 0 0) (if sp_thMenW sg s v t words = 0 then sp_mend sg (nN s) (sp_menE sg (nN s) (nN v) (nN t) 2) words 0 else sg) M1 := by rw [if_pos hth]; exact ⟨ta1, ad, hR1, hok1, rfl⟩
    exact hr_iretX X (tL_at tL_mendsWords_ok 6 rfl) (Nat.le_of_ble_eq_true rfl) (Nat.le_of_ble_eq_true rfl) ⟨by rw [lcf_0 hth], hQ2⟩
abbrev r_L_opens : Room := { frames := 8, cells := 16, slots := 166, locals := 137 }
set_option maxHeartbeats 4000000 in
set_option maxRecDepth 100000 in
theorem c_L_opens (cA : Nat → ClassId) {sg : mm_S} {N M : hm_M} {b : Nat} (hI : sp_I sg) (hJ : sp_J sg) (hQ : ls_Q cA N b sg M) (p s : Int32) : hm_HMet cA yL_opens cL_opens 4 (some .int) [(0, 6, 7, 20), (0, 6, 11, 13)] r_L_opens [.ref b, .int p, .int s] M (lw_R cA N b (lcf lNI lNS lNS (sp_thOpen sg p s) (sg 10 (4 * nN s + nN p / 3))) (if sp_thOpen sg p s = 0 then sp_openS sg (nN p) (nN s) else sg)) := by
  obtain ⟨ta, ad, hR, hok, rfl⟩ := hQ
  refine hm_hmet 1 (by decide +kernel) (fun w h => by simp only [List.mem_cons, List.not_mem_nil, or_false] at h; rcases h with rfl | rfl | rfl <;> rfl) rfl (fun C X hC => ?_)
  show hm_W C 0 0 _ M 0 [some (.ref (ad 0 0)), some (.int p), some (.int s), none] []
  refine hr_aload_n X (tL_at tL_opens_ok 0 rfl) rfl (Or.inr ⟨_, rfl⟩) ?_
  refine hr_iload_n X (tL_at tL_opens_ok 1 rfl) rfl ?_
  refine hr_iload_n X (tL_at tL_opens_ok 2 rfl) rfl ?_
  refine hr_callVC X kCL_73 (tL_at tL_opens_ok 3 rfl) (c_X5_open cA hR hI hJ hok p s) hR.c0 rfl rfl rfl rfl (Nat.le_of_ble_eq_true rfl) ⟨⟨(Nat.le_of_ble_eq_true rfl), (Nat.le_of_ble_eq_true rfl)⟩, (Nat.le_of_ble_eq_true rfl), (Nat.le_of_ble_eq_true rfl)⟩ (fun E M1 q9 hp => ?_) (fun v M1 hp => ?_)
  · obtain ⟨hE, hR1⟩ := hp
    have hQ1 : ls_Q cA N (ad 0 0) sg M1 := ⟨ta, ad, hR1, hok, rfl⟩
    rcases hE with ⟨hth, rfl⟩ | ⟨hth, rfl⟩
    · refine lh_at X hC [] (0, 6, 7, 20) [(0, 6, 11, 13)] rfl (fun _ h => absurd h List.not_mem_nil) (by decide) (by decide) kXL_20 (by decide +kernel) ?_
      show hm_W C _ _ _ _ 7 _ _
      refine hr_astore_n X (tL_at tL_opens_ok 5 rfl) (Nat.le_of_ble_eq_true rfl) (Or.inr ⟨_, rfl⟩) ?_
      refine hr_ldc (lNI) X (tL_at tL_opens_ok 6 rfl) kKL_22 ?_
      exact hr_iretX X (tL_at tL_opens_ok 7 rfl) (Nat.le_of_ble_eq_true rfl) (Nat.le_of_ble_eq_true rfl) ⟨by rw [lcf_1 hth], (by rw [if_neg (by rw [hth]; decide)]; exact hQ1)⟩
    · refine lh_at X hC [(0, 6, 7, 20)] (0, 6, 11, 13) [] rfl (List.forall_mem_cons.mpr ⟨⟨by decide, _, kXL_20, by decide +kernel⟩, (fun _ h => absurd h List.not_mem_nil)⟩) (by decide) (by decide) kXL_13 (by decide +kernel) ?_
      show hm_W C _ _ _ _ 11 _ _
      refine hr_astore_n X (tL_at tL_opens_ok 8 rfl) (Nat.le_of_ble_eq_true rfl) (Or.inr ⟨_, rfl⟩) ?_
      refine hr_ldc (lNS) X (tL_at tL_opens_ok 9 rfl) kKL_15 ?_
      exact hr_iretX X (tL_at tL_opens_ok 10 rfl) (Nat.le_of_ble_eq_true rfl) (Nat.le_of_ble_eq_true rfl) ⟨by rw [lcf_2 hth], (by rw [if_neg (by rw [hth]; decide)]; exact hQ1)⟩
  · obtain ⟨hth, rfl, ta1, ad1, hR1, hok1, had⟩ := hp
    have hQ2 : ls_Q cA N (ad 0 0) (if sp_thOpen sg p s = 0 then sp_openS sg (nN p) (nN s) else sg) M1 := by rw [if_pos hth]; exact ⟨ta1, ad1, hR1, hok1, had⟩
    exact hr_iretX X (tL_at tL_opens_ok 4 rfl) (Nat.le_of_ble_eq_true rfl) (Nat.le_of_ble_eq_true rfl) ⟨by rw [lcf_0 hth], hQ2⟩
abbrev r_L_says : Room := { frames := 9, cells := 8, slots := 48, locals := 162 }
set_option maxHeartbeats 4000000 in
set_option maxRecDepth 100000 in
theorem c_L_says (cA : Nat → ClassId) {sg : mm_S} {N M : hm_M} {b : Nat} (hI : sp_I sg) (hJ : sp_J sg) (hQ : ls_Q cA N b sg M) (p s t said : Int32) : hm_HMet cA yL_says cL_says 6 (some .int) [(0, 9, 10, 20), (0, 9, 15, 23), (0, 9, 20, 13)] r_L_says [.ref b, .int p, .int s, .int t, .int said] M (lw_R cA N b (lcf lNI lNA lNS (sp_thSay sg p s t said) (sp_taken (sp_sayN sg (nN p) (nN s) (nN t) said) (sp_k p s))) (if sp_thSay sg p s t said = 0 then sp_sayN sg (nN p) (nN s) (nN t) said else sg)) := by
  obtain ⟨ta, ad, hR, hok, rfl⟩ := hQ
  refine hm_hmet 1 (by decide +kernel) (fun w h => by simp only [List.mem_cons, List.not_mem_nil, or_false] at h; rcases h with rfl | rfl | rfl | rfl | rfl <;> rfl) rfl (fun C X hC => ?_)
  show hm_W C 0 0 _ M 0 [some (.ref (ad 0 0)), some (.int p), some (.int s), some (.int t), some (.int said), none] []
  refine hr_aload_n X (tL_at tL_says_ok 0 rfl) rfl (Or.inr ⟨_, rfl⟩) ?_
  refine hr_iload_n X (tL_at tL_says_ok 1 rfl) rfl ?_
  refine hr_iload_n X (tL_at tL_says_ok 2 rfl) rfl ?_
  refine hr_iload_n X (tL_at tL_says_ok 3 rfl) rfl ?_
  refine hr_iload X (tL_at tL_says_ok 4 rfl) rfl ?_
  refine hr_callVC X kCL_76 (tL_at tL_says_ok 5 rfl) (c_X5_say cA hR hI hok p s t said) hR.c0 rfl rfl rfl rfl (Nat.le_of_ble_eq_true rfl) ⟨⟨(Nat.le_of_ble_eq_true rfl), (Nat.le_of_ble_eq_true rfl)⟩, (Nat.le_of_ble_eq_true rfl), (Nat.le_of_ble_eq_true rfl)⟩ (fun E M1 q9 hp => ?_) (fun v M1 hp => ?_)
  · obtain ⟨hE, hR1⟩ := hp
    have hQ1 : ls_Q cA N (ad 0 0) sg M1 := ⟨ta, ad, hR1, hok, rfl⟩
    rcases hE with ⟨hth, rfl⟩ | ⟨hth, rfl⟩ | ⟨hth, rfl⟩
    · refine lh_at X hC [] (0, 9, 10, 20) [(0, 9, 15, 23), (0, 9, 20, 13)] rfl (fun _ h => absurd h List.not_mem_nil) (by decide) (by decide) kXL_20 (by decide +kernel) ?_
      show hm_W C _ _ _ _ 10 _ _
      refine hr_astore X (tL_at tL_says_ok 7 rfl) (Nat.le_of_ble_eq_true rfl) (Or.inr ⟨_, rfl⟩) ?_
      refine hr_ldc (lNI) X (tL_at tL_says_ok 8 rfl) kKL_22 ?_
      exact hr_iretX X (tL_at tL_says_ok 9 rfl) (Nat.le_of_ble_eq_true rfl) (Nat.le_of_ble_eq_true rfl) ⟨by rw [lcf_1 hth], (by rw [if_neg (by rw [hth]; decide)]; exact hQ1)⟩
    · refine lh_at X hC [(0, 9, 10, 20)] (0, 9, 15, 23) [(0, 9, 20, 13)] rfl (List.forall_mem_cons.mpr ⟨⟨by decide, _, kXL_20, by decide +kernel⟩, (fun _ h => absurd h List.not_mem_nil)⟩) (by decide) (by decide) kXL_23 (by decide +kernel) ?_
      show hm_W C _ _ _ _ 15 _ _
      refine hr_astore X (tL_at tL_says_ok 10 rfl) (Nat.le_of_ble_eq_true rfl) (Or.inr ⟨_, rfl⟩) ?_
      refine hr_ldc (lNA) X (tL_at tL_says_ok 11 rfl) kKL_25 ?_
      exact hr_iretX X (tL_at tL_says_ok 12 rfl) (Nat.le_of_ble_eq_true rfl) (Nat.le_of_ble_eq_true rfl) ⟨by rw [lcf_2 hth], (by rw [if_neg (by rw [hth]; decide)]; exact hQ1)⟩
    · refine lh_at X hC [(0, 9, 10, 20), (0, 9, 15, 23)] (0, 9, 20, 13) [] rfl (List.forall_mem_cons.mpr ⟨⟨by decide, _, kXL_20, by decide +kernel⟩, (List.forall_mem_cons.mpr ⟨⟨by decide, _, kXL_23, by decide +kernel⟩, (fun _ h => absurd h List.not_mem_nil)⟩)⟩) (by decide) (by decide) kXL_13 (by decide +kernel) ?_
      show hm_W C _ _ _ _ 20 _ _
      refine hr_astore X (tL_at tL_says_ok 13 rfl) (Nat.le_of_ble_eq_true rfl) (Or.inr ⟨_, rfl⟩) ?_
      refine hr_ldc (lNS) X (tL_at tL_says_ok 14 rfl) kKL_15 ?_
      exact hr_iretX X (tL_at tL_says_ok 15 rfl) (Nat.le_of_ble_eq_true rfl) (Nat.le_of_ble_eq_true rfl) ⟨by rw [lcf_3 hth], (by rw [if_neg (by rw [hth]; decide)]; exact hQ1)⟩
  · obtain ⟨hth, rfl, ta1, hR1, hok1⟩ := hp
    have hQ2 : ls_Q cA N (ad 0 0) (if sp_thSay sg p s t said = 0 then sp_sayN sg (nN p) (nN s) (nN t) said else sg) M1 := by rw [if_pos hth]; exact ⟨ta1, ad, hR1, hok1, rfl⟩
    exact hr_iretX X (tL_at tL_says_ok 6 rfl) (Nat.le_of_ble_eq_true rfl) (Nat.le_of_ble_eq_true rfl) ⟨by rw [lcf_0 hth], hQ2⟩
abbrev r_L_hands : Room := { frames := 8, cells := 3, slots := 18, locals := 143 }
set_option maxHeartbeats 4000000 in
set_option maxRecDepth 100000 in
theorem c_L_hands (cA : Nat → ClassId) {sg : mm_S} {N M : hm_M} {b : Nat} (hI : sp_I sg) (hJ : sp_J sg) (hQ : ls_Q cA N b sg M) (p s : Int32) : hm_HMet cA yL_hands cL_hands 4 (some .int) [(0, 6, 7, 20), (0, 6, 11, 13)] r_L_hands [.ref b, .int p, .int s] M (lw_R cA N b (lcf lNI lNS lNS (sp_thHand sg p s) (sp_due sg (sp_k p s))) (if sp_thHand sg p s = 0 then sp_handS sg (sp_k p s) else sg)) := by
  obtain ⟨ta, ad, hR, hok, rfl⟩ := hQ
  refine hm_hmet 1 (by decide +kernel) (fun w h => by simp only [List.mem_cons, List.not_mem_nil, or_false] at h; rcases h with rfl | rfl | rfl <;> rfl) rfl (fun C X hC => ?_)
  show hm_W C 0 0 _ M 0 [some (.ref (ad 0 0)), some (.int p), some (.int s), none] []
  refine hr_aload_n X (tL_at tL_hands_ok 0 rfl) rfl (Or.inr ⟨_, rfl⟩) ?_
  refine hr_iload_n X (tL_at tL_hands_ok 1 rfl) rfl ?_
  refine hr_iload_n X (tL_at tL_hands_ok 2 rfl) rfl ?_
  refine hr_callVC X kCL_79 (tL_at tL_hands_ok 3 rfl) (c_X5_hand cA hR hI hok p s) hR.c0 rfl rfl rfl rfl (Nat.le_of_ble_eq_true rfl) ⟨⟨(Nat.le_of_ble_eq_true rfl), (Nat.le_of_ble_eq_true rfl)⟩, (Nat.le_of_ble_eq_true rfl), (Nat.le_of_ble_eq_true rfl)⟩ (fun E M1 q9 hp => ?_) (fun v M1 hp => ?_)
  · obtain ⟨hE, hR1⟩ := hp
    have hQ1 : ls_Q cA N (ad 0 0) sg M1 := ⟨ta, ad, hR1, hok, rfl⟩
    rcases hE with ⟨hth, rfl⟩ | ⟨hth, rfl⟩
    · refine lh_at X hC [] (0, 6, 7, 20) [(0, 6, 11, 13)] rfl (fun _ h => absurd h List.not_mem_nil) (by decide) (by decide) kXL_20 (by decide +kernel) ?_
      show hm_W C _ _ _ _ 7 _ _
      refine hr_astore_n X (tL_at tL_hands_ok 5 rfl) (Nat.le_of_ble_eq_true rfl) (Or.inr ⟨_, rfl⟩) ?_
      refine hr_ldc (lNI) X (tL_at tL_hands_ok 6 rfl) kKL_22 ?_
      exact hr_iretX X (tL_at tL_hands_ok 7 rfl) (Nat.le_of_ble_eq_true rfl) (Nat.le_of_ble_eq_true rfl) ⟨by rw [lcf_1 hth], (by rw [if_neg (by rw [hth]; decide)]; exact hQ1)⟩
    · refine lh_at X hC [(0, 6, 7, 20)] (0, 6, 11, 13) [] rfl (List.forall_mem_cons.mpr ⟨⟨by decide, _, kXL_20, by decide +kernel⟩, (fun _ h => absurd h List.not_mem_nil)⟩) (by decide) (by decide) kXL_13 (by decide +kernel) ?_
      show hm_W C _ _ _ _ 11 _ _
      refine hr_astore_n X (tL_at tL_hands_ok 8 rfl) (Nat.le_of_ble_eq_true rfl) (Or.inr ⟨_, rfl⟩) ?_
      refine hr_ldc (lNS) X (tL_at tL_hands_ok 9 rfl) kKL_15 ?_
      exact hr_iretX X (tL_at tL_hands_ok 10 rfl) (Nat.le_of_ble_eq_true rfl) (Nat.le_of_ble_eq_true rfl) ⟨by rw [lcf_2 hth], (by rw [if_neg (by rw [hth]; decide)]; exact hQ1)⟩
  · obtain ⟨hth, rfl, ta1, hR1, hok1⟩ := hp
    have hQ2 : ls_Q cA N (ad 0 0) (if sp_thHand sg p s = 0 then sp_handS sg (sp_k p s) else sg) M1 := by rw [if_pos hth]; exact ⟨ta1, ad, hR1, hok1, rfl⟩
    exact hr_iretX X (tL_at tL_hands_ok 4 rfl) (Nat.le_of_ble_eq_true rfl) (Nat.le_of_ble_eq_true rfl) ⟨by rw [lcf_0 hth], hQ2⟩
abbrev r_L_closes : Room := { frames := 8, cells := 3, slots := 18, locals := 138 }
set_option maxHeartbeats 4000000 in
set_option maxRecDepth 100000 in
theorem c_L_closes (cA : Nat → ClassId) {sg : mm_S} {N M : hm_M} {b : Nat} (hI : sp_I sg) (hJ : sp_J sg) (hQ : ls_Q cA N b sg M) (g s : Int32) : hm_HMet cA yL_closes cL_closes 4 (some .int) [(0, 6, 7, 20), (0, 6, 11, 13)] r_L_closes [.ref b, .int g, .int s] M (lw_R cA N b (lcf lNI lNS lNS (sp_thClose sg g s) (sp_clN (mm_up sg 11 (4 * nN s + nN g) 1) (12 * nN s + 3 * nN g) 3)) (if sp_thClose sg g s = 0 then sp_clS (mm_up sg 11 (4 * nN s + nN g) 1) (12 * nN s + 3 * nN g) 3 else sg)) := by
  obtain ⟨ta, ad, hR, hok, rfl⟩ := hQ
  refine hm_hmet 1 (by decide +kernel) (fun w h => by simp only [List.mem_cons, List.not_mem_nil, or_false] at h; rcases h with rfl | rfl | rfl <;> rfl) rfl (fun C X hC => ?_)
  show hm_W C 0 0 _ M 0 [some (.ref (ad 0 0)), some (.int g), some (.int s), none] []
  refine hr_aload_n X (tL_at tL_closes_ok 0 rfl) rfl (Or.inr ⟨_, rfl⟩) ?_
  refine hr_iload_n X (tL_at tL_closes_ok 1 rfl) rfl ?_
  refine hr_iload_n X (tL_at tL_closes_ok 2 rfl) rfl ?_
  refine hr_callVC X kCL_82 (tL_at tL_closes_ok 3 rfl) (c_X5_close cA hR hI hok g s) hR.c0 rfl rfl rfl rfl (Nat.le_of_ble_eq_true rfl) ⟨⟨(Nat.le_of_ble_eq_true rfl), (Nat.le_of_ble_eq_true rfl)⟩, (Nat.le_of_ble_eq_true rfl), (Nat.le_of_ble_eq_true rfl)⟩ (fun E M1 q9 hp => ?_) (fun v M1 hp => ?_)
  · obtain ⟨hE, hR1⟩ := hp
    have hQ1 : ls_Q cA N (ad 0 0) sg M1 := ⟨ta, ad, hR1, hok, rfl⟩
    rcases hE with ⟨hth, rfl⟩ | ⟨hth, rfl⟩
    · refine lh_at X hC [] (0, 6, 7, 20) [(0, 6, 11, 13)] rfl (fun _ h => absurd h List.not_mem_nil) (by decide) (by decide) kXL_20 (by decide +kernel) ?_
      show hm_W C _ _ _ _ 7 _ _
      refine hr_astore_n X (tL_at tL_closes_ok 5 rfl) (Nat.le_of_ble_eq_true rfl) (Or.inr ⟨_, rfl⟩) ?_
      refine hr_ldc (lNI) X (tL_at tL_closes_ok 6 rfl) kKL_22 ?_
      exact hr_iretX X (tL_at tL_closes_ok 7 rfl) (Nat.le_of_ble_eq_true rfl) (Nat.le_of_ble_eq_true rfl) ⟨by rw [lcf_1 hth], (by rw [if_neg (by rw [hth]; decide)]; exact hQ1)⟩
    · refine lh_at X hC [(0, 6, 7, 20)] (0, 6, 11, 13) [] rfl (List.forall_mem_cons.mpr ⟨⟨by decide, _, kXL_20, by decide +kernel⟩, (fun _ h => absurd h List.not_mem_nil)⟩) (by decide) (by decide) kXL_13 (by decide +kernel) ?_
      show hm_W C _ _ _ _ 11 _ _
      refine hr_astore_n X (tL_at tL_closes_ok 8 rfl) (Nat.le_of_ble_eq_true rfl) (Or.inr ⟨_, rfl⟩) ?_
      refine hr_ldc (lNS) X (tL_at tL_closes_ok 9 rfl) kKL_15 ?_
      exact hr_iretX X (tL_at tL_closes_ok 10 rfl) (Nat.le_of_ble_eq_true rfl) (Nat.le_of_ble_eq_true rfl) ⟨by rw [lcf_2 hth], (by rw [if_neg (by rw [hth]; decide)]; exact hQ1)⟩
  · obtain ⟨hth, rfl, ta1, hR1, hok1⟩ := hp
    have hQ2 : ls_Q cA N (ad 0 0) (if sp_thClose sg g s = 0 then sp_clS (mm_up sg 11 (4 * nN s + nN g) 1) (12 * nN s + 3 * nN g) 3 else sg) M1 := by rw [if_pos hth]; exact ⟨ta1, ad, hR1, hok1, rfl⟩
    exact hr_iretX X (tL_at tL_closes_ok 4 rfl) (Nat.le_of_ble_eq_true rfl) (Nat.le_of_ble_eq_true rfl) ⟨by rw [lcf_0 hth], hQ2⟩
abbrev r_L_answer : Room := { frames := 9, cells := 2, slots := 12, locals := 157 }
set_option maxHeartbeats 4000000 in
set_option maxRecDepth 100000 in
theorem c_L_answer (cA : Nat → ClassId) {sg : mm_S} {N M : hm_M} {b : Nat} (hI : sp_I sg) (hJ : sp_J sg) (hQ : ls_Q cA N b sg M) (p s : Int32) : hm_HMet cA yL_answer cL_answer 4 (some .int) [(0, 6, 7, 20)] r_L_answer [.ref b, .int p, .int s] M (lw_R cA N b (lcf lNI lNI lNI (sp_w (sp_both sg p s)) (sg 13 (sp_k p s))) sg) := by
  obtain ⟨ta, ad, hR, hok, rfl⟩ := hQ
  refine hm_hmet 1 (by decide +kernel) (fun w h => by simp only [List.mem_cons, List.not_mem_nil, or_false] at h; rcases h with rfl | rfl | rfl <;> rfl) rfl (fun C X hC => ?_)
  show hm_W C 0 0 _ M 0 [some (.ref (ad 0 0)), some (.int p), some (.int s), none] []
  refine hr_aload_n X (tL_at tL_answer_ok 0 rfl) rfl (Or.inr ⟨_, rfl⟩) ?_
  refine hr_iload_n X (tL_at tL_answer_ok 1 rfl) rfl ?_
  refine hr_iload_n X (tL_at tL_answer_ok 2 rfl) rfl ?_
  refine hr_callVC X kCL_85 (tL_at tL_answer_ok 3 rfl) (c_X5_answer cA hR hI p s) hR.c0 rfl rfl rfl rfl (Nat.le_of_ble_eq_true rfl) ⟨⟨(Nat.le_of_ble_eq_true rfl), (Nat.le_of_ble_eq_true rfl)⟩, (Nat.le_of_ble_eq_true rfl), (Nat.le_of_ble_eq_true rfl)⟩ (fun E M1 q9 hp => ?_) (fun v M1 hp => ?_)
  · obtain ⟨hc, rfl, rfl⟩ := hp
    have hth : sp_w (sp_both sg p s) = 1 := by show sp_w (sp_in p 0 11 && sp_isS sg s) = 1; rw [hc]; rfl
    have hQ1 : ls_Q cA N (ad 0 0) sg M := ⟨ta, ad, hR, hok, rfl⟩
    refine lh_at X hC [] (0, 6, 7, 20) [] rfl (fun _ h => absurd h List.not_mem_nil) (by decide) (by decide) kXL_20 (by decide +kernel) ?_
    show hm_W C _ _ _ _ 7 _ _
    refine hr_astore_n X (tL_at tL_answer_ok 5 rfl) (Nat.le_of_ble_eq_true rfl) (Or.inr ⟨_, rfl⟩) ?_
    refine hr_ldc (lNI) X (tL_at tL_answer_ok 6 rfl) kKL_22 ?_
    exact hr_iretX X (tL_at tL_answer_ok 7 rfl) (Nat.le_of_ble_eq_true rfl) (Nat.le_of_ble_eq_true rfl) ⟨by rw [lcf_1 hth], hQ1⟩
  · obtain ⟨hc, rfl, rfl⟩ := hp
    have hth : sp_w (sp_both sg p s) = 0 := sp_w_0.mpr hc
    have hQ2 : ls_Q cA N (ad 0 0) sg M := ⟨ta, ad, hR, hok, rfl⟩
    rw [lb_answer hI hc]
    exact hr_iretX X (tL_at tL_answer_ok 4 rfl) (Nat.le_of_ble_eq_true rfl) (Nat.le_of_ble_eq_true rfl) ⟨by rw [lcf_0 hth], hQ2⟩
abbrev r_L_mark : Room := { frames := 9, cells := 2, slots := 12, locals := 157 }
set_option maxHeartbeats 4000000 in
set_option maxRecDepth 100000 in
theorem c_L_mark (cA : Nat → ClassId) {sg : mm_S} {N M : hm_M} {b : Nat} (hI : sp_I sg) (hJ : sp_J sg) (hQ : ls_Q cA N b sg M) (p s : Int32) : hm_HMet cA yL_mark cL_mark 4 (some .int) [(0, 6, 7, 20)] r_L_mark [.ref b, .int p, .int s] M (lw_R cA N b (lcf lNI lNI lNI (sp_w (sp_both sg p s)) (sp_rMark sg (sp_k p s))) sg) := by
  obtain ⟨ta, ad, hR, hok, rfl⟩ := hQ
  refine hm_hmet 1 (by decide +kernel) (fun w h => by simp only [List.mem_cons, List.not_mem_nil, or_false] at h; rcases h with rfl | rfl | rfl <;> rfl) rfl (fun C X hC => ?_)
  show hm_W C 0 0 _ M 0 [some (.ref (ad 0 0)), some (.int p), some (.int s), none] []
  refine hr_aload_n X (tL_at tL_mark_ok 0 rfl) rfl (Or.inr ⟨_, rfl⟩) ?_
  refine hr_iload_n X (tL_at tL_mark_ok 1 rfl) rfl ?_
  refine hr_iload_n X (tL_at tL_mark_ok 2 rfl) rfl ?_
  refine hr_callVC X kCL_88 (tL_at tL_mark_ok 3 rfl) (c_X5_mark cA hR hI p s) hR.c0 rfl rfl rfl rfl (Nat.le_of_ble_eq_true rfl) ⟨⟨(Nat.le_of_ble_eq_true rfl), (Nat.le_of_ble_eq_true rfl)⟩, (Nat.le_of_ble_eq_true rfl), (Nat.le_of_ble_eq_true rfl)⟩ (fun E M1 q9 hp => ?_) (fun v M1 hp => ?_)
  · obtain ⟨hc, rfl, rfl⟩ := hp
    have hth : sp_w (sp_both sg p s) = 1 := by show sp_w (sp_in p 0 11 && sp_isS sg s) = 1; rw [hc]; rfl
    have hQ1 : ls_Q cA N (ad 0 0) sg M := ⟨ta, ad, hR, hok, rfl⟩
    refine lh_at X hC [] (0, 6, 7, 20) [] rfl (fun _ h => absurd h List.not_mem_nil) (by decide) (by decide) kXL_20 (by decide +kernel) ?_
    show hm_W C _ _ _ _ 7 _ _
    refine hr_astore_n X (tL_at tL_mark_ok 5 rfl) (Nat.le_of_ble_eq_true rfl) (Or.inr ⟨_, rfl⟩) ?_
    refine hr_ldc (lNI) X (tL_at tL_mark_ok 6 rfl) kKL_22 ?_
    exact hr_iretX X (tL_at tL_mark_ok 7 rfl) (Nat.le_of_ble_eq_true rfl) (Nat.le_of_ble_eq_true rfl) ⟨by rw [lcf_1 hth], hQ1⟩
  · obtain ⟨hc, rfl, rfl⟩ := hp
    have hth : sp_w (sp_both sg p s) = 0 := sp_w_0.mpr hc
    have hQ2 : ls_Q cA N (ad 0 0) sg M := ⟨ta, ad, hR, hok, rfl⟩
    rw [lb_mark]
    exact hr_iretX X (tL_at tL_mark_ok 4 rfl) (Nat.le_of_ble_eq_true rfl) (Nat.le_of_ble_eq_true rfl) ⟨by rw [lcf_0 hth], hQ2⟩
abbrev r_L_due : Room := { frames := 9, cells := 2, slots := 12, locals := 157 }
set_option maxHeartbeats 4000000 in
set_option maxRecDepth 100000 in
theorem c_L_due (cA : Nat → ClassId) {sg : mm_S} {N M : hm_M} {b : Nat} (hI : sp_I sg) (hJ : sp_J sg) (hQ : ls_Q cA N b sg M) (p s : Int32) : hm_HMet cA yL_due cL_due 4 (some .int) [(0, 6, 7, 20)] r_L_due [.ref b, .int p, .int s] M (lw_R cA N b (lcf lNI lNI lNI (sp_w (sp_both sg p s)) (sp_rDue sg (sp_k p s))) sg) := by
  obtain ⟨ta, ad, hR, hok, rfl⟩ := hQ
  refine hm_hmet 1 (by decide +kernel) (fun w h => by simp only [List.mem_cons, List.not_mem_nil, or_false] at h; rcases h with rfl | rfl | rfl <;> rfl) rfl (fun C X hC => ?_)
  show hm_W C 0 0 _ M 0 [some (.ref (ad 0 0)), some (.int p), some (.int s), none] []
  refine hr_aload_n X (tL_at tL_due_ok 0 rfl) rfl (Or.inr ⟨_, rfl⟩) ?_
  refine hr_iload_n X (tL_at tL_due_ok 1 rfl) rfl ?_
  refine hr_iload_n X (tL_at tL_due_ok 2 rfl) rfl ?_
  refine hr_callVC X kCL_91 (tL_at tL_due_ok 3 rfl) (c_X5_due cA hR hI hok.o2 p s) hR.c0 rfl rfl rfl rfl (Nat.le_of_ble_eq_true rfl) ⟨⟨(Nat.le_of_ble_eq_true rfl), (Nat.le_of_ble_eq_true rfl)⟩, (Nat.le_of_ble_eq_true rfl), (Nat.le_of_ble_eq_true rfl)⟩ (fun E M1 q9 hp => ?_) (fun v M1 hp => ?_)
  · obtain ⟨hc, rfl, rfl⟩ := hp
    have hth : sp_w (sp_both sg p s) = 1 := by show sp_w (sp_in p 0 11 && sp_isS sg s) = 1; rw [hc]; rfl
    have hQ1 : ls_Q cA N (ad 0 0) sg M := ⟨ta, ad, hR, hok, rfl⟩
    refine lh_at X hC [] (0, 6, 7, 20) [] rfl (fun _ h => absurd h List.not_mem_nil) (by decide) (by decide) kXL_20 (by decide +kernel) ?_
    show hm_W C _ _ _ _ 7 _ _
    refine hr_astore_n X (tL_at tL_due_ok 5 rfl) (Nat.le_of_ble_eq_true rfl) (Or.inr ⟨_, rfl⟩) ?_
    refine hr_ldc (lNI) X (tL_at tL_due_ok 6 rfl) kKL_22 ?_
    exact hr_iretX X (tL_at tL_due_ok 7 rfl) (Nat.le_of_ble_eq_true rfl) (Nat.le_of_ble_eq_true rfl) ⟨by rw [lcf_1 hth], hQ1⟩
  · obtain ⟨hc, rfl, ta1, hR1, ht1⟩ := hp
    have hth : sp_w (sp_both sg p s) = 0 := sp_w_0.mpr hc
    have hQ2 : ls_Q cA N (ad 0 0) sg M1 := ⟨ta1, ad, hR1, hok.congr (fun j h5 _ _ => ht1 j h5), rfl⟩
    exact hr_iretX X (tL_at tL_due_ok 4 rfl) (Nat.le_of_ble_eq_true rfl) (Nat.le_of_ble_eq_true rfl) ⟨by rw [lcf_0 hth], hQ2⟩
abbrev r_L_told : Room := { frames := 9, cells := 2, slots := 12, locals := 157 }
set_option maxHeartbeats 4000000 in
set_option maxRecDepth 100000 in
theorem c_L_told (cA : Nat → ClassId) {sg : mm_S} {N M : hm_M} {b : Nat} (hI : sp_I sg) (hJ : sp_J sg) (hQ : ls_Q cA N b sg M) (p s : Int32) : hm_HMet cA yL_told cL_told 4 (some .int) [(0, 6, 7, 20)] r_L_told [.ref b, .int p, .int s] M (lw_R cA N b (lcf lNI lNI lNI (sp_w (sp_both sg p s)) (sg 16 (sp_k p s))) sg) := by
  obtain ⟨ta, ad, hR, hok, rfl⟩ := hQ
  refine hm_hmet 1 (by decide +kernel) (fun w h => by simp only [List.mem_cons, List.not_mem_nil, or_false] at h; rcases h with rfl | rfl | rfl <;> rfl) rfl (fun C X hC => ?_)
  show hm_W C 0 0 _ M 0 [some (.ref (ad 0 0)), some (.int p), some (.int s), none] []
  refine hr_aload_n X (tL_at tL_told_ok 0 rfl) rfl (Or.inr ⟨_, rfl⟩) ?_
  refine hr_iload_n X (tL_at tL_told_ok 1 rfl) rfl ?_
  refine hr_iload_n X (tL_at tL_told_ok 2 rfl) rfl ?_
  refine hr_callVC X kCL_94 (tL_at tL_told_ok 3 rfl) (c_X5_told cA hR hI p s) hR.c0 rfl rfl rfl rfl (Nat.le_of_ble_eq_true rfl) ⟨⟨(Nat.le_of_ble_eq_true rfl), (Nat.le_of_ble_eq_true rfl)⟩, (Nat.le_of_ble_eq_true rfl), (Nat.le_of_ble_eq_true rfl)⟩ (fun E M1 q9 hp => ?_) (fun v M1 hp => ?_)
  · obtain ⟨hc, rfl, rfl⟩ := hp
    have hth : sp_w (sp_both sg p s) = 1 := by show sp_w (sp_in p 0 11 && sp_isS sg s) = 1; rw [hc]; rfl
    have hQ1 : ls_Q cA N (ad 0 0) sg M := ⟨ta, ad, hR, hok, rfl⟩
    refine lh_at X hC [] (0, 6, 7, 20) [] rfl (fun _ h => absurd h List.not_mem_nil) (by decide) (by decide) kXL_20 (by decide +kernel) ?_
    show hm_W C _ _ _ _ 7 _ _
    refine hr_astore_n X (tL_at tL_told_ok 5 rfl) (Nat.le_of_ble_eq_true rfl) (Or.inr ⟨_, rfl⟩) ?_
    refine hr_ldc (lNI) X (tL_at tL_told_ok 6 rfl) kKL_22 ?_
    exact hr_iretX X (tL_at tL_told_ok 7 rfl) (Nat.le_of_ble_eq_true rfl) (Nat.le_of_ble_eq_true rfl) ⟨by rw [lcf_1 hth], hQ1⟩
  · obtain ⟨hc, rfl, rfl⟩ := hp
    have hth : sp_w (sp_both sg p s) = 0 := sp_w_0.mpr hc
    have hQ2 : ls_Q cA N (ad 0 0) sg M := ⟨ta, ad, hR, hok, rfl⟩
    rw [lb_told hI hJ hc]
    exact hr_iretX X (tL_at tL_told_ok 4 rfl) (Nat.le_of_ble_eq_true rfl) (Nat.le_of_ble_eq_true rfl) ⟨by rw [lcf_0 hth], hQ2⟩
abbrev r_L_average : Room := { frames := 8, cells := 2, slots := 12, locals := 139 }
set_option maxHeartbeats 4000000 in
set_option maxRecDepth 100000 in
theorem c_L_average (cA : Nat → ClassId) {sg : mm_S} {N M : hm_M} {b : Nat} (hI : sp_I sg) (hJ : sp_J sg) (hQ : ls_Q cA N b sg M) (g s : Int32) : hm_HMet cA yL_average cL_average 4 (some .int) [(0, 6, 7, 20)] r_L_average [.ref b, .int g, .int s] M (lw_R cA N b (lcf lNI lNI lNI (sp_w (sp_cs sg g s)) (sp_avg sg (12 * nN s + 3 * nN g))) sg) := by
  obtain ⟨ta, ad, hR, hok, rfl⟩ := hQ
  refine hm_hmet 1 (by decide +kernel) (fun w h => by simp only [List.mem_cons, List.not_mem_nil, or_false] at h; rcases h with rfl | rfl | rfl <;> rfl) rfl (fun C X hC => ?_)
  show hm_W C 0 0 _ M 0 [some (.ref (ad 0 0)), some (.int g), some (.int s), none] []
  refine hr_aload_n X (tL_at tL_average_ok 0 rfl) rfl (Or.inr ⟨_, rfl⟩) ?_
  refine hr_iload_n X (tL_at tL_average_ok 1 rfl) rfl ?_
  refine hr_iload_n X (tL_at tL_average_ok 2 rfl) rfl ?_
  refine hr_callVC X kCL_97 (tL_at tL_average_ok 3 rfl) (c_X5_average cA hR hI g s) hR.c0 rfl rfl rfl rfl (Nat.le_of_ble_eq_true rfl) ⟨⟨(Nat.le_of_ble_eq_true rfl), (Nat.le_of_ble_eq_true rfl)⟩, (Nat.le_of_ble_eq_true rfl), (Nat.le_of_ble_eq_true rfl)⟩ (fun E M1 q9 hp => ?_) (fun v M1 hp => ?_)
  · obtain ⟨hc, rfl, rfl⟩ := hp
    have hth : sp_w (sp_cs sg g s) = 1 := by rw [hc]; rfl
    have hQ1 : ls_Q cA N (ad 0 0) sg M := ⟨ta, ad, hR, hok, rfl⟩
    refine lh_at X hC [] (0, 6, 7, 20) [] rfl (fun _ h => absurd h List.not_mem_nil) (by decide) (by decide) kXL_20 (by decide +kernel) ?_
    show hm_W C _ _ _ _ 7 _ _
    refine hr_astore_n X (tL_at tL_average_ok 5 rfl) (Nat.le_of_ble_eq_true rfl) (Or.inr ⟨_, rfl⟩) ?_
    refine hr_ldc (lNI) X (tL_at tL_average_ok 6 rfl) kKL_22 ?_
    exact hr_iretX X (tL_at tL_average_ok 7 rfl) (Nat.le_of_ble_eq_true rfl) (Nat.le_of_ble_eq_true rfl) ⟨by rw [lcf_1 hth], hQ1⟩
  · obtain ⟨hc, rfl, rfl⟩ := hp
    have hth : sp_w (sp_cs sg g s) = 0 := sp_w_0.mpr hc
    have hQ2 : ls_Q cA N (ad 0 0) sg M := ⟨ta, ad, hR, hok, rfl⟩
    exact hr_iretX X (tL_at tL_average_ok 4 rfl) (Nat.le_of_ble_eq_true rfl) (Nat.le_of_ble_eq_true rfl) ⟨by rw [lcf_0 hth], hQ2⟩
abbrev r_L_prints : Room := { frames := 9, cells := 2, slots := 12, locals := 157 }
set_option maxHeartbeats 4000000 in
set_option maxRecDepth 100000 in
theorem c_L_prints (cA : Nat → ClassId) {sg : mm_S} {N M : hm_M} {b : Nat} (hI : sp_I sg) (hJ : sp_J sg) (hQ : ls_Q cA N b sg M) (p s : Int32) : hm_HMet cA yL_prints cL_prints 4 (some .int) [(0, 6, 7, 20)] r_L_prints [.ref b, .int p, .int s] M (lw_R cA N b (lcf lNI lNI lNI (sp_w (sp_both sg p s)) (nI (sp_prs sg (sp_k p s)).length)) sg) := by
  obtain ⟨ta, ad, hR, hok, rfl⟩ := hQ
  refine hm_hmet 1 (by decide +kernel) (fun w h => by simp only [List.mem_cons, List.not_mem_nil, or_false] at h; rcases h with rfl | rfl | rfl <;> rfl) rfl (fun C X hC => ?_)
  show hm_W C 0 0 _ M 0 [some (.ref (ad 0 0)), some (.int p), some (.int s), none] []
  refine hr_aload_n X (tL_at tL_prints_ok 0 rfl) rfl (Or.inr ⟨_, rfl⟩) ?_
  refine hr_iload_n X (tL_at tL_prints_ok 1 rfl) rfl ?_
  refine hr_iload_n X (tL_at tL_prints_ok 2 rfl) rfl ?_
  refine hr_callVC X kCL_100 (tL_at tL_prints_ok 3 rfl) (c_X5_fingerprints cA hR hI p s) hR.c0 rfl rfl rfl rfl (Nat.le_of_ble_eq_true rfl) ⟨⟨(Nat.le_of_ble_eq_true rfl), (Nat.le_of_ble_eq_true rfl)⟩, (Nat.le_of_ble_eq_true rfl), (Nat.le_of_ble_eq_true rfl)⟩ (fun E M1 q9 hp => ?_) (fun v M1 hp => ?_)
  · obtain ⟨hc, rfl, rfl⟩ := hp
    have hth : sp_w (sp_both sg p s) = 1 := by show sp_w (sp_in p 0 11 && sp_isS sg s) = 1; rw [hc]; rfl
    have hQ1 : ls_Q cA N (ad 0 0) sg M := ⟨ta, ad, hR, hok, rfl⟩
    refine lh_at X hC [] (0, 6, 7, 20) [] rfl (fun _ h => absurd h List.not_mem_nil) (by decide) (by decide) kXL_20 (by decide +kernel) ?_
    show hm_W C _ _ _ _ 7 _ _
    refine hr_astore_n X (tL_at tL_prints_ok 5 rfl) (Nat.le_of_ble_eq_true rfl) (Or.inr ⟨_, rfl⟩) ?_
    refine hr_ldc (lNI) X (tL_at tL_prints_ok 6 rfl) kKL_22 ?_
    exact hr_iretX X (tL_at tL_prints_ok 7 rfl) (Nat.le_of_ble_eq_true rfl) (Nat.le_of_ble_eq_true rfl) ⟨by rw [lcf_1 hth], hQ1⟩
  · obtain ⟨hc, rfl, rfl⟩ := hp
    have hth : sp_w (sp_both sg p s) = 0 := sp_w_0.mpr hc
    have hQ2 : ls_Q cA N (ad 0 0) sg M := ⟨ta, ad, hR, hok, rfl⟩
    rw [lb_fing hI hok hc]
    exact hr_iretX X (tL_at tL_prints_ok 4 rfl) (Nat.le_of_ble_eq_true rfl) (Nat.le_of_ble_eq_true rfl) ⟨by rw [lcf_0 hth], hQ2⟩
abbrev r_L_with : Room := { frames := 8, cells := 1, slots := 6, locals := 138 }
set_option maxHeartbeats 4000000 in
set_option maxRecDepth 100000 in
theorem c_L_with (cA : Nat → ClassId) {sg : mm_S} {N M : hm_M} {b : Nat} (hI : sp_I sg) (hJ : sp_J sg) (hQ : ls_Q cA N b sg M) (s pr : Int32) : hm_HMet cA yL_with cL_with 4 (some .int) [(0, 6, 7, 20)] r_L_with [.ref b, .int s, .int pr] M (lw_R cA N b (lcf lNI lNI lNI (sp_w (sp_isS sg s)) (sp_wp sg (nN s) pr 12)) sg) := by
  obtain ⟨ta, ad, hR, hok, rfl⟩ := hQ
  refine hm_hmet 1 (by decide +kernel) (fun w h => by simp only [List.mem_cons, List.not_mem_nil, or_false] at h; rcases h with rfl | rfl | rfl <;> rfl) rfl (fun C X hC => ?_)
  show hm_W C 0 0 _ M 0 [some (.ref (ad 0 0)), some (.int s), some (.int pr), none] []
  refine hr_aload_n X (tL_at tL_with_ok 0 rfl) rfl (Or.inr ⟨_, rfl⟩) ?_
  refine hr_iload_n X (tL_at tL_with_ok 1 rfl) rfl ?_
  refine hr_iload_n X (tL_at tL_with_ok 2 rfl) rfl ?_
  refine hr_callVC X kCL_103 (tL_at tL_with_ok 3 rfl) (c_X5_withPrint cA hR hI hok s pr) hR.c0 rfl rfl rfl rfl (Nat.le_of_ble_eq_true rfl) ⟨⟨(Nat.le_of_ble_eq_true rfl), (Nat.le_of_ble_eq_true rfl)⟩, (Nat.le_of_ble_eq_true rfl), (Nat.le_of_ble_eq_true rfl)⟩ (fun E M1 q9 hp => ?_) (fun v M1 hp => ?_)
  · obtain ⟨hc, rfl, rfl⟩ := hp
    have hth : sp_w (sp_isS sg s) = 1 := by rw [hc]; rfl
    have hQ1 : ls_Q cA N (ad 0 0) sg M := ⟨ta, ad, hR, hok, rfl⟩
    refine lh_at X hC [] (0, 6, 7, 20) [] rfl (fun _ h => absurd h List.not_mem_nil) (by decide) (by decide) kXL_20 (by decide +kernel) ?_
    show hm_W C _ _ _ _ 7 _ _
    refine hr_astore_n X (tL_at tL_with_ok 5 rfl) (Nat.le_of_ble_eq_true rfl) (Or.inr ⟨_, rfl⟩) ?_
    refine hr_ldc (lNI) X (tL_at tL_with_ok 6 rfl) kKL_22 ?_
    exact hr_iretX X (tL_at tL_with_ok 7 rfl) (Nat.le_of_ble_eq_true rfl) (Nat.le_of_ble_eq_true rfl) ⟨by rw [lcf_1 hth], hQ1⟩
  · obtain ⟨hc, rfl, rfl⟩ := hp
    have hth : sp_w (sp_isS sg s) = 0 := sp_w_0.mpr hc
    have hQ2 : ls_Q cA N (ad 0 0) sg M := ⟨ta, ad, hR, hok, rfl⟩
    exact hr_iretX X (tL_at tL_with_ok 4 rfl) (Nat.le_of_ble_eq_true rfl) (Nat.le_of_ble_eq_true rfl) ⟨by rw [lcf_0 hth], hQ2⟩
abbrev r_L_likeness : Room := { frames := 8, cells := 3, slots := 18, locals := 138 }
set_option maxHeartbeats 4000000 in
set_option maxRecDepth 100000 in
theorem c_L_likeness (cA : Nat → ClassId) {sg : mm_S} {N M : hm_M} {b : Nat} (hI : sp_I sg) (hJ : sp_J sg) (hQ : ls_Q cA N b sg M) (s p q : Int32) : hm_HMet cA yL_likeness cL_likeness 5 (some .int) [(0, 7, 8, 20)] r_L_likeness [.ref b, .int s, .int p, .int q] M (lw_R cA N b (lcf lNI lNI lNI (sp_w (sp_isS sg s && sp_in p 0 11 && sp_in q 0 11)) (sp_like sg s p q)) sg) := by
  obtain ⟨ta, ad, hR, hok, rfl⟩ := hQ
  refine hm_hmet 1 (by decide +kernel) (fun w h => by simp only [List.mem_cons, List.not_mem_nil, or_false] at h; rcases h with rfl | rfl | rfl | rfl <;> rfl) rfl (fun C X hC => ?_)
  show hm_W C 0 0 _ M 0 [some (.ref (ad 0 0)), some (.int s), some (.int p), some (.int q), none] []
  refine hr_aload_n X (tL_at tL_likeness_ok 0 rfl) rfl (Or.inr ⟨_, rfl⟩) ?_
  refine hr_iload_n X (tL_at tL_likeness_ok 1 rfl) rfl ?_
  refine hr_iload_n X (tL_at tL_likeness_ok 2 rfl) rfl ?_
  refine hr_iload_n X (tL_at tL_likeness_ok 3 rfl) rfl ?_
  refine hr_callVC X kCL_106 (tL_at tL_likeness_ok 4 rfl) (c_X5_likeness cA hR hI hok s p q) hR.c0 rfl rfl rfl rfl (Nat.le_of_ble_eq_true rfl) ⟨⟨(Nat.le_of_ble_eq_true rfl), (Nat.le_of_ble_eq_true rfl)⟩, (Nat.le_of_ble_eq_true rfl), (Nat.le_of_ble_eq_true rfl)⟩ (fun E M1 q9 hp => ?_) (fun v M1 hp => ?_)
  · obtain ⟨hc, rfl, rfl⟩ := hp
    have hth : sp_w (sp_isS sg s && sp_in p 0 11 && sp_in q 0 11) = 1 := by rw [hc]; rfl
    have hQ1 : ls_Q cA N (ad 0 0) sg M := ⟨ta, ad, hR, hok, rfl⟩
    refine lh_at X hC [] (0, 7, 8, 20) [] rfl (fun _ h => absurd h List.not_mem_nil) (by decide) (by decide) kXL_20 (by decide +kernel) ?_
    show hm_W C _ _ _ _ 8 _ _
    refine hr_astore X (tL_at tL_likeness_ok 6 rfl) (Nat.le_of_ble_eq_true rfl) (Or.inr ⟨_, rfl⟩) ?_
    refine hr_ldc (lNI) X (tL_at tL_likeness_ok 7 rfl) kKL_22 ?_
    exact hr_iretX X (tL_at tL_likeness_ok 8 rfl) (Nat.le_of_ble_eq_true rfl) (Nat.le_of_ble_eq_true rfl) ⟨by rw [lcf_1 hth], hQ1⟩
  · obtain ⟨hc, rfl, rfl⟩ := hp
    have hth : sp_w (sp_isS sg s && sp_in p 0 11 && sp_in q 0 11) = 0 := sp_w_0.mpr hc
    have hQ2 : ls_Q cA N (ad 0 0) sg M := ⟨ta, ad, hR, hok, rfl⟩
    exact hr_iretX X (tL_at tL_likeness_ok 5 rfl) (Nat.le_of_ble_eq_true rfl) (Nat.le_of_ble_eq_true rfl) ⟨by rw [lcf_0 hth], hQ2⟩
abbrev r_L_pairs : Room := { frames := 8, cells := 1, slots := 6, locals := 137 }
set_option maxHeartbeats 4000000 in
set_option maxRecDepth 100000 in
theorem c_L_pairs (cA : Nat → ClassId) {sg : mm_S} {N M : hm_M} {b : Nat} (hI : sp_I sg) (hJ : sp_J sg) (hQ : ls_Q cA N b sg M) (s : Int32) : hm_HMet cA yL_pairs cL_pairs 3 (some .int) [(0, 5, 6, 20)] r_L_pairs [.ref b, .int s] M (lw_R cA N b (lcf lNI lNI lNI (sp_w (sp_isS sg s)) (sp_prN sg (nN s) 144)) sg) := by
  obtain ⟨ta, ad, hR, hok, rfl⟩ := hQ
  refine hm_hmet 1 (by decide +kernel) (fun w h => by simp only [List.mem_cons, List.not_mem_nil, or_false] at h; rcases h with rfl | rfl <;> rfl) rfl (fun C X hC => ?_)
  show hm_W C 0 0 _ M 0 [some (.ref (ad 0 0)), some (.int s), none] []
  refine hr_aload_n X (tL_at tL_pairs_ok 0 rfl) rfl (Or.inr ⟨_, rfl⟩) ?_
  refine hr_iload_n X (tL_at tL_pairs_ok 1 rfl) rfl ?_
  refine hr_callVC X kCL_109 (tL_at tL_pairs_ok 2 rfl) (c_X5_pairs cA hR hI hok s) hR.c0 rfl rfl rfl rfl (Nat.le_of_ble_eq_true rfl) ⟨⟨(Nat.le_of_ble_eq_true rfl), (Nat.le_of_ble_eq_true rfl)⟩, (Nat.le_of_ble_eq_true rfl), (Nat.le_of_ble_eq_true rfl)⟩ (fun E M1 q9 hp => ?_) (fun v M1 hp => ?_)
  · obtain ⟨hc, rfl, rfl⟩ := hp
    have hth : sp_w (sp_isS sg s) = 1 := by rw [hc]; rfl
    have hQ1 : ls_Q cA N (ad 0 0) sg M := ⟨ta, ad, hR, hok, rfl⟩
    refine lh_at X hC [] (0, 5, 6, 20) [] rfl (fun _ h => absurd h List.not_mem_nil) (by decide) (by decide) kXL_20 (by decide +kernel) ?_
    show hm_W C _ _ _ _ 6 _ _
    refine hr_astore_n X (tL_at tL_pairs_ok 4 rfl) (Nat.le_of_ble_eq_true rfl) (Or.inr ⟨_, rfl⟩) ?_
    refine hr_ldc (lNI) X (tL_at tL_pairs_ok 5 rfl) kKL_22 ?_
    exact hr_iretX X (tL_at tL_pairs_ok 6 rfl) (Nat.le_of_ble_eq_true rfl) (Nat.le_of_ble_eq_true rfl) ⟨by rw [lcf_1 hth], hQ1⟩
  · obtain ⟨hc, rfl, rfl⟩ := hp
    have hth : sp_w (sp_isS sg s) = 0 := sp_w_0.mpr hc
    have hQ2 : ls_Q cA N (ad 0 0) sg M := ⟨ta, ad, hR, hok, rfl⟩
    exact hr_iretX X (tL_at tL_pairs_ok 3 rfl) (Nat.le_of_ble_eq_true rfl) (Nat.le_of_ble_eq_true rfl) ⟨by rw [lcf_0 hth], hQ2⟩
abbrev r_L_pairAt : Room := { frames := 8, cells := 2, slots := 12, locals := 138 }
set_option maxHeartbeats 4000000 in
set_option maxRecDepth 100000 in
theorem c_L_pairAt (cA : Nat → ClassId) {sg : mm_S} {N M : hm_M} {b : Nat} (hI : sp_I sg) (hJ : sp_J sg) (hQ : ls_Q cA N b sg M) (s place : Int32) : hm_HMet cA yL_pairAt cL_pairAt 4 (some .int) [(0, 6, 7, 20)] r_L_pairAt [.ref b, .int s, .int place] M (lw_R cA N b (lcf lNI lNI lNI (sp_w (!decide (sp_paR sg s place = -1))) (sp_paR sg s place)) sg) := by
  obtain ⟨ta, ad, hR, hok, rfl⟩ := hQ
  refine hm_hmet 1 (by decide +kernel) (fun w h => by simp only [List.mem_cons, List.not_mem_nil, or_false] at h; rcases h with rfl | rfl | rfl <;> rfl) rfl (fun C X hC => ?_)
  show hm_W C 0 0 _ M 0 [some (.ref (ad 0 0)), some (.int s), some (.int place), none] []
  refine hr_aload_n X (tL_at tL_pairAt_ok 0 rfl) rfl (Or.inr ⟨_, rfl⟩) ?_
  refine hr_iload_n X (tL_at tL_pairAt_ok 1 rfl) rfl ?_
  refine hr_iload_n X (tL_at tL_pairAt_ok 2 rfl) rfl ?_
  refine hr_callVC X kCL_112 (tL_at tL_pairAt_ok 3 rfl) (c_X5_pairAt cA hR hI hok s place) hR.c0 rfl rfl rfl rfl (Nat.le_of_ble_eq_true rfl) ⟨⟨(Nat.le_of_ble_eq_true rfl), (Nat.le_of_ble_eq_true rfl)⟩, (Nat.le_of_ble_eq_true rfl), (Nat.le_of_ble_eq_true rfl)⟩ (fun E M1 q9 hp => ?_) (fun v M1 hp => ?_)
  · obtain ⟨hc, rfl, rfl⟩ := hp
    have hth : sp_w (!decide (sp_paR sg s place = -1)) = 1 := by rw [decide_eq_true hc]; rfl
    have hQ1 : ls_Q cA N (ad 0 0) sg M := ⟨ta, ad, hR, hok, rfl⟩
    refine lh_at X hC [] (0, 6, 7, 20) [] rfl (fun _ h => absurd h List.not_mem_nil) (by decide) (by decide) kXL_20 (by decide +kernel) ?_
    show hm_W C _ _ _ _ 7 _ _
    refine hr_astore_n X (tL_at tL_pairAt_ok 5 rfl) (Nat.le_of_ble_eq_true rfl) (Or.inr ⟨_, rfl⟩) ?_
    refine hr_ldc (lNI) X (tL_at tL_pairAt_ok 6 rfl) kKL_22 ?_
    exact hr_iretX X (tL_at tL_pairAt_ok 7 rfl) (Nat.le_of_ble_eq_true rfl) (Nat.le_of_ble_eq_true rfl) ⟨by rw [lcf_1 hth], hQ1⟩
  · obtain ⟨hc, rfl, rfl⟩ := hp
    have hth : sp_w (!decide (sp_paR sg s place = -1)) = 0 := by rw [decide_eq_false hc]; rfl
    have hQ2 : ls_Q cA N (ad 0 0) sg M := ⟨ta, ad, hR, hok, rfl⟩
    exact hr_iretX X (tL_at tL_pairAt_ok 4 rfl) (Nat.le_of_ble_eq_true rfl) (Nat.le_of_ble_eq_true rfl) ⟨by rw [lcf_0 hth], hQ2⟩
abbrev r_L_anew : Room := { frames := 8, cells := 1, slots := 6, locals := 137 }
set_option maxHeartbeats 4000000 in
set_option maxRecDepth 100000 in
theorem c_L_anew (cA : Nat → ClassId) {sg : mm_S} {N M : hm_M} {b : Nat} (hI : sp_I sg) (hJ : sp_J sg) (hQ : ls_Q cA N b sg M) (s : Int32) : hm_HMet cA yL_anew cL_anew 3 (some .int) [(0, 5, 6, 20)] r_L_anew [.ref b, .int s] M (lw_R cA N b (lcf lNI lNI lNI (sp_w (sp_isS sg s)) (sp_prN sg (nN s) 144)) sg) := by
  obtain ⟨ta, ad, hR, hok, rfl⟩ := hQ
  refine hm_hmet 1 (by decide +kernel) (fun w h => by simp only [List.mem_cons, List.not_mem_nil, or_false] at h; rcases h with rfl | rfl <;> rfl) rfl (fun C X hC => ?_)
  show hm_W C 0 0 _ M 0 [some (.ref (ad 0 0)), some (.int s), none] []
  refine hr_aload_n X (tL_at tL_anew_ok 0 rfl) rfl (Or.inr ⟨_, rfl⟩) ?_
  refine hr_iload_n X (tL_at tL_anew_ok 1 rfl) rfl ?_
  refine hr_callVC X kCL_115 (tL_at tL_anew_ok 2 rfl) (c_X5_pairsAnew cA hR hI hok s) hR.c0 rfl rfl rfl rfl (Nat.le_of_ble_eq_true rfl) ⟨⟨(Nat.le_of_ble_eq_true rfl), (Nat.le_of_ble_eq_true rfl)⟩, (Nat.le_of_ble_eq_true rfl), (Nat.le_of_ble_eq_true rfl)⟩ (fun E M1 q9 hp => ?_) (fun v M1 hp => ?_)
  · obtain ⟨hc, rfl, rfl⟩ := hp
    have hth : sp_w (sp_isS sg s) = 1 := by rw [hc]; rfl
    have hQ1 : ls_Q cA N (ad 0 0) sg M := ⟨ta, ad, hR, hok, rfl⟩
    refine lh_at X hC [] (0, 5, 6, 20) [] rfl (fun _ h => absurd h List.not_mem_nil) (by decide) (by decide) kXL_20 (by decide +kernel) ?_
    show hm_W C _ _ _ _ 6 _ _
    refine hr_astore_n X (tL_at tL_anew_ok 4 rfl) (Nat.le_of_ble_eq_true rfl) (Or.inr ⟨_, rfl⟩) ?_
    refine hr_ldc (lNI) X (tL_at tL_anew_ok 5 rfl) kKL_22 ?_
    exact hr_iretX X (tL_at tL_anew_ok 6 rfl) (Nat.le_of_ble_eq_true rfl) (Nat.le_of_ble_eq_true rfl) ⟨by rw [lcf_1 hth], hQ1⟩
  · obtain ⟨hc, rfl, ta1, hR1, ht1⟩ := hp
    have hth : sp_w (sp_isS sg s) = 0 := sp_w_0.mpr hc
    have hQ2 : ls_Q cA N (ad 0 0) sg M1 := ⟨ta1, ad, hR1, hok.congr (fun j _ h6 h7 => ht1 j h6 h7), rfl⟩
    exact hr_iretX X (tL_at tL_anew_ok 3 rfl) (Nat.le_of_ble_eq_true rfl) (Nat.le_of_ble_eq_true rfl) ⟨by rw [lcf_0 hth], hQ2⟩
abbrev r_L_quotas : Room := { frames := 8, cells := 2, slots := 12, locals := 135 }
set_option maxHeartbeats 4000000 in
set_option maxRecDepth 100000 in
theorem c_L_quotas (cA : Nat → ClassId) {sg : mm_S} {N M : hm_M} {b : Nat} (hI : sp_I sg) (hJ : sp_J sg) (hQ : ls_Q cA N b sg M) (g q : Int32) : hm_HMet cA yL_quotas cL_quotas 4 (some .int) [(0, 6, 7, 20), (0, 6, 11, 23)] r_L_quotas [.ref b, .int g, .int q] M (lw_R cA N b (lcf lNI lNA lNA (sp_thQuota g q) (sg 12 (nN g))) (if sp_thQuota g q = 0 then mm_up sg 12 (nN g) q else sg)) := by
  obtain ⟨ta, ad, hR, hok, rfl⟩ := hQ
  refine hm_hmet 1 (by decide +kernel) (fun w h => by simp only [List.mem_cons, List.not_mem_nil, or_false] at h; rcases h with rfl | rfl | rfl <;> rfl) rfl (fun C X hC => ?_)
  show hm_W C 0 0 _ M 0 [some (.ref (ad 0 0)), some (.int g), some (.int q), none] []
  refine hr_aload_n X (tL_at tL_quotas_ok 0 rfl) rfl (Or.inr ⟨_, rfl⟩) ?_
  refine hr_iload_n X (tL_at tL_quotas_ok 1 rfl) rfl ?_
  refine hr_iload_n X (tL_at tL_quotas_ok 2 rfl) rfl ?_
  refine hr_callVC X kCL_118 (tL_at tL_quotas_ok 3 rfl) (c_X5_setQuota cA hR g q) hR.c0 rfl rfl rfl rfl (Nat.le_of_ble_eq_true rfl) ⟨⟨(Nat.le_of_ble_eq_true rfl), (Nat.le_of_ble_eq_true rfl)⟩, (Nat.le_of_ble_eq_true rfl), (Nat.le_of_ble_eq_true rfl)⟩ (fun E M1 q9 hp => ?_) (fun v M1 hp => ?_)
  · obtain ⟨hE, rfl⟩ := hp
    have hQ1 : ls_Q cA N (ad 0 0) sg M := ⟨ta, ad, hR, hok, rfl⟩
    rcases hE with ⟨hth, rfl⟩ | ⟨hth, rfl⟩
    · refine lh_at X hC [] (0, 6, 7, 20) [(0, 6, 11, 23)] rfl (fun _ h => absurd h List.not_mem_nil) (by decide) (by decide) kXL_20 (by decide +kernel) ?_
      show hm_W C _ _ _ _ 7 _ _
      refine hr_astore_n X (tL_at tL_quotas_ok 5 rfl) (Nat.le_of_ble_eq_true rfl) (Or.inr ⟨_, rfl⟩) ?_
      refine hr_ldc (lNI) X (tL_at tL_quotas_ok 6 rfl) kKL_22 ?_
      exact hr_iretX X (tL_at tL_quotas_ok 7 rfl) (Nat.le_of_ble_eq_true rfl) (Nat.le_of_ble_eq_true rfl) ⟨by rw [lcf_1 hth], (by rw [if_neg (by rw [hth]; decide)]; exact hQ1)⟩
    · refine lh_at X hC [(0, 6, 7, 20)] (0, 6, 11, 23) [] rfl (List.forall_mem_cons.mpr ⟨⟨by decide, _, kXL_20, by decide +kernel⟩, (fun _ h => absurd h List.not_mem_nil)⟩) (by decide) (by decide) kXL_23 (by decide +kernel) ?_
      show hm_W C _ _ _ _ 11 _ _
      refine hr_astore_n X (tL_at tL_quotas_ok 8 rfl) (Nat.le_of_ble_eq_true rfl) (Or.inr ⟨_, rfl⟩) ?_
      refine hr_ldc (lNA) X (tL_at tL_quotas_ok 9 rfl) kKL_25 ?_
      exact hr_iretX X (tL_at tL_quotas_ok 10 rfl) (Nat.le_of_ble_eq_true rfl) (Nat.le_of_ble_eq_true rfl) ⟨by rw [lcf_2 hth], (by rw [if_neg (by rw [hth]; decide)]; exact hQ1)⟩
  · obtain ⟨hth, rfl, hR1⟩ := hp
    have hQ2 : ls_Q cA N (ad 0 0) (if sp_thQuota g q = 0 then mm_up sg 12 (nN g) q else sg) M1 := by rw [if_pos hth]; exact ⟨ta, ad, hR1, cr_ok.quo hI hok, rfl⟩
    exact hr_iretX X (tL_at tL_quotas_ok 4 rfl) (Nat.le_of_ble_eq_true rfl) (Nat.le_of_ble_eq_true rfl) ⟨by rw [lcf_0 hth], hQ2⟩
abbrev r_L_used : Room := { frames := 8, cells := 1, slots := 6, locals := 131 }
set_option maxHeartbeats 4000000 in
set_option maxRecDepth 100000 in
theorem c_L_used (cA : Nat → ClassId) {sg : mm_S} {N M : hm_M} {b : Nat} (hI : sp_I sg) (hJ : sp_J sg) (hQ : ls_Q cA N b sg M) (g : Int32) : hm_HMet cA yL_used cL_used 3 (some .int) [(0, 5, 6, 20)] r_L_used [.ref b, .int g] M (lw_R cA N b (lcf lNI lNI lNI (sp_w (sp_in g 0 3)) (sp_used sg g)) sg) := by
  obtain ⟨ta, ad, hR, hok, rfl⟩ := hQ
  refine hm_hmet 1 (by decide +kernel) (fun w h => by simp only [List.mem_cons, List.not_mem_nil, or_false] at h; rcases h with rfl | rfl <;> rfl) rfl (fun C X hC => ?_)
  show hm_W C 0 0 _ M 0 [some (.ref (ad 0 0)), some (.int g), none] []
  refine hr_aload_n X (tL_at tL_used_ok 0 rfl) rfl (Or.inr ⟨_, rfl⟩) ?_
  refine hr_iload_n X (tL_at tL_used_ok 1 rfl) rfl ?_
  refine hr_callVC X kCL_121 (tL_at tL_used_ok 2 rfl) (c_X5_used cA hR hI g) hR.c0 rfl rfl rfl rfl (Nat.le_of_ble_eq_true rfl) ⟨⟨(Nat.le_of_ble_eq_true rfl), (Nat.le_of_ble_eq_true rfl)⟩, (Nat.le_of_ble_eq_true rfl), (Nat.le_of_ble_eq_true rfl)⟩ (fun E M1 q9 hp => ?_) (fun v M1 hp => ?_)
  · obtain ⟨hc, rfl, rfl⟩ := hp
    have hth : sp_w (sp_in g 0 3) = 1 := by rw [hc]; rfl
    have hQ1 : ls_Q cA N (ad 0 0) sg M := ⟨ta, ad, hR, hok, rfl⟩
    refine lh_at X hC [] (0, 5, 6, 20) [] rfl (fun _ h => absurd h List.not_mem_nil) (by decide) (by decide) kXL_20 (by decide +kernel) ?_
    show hm_W C _ _ _ _ 6 _ _
    refine hr_astore_n X (tL_at tL_used_ok 4 rfl) (Nat.le_of_ble_eq_true rfl) (Or.inr ⟨_, rfl⟩) ?_
    refine hr_ldc (lNI) X (tL_at tL_used_ok 5 rfl) kKL_22 ?_
    exact hr_iretX X (tL_at tL_used_ok 6 rfl) (Nat.le_of_ble_eq_true rfl) (Nat.le_of_ble_eq_true rfl) ⟨by rw [lcf_1 hth], hQ1⟩
  · obtain ⟨hc, rfl, rfl⟩ := hp
    have hth : sp_w (sp_in g 0 3) = 0 := sp_w_0.mpr hc
    have hQ2 : ls_Q cA N (ad 0 0) sg M := ⟨ta, ad, hR, hok, rfl⟩
    rw [lb_used hok hc]
    exact hr_iretX X (tL_at tL_used_ok 3 rfl) (Nat.le_of_ble_eq_true rfl) (Nat.le_of_ble_eq_true rfl) ⟨by rw [lcf_0 hth], hQ2⟩
abbrev r_L_usedAnew : Room := { frames := 8, cells := 1, slots := 6, locals := 134 }
set_option maxHeartbeats 4000000 in
set_option maxRecDepth 100000 in
theorem c_L_usedAnew (cA : Nat → ClassId) {sg : mm_S} {N M : hm_M} {b : Nat} (hI : sp_I sg) (hJ : sp_J sg) (hQ : ls_Q cA N b sg M) (g : Int32) : hm_HMet cA yL_usedAnew cL_usedAnew 3 (some .int) [(0, 5, 6, 20)] r_L_usedAnew [.ref b, .int g] M (lw_R cA N b (lcf lNI lNI lNI (sp_w (sp_in g 0 3)) (sp_used sg g)) sg) := by
  obtain ⟨ta, ad, hR, hok, rfl⟩ := hQ
  refine hm_hmet 1 (by decide +kernel) (fun w h => by simp only [List.mem_cons, List.not_mem_nil, or_false] at h; rcases h with rfl | rfl <;> rfl) rfl (fun C X hC => ?_)
  show hm_W C 0 0 _ M 0 [some (.ref (ad 0 0)), some (.int g), none] []
  refine hr_aload_n X (tL_at tL_usedAnew_ok 0 rfl) rfl (Or.inr ⟨_, rfl⟩) ?_
  refine hr_iload_n X (tL_at tL_usedAnew_ok 1 rfl) rfl ?_
  refine hr_callVC X kCL_124 (tL_at tL_usedAnew_ok 2 rfl) (c_X5_usedAnew cA hR hI hJ g) hR.c0 rfl rfl rfl rfl (Nat.le_of_ble_eq_true rfl) ⟨⟨(Nat.le_of_ble_eq_true rfl), (Nat.le_of_ble_eq_true rfl)⟩, (Nat.le_of_ble_eq_true rfl), (Nat.le_of_ble_eq_true rfl)⟩ (fun E M1 q9 hp => ?_) (fun v M1 hp => ?_)
  · obtain ⟨hc, rfl, rfl⟩ := hp
    have hth : sp_w (sp_in g 0 3) = 1 := by rw [hc]; rfl
    have hQ1 : ls_Q cA N (ad 0 0) sg M := ⟨ta, ad, hR, hok, rfl⟩
    refine lh_at X hC [] (0, 5, 6, 20) [] rfl (fun _ h => absurd h List.not_mem_nil) (by decide) (by decide) kXL_20 (by decide +kernel) ?_
    show hm_W C _ _ _ _ 6 _ _
    refine hr_astore_n X (tL_at tL_usedAnew_ok 4 rfl) (Nat.le_of_ble_eq_true rfl) (Or.inr ⟨_, rfl⟩) ?_
    refine hr_ldc (lNI) X (tL_at tL_usedAnew_ok 5 rfl) kKL_22 ?_
    exact hr_iretX X (tL_at tL_usedAnew_ok 6 rfl) (Nat.le_of_ble_eq_true rfl) (Nat.le_of_ble_eq_true rfl) ⟨by rw [lcf_1 hth], hQ1⟩
  · obtain ⟨hc, rfl, rfl⟩ := hp
    have hth : sp_w (sp_in g 0 3) = 0 := sp_w_0.mpr hc
    have hQ2 : ls_Q cA N (ad 0 0) sg M := ⟨ta, ad, hR, hok, rfl⟩
    exact hr_iretX X (tL_at tL_usedAnew_ok 3 rfl) (Nat.le_of_ble_eq_true rfl) (Nat.le_of_ble_eq_true rfl) ⟨by rw [lcf_0 hth], hQ2⟩
