/-! the acts: what each does, whichever server it is done with -/
def la_P (sg : mm_S) (m : Nat) (r : Int32) (sg' : mm_S) : Prop := (sp_I sg' ∧ sp_J sg') ∧ sp_K sg' ∧ (∀ a, a < 2 → sg' 5 a = if a = lA_sh m ∧ m % 32 < 8 ∧ 0 ≤ r then sg 5 a + 1 else sg 5 a) ∧ ∀ a g, a < 2 → g < 4 → sg' 11 (4 * a + g) = if a = lA_sh m ∧ g = m / 64 % 4 ∧ m % 32 = 20 ∧ m / 64 / 4 % 4 = 0 ∧ 0 ≤ r then 1 else sg 11 (4 * a + g)
section LAP
variable {sg sgn : mm_S} {m : Nat} {th r : Int32}
theorem la_keep (hI : sp_I sg) (hJ : sp_J sg) (hK : sp_K sg) (h8 : ¬ m % 32 < 8) (h20 : ¬ (m % 32 = 20 ∧ m / 64 / 4 % 4 = 0)) (h : th = 0 → (sp_I sgn ∧ sp_J sgn) ∧ sp_K sgn ∧ sgn 5 = sg 5 ∧ sgn 11 = sg 11) : la_P sg m r (if th = 0 then sgn else sg) := by
  have key : ∀ s9 : mm_S, (sp_I s9 ∧ sp_J s9) → sp_K s9 → s9 5 = sg 5 → s9 11 = sg 11 → la_P sg m r s9 := fun s9 a b c d => ⟨a, b, fun x _ => by rw [c, if_neg (fun q => h8 q.2.1)], fun x g _ _ => by rw [d, if_neg (fun q => h20 ⟨q.2.2.1, q.2.2.2.1⟩)]⟩
  by_cases z : th = 0
  · rw [if_pos z]
    obtain ⟨a, b, c, d⟩ := h z
    exact key _ a b c d
  · rw [if_neg z]
    exact key _ ⟨hI, hJ⟩ hK rfl rfl
theorem la_neg {e2 e3 x : Int32} (h2 : e2 < 0) (h3 : e3 < 0) (h : ¬ th = 0) : ¬ 0 ≤ lcf lNI e2 e3 th x := by
  unfold lcf
  rw [if_neg h, Int32.not_le]
  split
  · decide
  · split
    · exact h2
    · exact h3
theorem la_set {e2 e3 : Int32} {g t : Nat} {kind pts rule slack : Int32} (hI : sp_I sg) (hJ : sp_J sg) (hK : sp_K sg) (h8 : m % 32 < 8) (h2 : e2 < 0) (h3 : e3 < 0) (hsh : lA_sh m < 2) (h : th = 0 → (sp_I (sp_rev sg g (nN (nI (lA_sh m))) t kind pts rule slack) ∧ sp_J (sp_rev sg g (nN (nI (lA_sh m))) t kind pts rule slack)) ∧ sp_K (sp_rev sg g (nN (nI (lA_sh m))) t kind pts rule slack)) : la_P sg m (lcf lNI e2 e3 th (sg 5 (nN (nI (lA_sh m))))) (if th = 0 then sp_rev sg g (nN (nI (lA_sh m))) t kind pts rule slack else sg) := by
  have h20 : ¬ m % 32 = 20 := by omega
  have es : nN (nI (lA_sh m)) = lA_sh m := nI_clamp (by omega)
  rw [es] at h ⊢
  by_cases z : th = 0
  · rw [if_pos z, lcf_0 z]
    obtain ⟨a, b⟩ := h z
    have hs2 : lA_sh m < sp_n sg := by rw [hK.1]; exact hsh
    obtain ⟨nn, n1, n2, e5, -⟩ := hI.i2 (lA_sh m) hs2
    refine ⟨a, b, fun x hx => ?_, fun x g' _ _ => ?_⟩
    · unfold sp_rev
      rw [sp_revA_r5]
      by_cases y : x = lA_sh m
      · rw [if_pos ⟨y, h8, by rw [e5]; exact nI_pos' (by omega)⟩, y, mm_up_s]
      · rw [if_neg (fun q => y q.1), mm_up_x y]
    · unfold sp_rev
      rw [sp_revA_j (by decide), if_neg (fun q => h20 q.2.2.1)]
  · rw [if_neg z]
    have hn := la_neg (x := sg 5 (lA_sh m)) h2 h3 z
    exact ⟨⟨hI, hJ⟩, hK, fun x _ => by rw [if_neg (fun q => hn q.2.2)], fun x g' _ _ => by rw [if_neg (fun q => h20 q.2.2.1)]⟩
theorem la_clN {sg1 : mm_S} {b : Nat} : ∃ N, sp_clN sg1 b 3 = nI N ∧ N ≤ 3 := lk_sum (B := 1) 3 (fun k _ => by
  split
  · exact ⟨1, rfl, Nat.le_refl 1⟩
  · exact ⟨0, rfl, by omega⟩)
theorem la_close (hI : sp_I sg) (hJ : sp_J sg) (hK : sp_K sg) (h20 : m % 32 = 20) (h4 : m / 64 / 4 % 4 = 0) (hsh : lA_sh m < 2) : la_P sg m (lcf lNI lNS lNS (sp_thClose sg (nI (m / 64 % 4)) (nI (lA_sh m))) (sp_clN (mm_up sg 11 (4 * nN (nI (lA_sh m)) + nN (nI (m / 64 % 4))) 1) (12 * nN (nI (lA_sh m)) + 3 * nN (nI (m / 64 % 4))) 3)) (if sp_thClose sg (nI (m / 64 % 4)) (nI (lA_sh m)) = 0 then sp_clS (mm_up sg 11 (4 * nN (nI (lA_sh m)) + nN (nI (m / 64 % 4))) 1) (12 * nN (nI (lA_sh m)) + 3 * nN (nI (m / 64 % 4))) 3 else sg) := by
  have h8 : ¬ m % 32 < 8 := by omega
  by_cases z : sp_thClose sg (nI (m / 64 % 4)) (nI (lA_sh m)) = 0
  · have a := lp_close hI hJ z
    have b := lk_close hI hJ hK z
    rw [if_pos z, lcf_0 z]
    have e1 : nN (nI (m / 64 % 4)) = m / 64 % 4 := nI_clamp (by omega)
    have e2 : nN (nI (lA_sh m)) = lA_sh m := nI_clamp (by omega)
    rw [e1, e2] at a b ⊢
    have hK4 : sp_K4 (mm_up sg 11 (4 * lA_sh m + m / 64 % 4) 1) := fun g' hg' => by
      rw [sp_used_congr (mm_up_j (by decide)) (mm_up_j (by decide)) (mm_up_j (by decide)) (mm_up_j (by decide)) (mm_up_j (by decide)) (mm_up_j (by decide)) (mm_up_j (by decide)), mm_up_j (by decide)]
      exact hK.2.2.2 g' hg'
    obtain ⟨c1, -, -⟩ := lk_clS hI.cls hK4 (b := 12 * lA_sh m + 3 * (m / 64 % 4)) (by omega) 3 (Nat.le_refl 3)
    refine ⟨a, b, fun x _ => ?_, fun x g hx hg => ?_⟩
    · rw [c1 5 (by decide), mm_up_j (by decide), if_neg (fun q => h8 q.2.1)]
    · rw [c1 11 (by decide)]
      by_cases y : x = lA_sh m ∧ g = m / 64 % 4
      · obtain ⟨N, eN, hN⟩ := la_clN (sg1 := mm_up sg 11 (4 * lA_sh m + m / 64 % 4) 1) (b := 12 * lA_sh m + 3 * (m / 64 % 4))
        rw [if_pos ⟨y.1, y.2, h20, h4, by rw [eN]; exact nI_pos' (by omega)⟩, y.1, y.2, mm_up_s]
      · rw [if_neg (fun q => y ⟨q.1, q.2.1⟩), mm_up_x (by omega)]
  · rw [if_neg z]
    have hn := la_neg (e2 := lNS) (e3 := lNS) (x := sp_clN (mm_up sg 11 (4 * nN (nI (lA_sh m)) + nN (nI (m / 64 % 4))) 1) (12 * nN (nI (lA_sh m)) + 3 * nN (nI (m / 64 % 4))) 3) (by decide) (by decide) z
    exact ⟨⟨hI, hJ⟩, hK, fun x _ => by rw [if_neg (fun q => h8 q.2.1)], fun x g' _ _ => by rw [if_neg (fun q => hn q.2.2.2.2)]⟩
end LAP
theorem lA_sh2 (m : Nat) : lA_sh m < 2 := by
  unfold lA_sh
  split <;> decide
set_option maxHeartbeats 4000000 in
set_option maxRecDepth 100000 in
theorem c_A_numbers (cA : Nat → ClassId) {sg : mm_S} {N M : hm_M} {b nr m nn : Nat} {fn : Nat → Int32} (hI : sp_I sg) (hJ : sp_J sg) (hm : m < 2 ^ 31) (hfn : fn (lA_sh m) = nI nn) (hn1 : 1 ≤ nn) (hn2 : nn ≤ 16) (hj : lA_to (m % 32) = 156) (hQ : ls_Q cA N b sg M) (hnr : N nr = some (cr_iw cA 0 2 fn)) : hm_Met cA yL_act cL_act 9 (some .int) r_L_act [.ref b, .ref nr, .int (nI m)] M (lw_R cA N b (lcf lNI lNA lNS (sp_thSet sg (nI (m / 64 % 4)) (nI (lA_sh m)) (nI (m / 64 / 12 % 3)) (sp_areN (nI (1 + (((m / 64) / 36) % 10))) (((nI (((m / 64) / 360) % 9)) - (nI 4))) (nI (((m / 64) / 3240) % 4))) (2)) (sg 5 (nN (nI (lA_sh m))))) (if (sp_thSet sg (nI (m / 64 % 4)) (nI (lA_sh m)) (nI (m / 64 / 12 % 3)) (sp_areN (nI (1 + (((m / 64) / 36) % 10))) (((nI (((m / 64) / 360) % 9)) - (nI 4))) (nI (((m / 64) / 3240) % 4))) (2)) = 0 then (sp_rev sg (nN (nI (m / 64 % 4))) (nN (nI (lA_sh m))) (nN (nI (m / 64 / 12 % 3))) 0 (nI (1 + (((m / 64) / 36) % 10))) (((nI (((m / 64) / 360) % 9)) - (nI 4))) (nI (((m / 64) / 3240) % 4))) else sg)) := by
  refine hm_met 6 (by decide +kernel) (fun w h => by simp only [List.mem_cons, List.not_mem_nil, or_false] at h; rcases h with rfl | rfl | rfl <;> rfl) rfl (fun C X => ?_)
  show hm_W C 0 0 _ M 0 [some (.ref b), some (.ref nr), some (.int (nI m)), none, none, none, none, none, none] []
  refine w_A_pre X hm hQ hnr rfl hfn hn1 hn2 ?_
  rw [hj]
  exact w_A_numbers X hI hJ hm hQ
set_option maxHeartbeats 4000000 in
set_option maxRecDepth 100000 in
theorem c_A_choices (cA : Nat → ClassId) {sg : mm_S} {N M : hm_M} {b nr m nn : Nat} {fn : Nat → Int32} (hI : sp_I sg) (hJ : sp_J sg) (hm : m < 2 ^ 31) (hfn : fn (lA_sh m) = nI nn) (hn1 : 1 ≤ nn) (hn2 : nn ≤ 16) (hj : lA_to (m % 32) = 193) (hQ : ls_Q cA N b sg M) (hnr : N nr = some (cr_iw cA 0 2 fn)) : hm_Met cA yL_act cL_act 9 (some .int) r_L_act [.ref b, .ref nr, .int (nI m)] M (lw_R cA N b (lcf lNI lNA lNS (sp_thSet sg (nI (m / 64 % 4)) (nI (lA_sh m)) (nI (m / 64 / 12 % 3)) (sp_areC (nI (1 + (((m / 64) / 36) % 10))) (nI (((m / 64) / 360) % 32))) (1)) (sg 5 (nN (nI (lA_sh m))))) (if (sp_thSet sg (nI (m / 64 % 4)) (nI (lA_sh m)) (nI (m / 64 / 12 % 3)) (sp_areC (nI (1 + (((m / 64) / 36) % 10))) (nI (((m / 64) / 360) % 32))) (1)) = 0 then (sp_rev sg (nN (nI (m / 64 % 4))) (nN (nI (lA_sh m))) (nN (nI (m / 64 / 12 % 3))) 1 (nI (1 + (((m / 64) / 36) % 10))) (nI (((m / 64) / 360) % 32)) 0) else sg)) := by
  refine hm_met 6 (by decide +kernel) (fun w h => by simp only [List.mem_cons, List.not_mem_nil, or_false] at h; rcases h with rfl | rfl | rfl <;> rfl) rfl (fun C X => ?_)
  show hm_W C 0 0 _ M 0 [some (.ref b), some (.ref nr), some (.int (nI m)), none, none, none, none, none, none] []
  refine w_A_pre X hm hQ hnr rfl hfn hn1 hn2 ?_
  rw [hj]
  exact w_A_choices X hI hJ hm hQ
set_option maxHeartbeats 4000000 in
set_option maxRecDepth 100000 in
theorem c_A_words (cA : Nat → ClassId) {sg : mm_S} {N M : hm_M} {b nr m nn : Nat} {fn : Nat → Int32} (hI : sp_I sg) (hJ : sp_J sg) (hm : m < 2 ^ 31) (hfn : fn (lA_sh m) = nI nn) (hn1 : 1 ≤ nn) (hn2 : nn ≤ 16) (hj : lA_to (m % 32) = 221) (hQ : ls_Q cA N b sg M) (hnr : N nr = some (cr_iw cA 0 2 fn)) : hm_Met cA yL_act cL_act 9 (some .int) r_L_act [.ref b, .ref nr, .int (nI m)] M (lw_R cA N b (lcf lNI lNA lNS (sp_thSet sg (nI (m / 64 % 4)) (nI (lA_sh m)) (nI (m / 64 / 12 % 3)) (sp_areW (nI (1 + (((m / 64) / 36) % 10))) (nI (lA_row ((m / 64) / 360)))) (nI (sp_len (nI (lA_row ((m / 64) / 360)))))) (sg 5 (nN (nI (lA_sh m))))) (if (sp_thSet sg (nI (m / 64 % 4)) (nI (lA_sh m)) (nI (m / 64 / 12 % 3)) (sp_areW (nI (1 + (((m / 64) / 36) % 10))) (nI (lA_row ((m / 64) / 360)))) (nI (sp_len (nI (lA_row ((m / 64) / 360)))))) = 0 then (sp_rev sg (nN (nI (m / 64 % 4))) (nN (nI (lA_sh m))) (nN (nI (m / 64 / 12 % 3))) 2 (nI (1 + (((m / 64) / 36) % 10))) (nI (lA_row ((m / 64) / 360))) 0) else sg)) := by
  refine hm_met 6 (by decide +kernel) (fun w h => by simp only [List.mem_cons, List.not_mem_nil, or_false] at h; rcases h with rfl | rfl | rfl <;> rfl) rfl (fun C X => ?_)
  show hm_W C 0 0 _ M 0 [some (.ref b), some (.ref nr), some (.int (nI m)), none, none, none, none, none, none] []
  refine w_A_pre X hm hQ hnr rfl hfn hn1 hn2 ?_
  rw [hj]
  exact w_A_words X hI hJ hm hQ
set_option maxHeartbeats 4000000 in
set_option maxRecDepth 100000 in
theorem c_A_drops (cA : Nat → ClassId) {sg : mm_S} {N M : hm_M} {b nr m nn : Nat} {fn : Nat → Int32} (hI : sp_I sg) (hJ : sp_J sg) (hm : m < 2 ^ 31) (hfn : fn (lA_sh m) = nI nn) (hn1 : 1 ≤ nn) (hn2 : nn ≤ 16) (hj : lA_to (m % 32) = 249) (hQ : ls_Q cA N b sg M) (hnr : N nr = some (cr_iw cA 0 2 fn)) : hm_Met cA yL_act cL_act 9 (some .int) r_L_act [.ref b, .ref nr, .int (nI m)] M (lw_R cA N b (lcf lNI lNS lNS (sp_thDrop sg (nI (m / 64 % 4)) (nI (lA_sh m)) (nI (m / 64 / 12 % 3))) (sg 5 (nN (nI (lA_sh m))))) (if (sp_thDrop sg (nI (m / 64 % 4)) (nI (lA_sh m)) (nI (m / 64 / 12 % 3))) = 0 then (sp_rev sg (nN (nI (m / 64 % 4))) (nN (nI (lA_sh m))) (nN (nI (m / 64 / 12 % 3))) 3 0 0 0) else sg)) := by
  refine hm_met 6 (by decide +kernel) (fun w h => by simp only [List.mem_cons, List.not_mem_nil, or_false] at h; rcases h with rfl | rfl | rfl <;> rfl) rfl (fun C X => ?_)
  show hm_W C 0 0 _ M 0 [some (.ref b), some (.ref nr), some (.int (nI m)), none, none, none, none, none, none] []
  refine w_A_pre X hm hQ hnr rfl hfn hn1 hn2 ?_
  rw [hj]
  exact w_A_drops X hI hJ hm hQ
set_option maxHeartbeats 4000000 in
set_option maxRecDepth 100000 in
theorem c_A_adopts (cA : Nat → ClassId) {sg : mm_S} {N M : hm_M} {b nr m nn : Nat} {fn : Nat → Int32} (hI : sp_I sg) (hJ : sp_J sg) (hm : m < 2 ^ 31) (hfn : fn (lA_sh m) = nI nn) (hn1 : 1 ≤ nn) (hn2 : nn ≤ 16) (hj : lA_to (m % 32) = 260) (hQ : ls_Q cA N b sg M) (hnr : N nr = some (cr_iw cA 0 2 fn)) : hm_Met cA yL_act cL_act 9 (some .int) r_L_act [.ref b, .ref nr, .int (nI m)] M (lw_R cA N b (lcf lNI lNI lNI (sp_thAdopt sg (nI (m / 64 % 4)) (nI (lA_sh m)) (nI (m / 64 / 4 % nn))) (sg 10 (4 * nN (nI (lA_sh m)) + nN (nI (m / 64 % 4))))) (if (sp_thAdopt sg (nI (m / 64 % 4)) (nI (lA_sh m)) (nI (m / 64 / 4 % nn))) = 0 then (mm_up sg 10 (4 * nN (nI (lA_sh m)) + nN (nI (m / 64 % 4))) (nI (m / 64 / 4 % nn))) else sg)) := by
  refine hm_met 6 (by decide +kernel) (fun w h => by simp only [List.mem_cons, List.not_mem_nil, or_false] at h; rcases h with rfl | rfl | rfl <;> rfl) rfl (fun C X => ?_)
  show hm_W C 0 0 _ M 0 [some (.ref b), some (.ref nr), some (.int (nI m)), none, none, none, none, none, none] []
  refine w_A_pre X hm hQ hnr rfl hfn hn1 hn2 ?_
  rw [hj]
  exact w_A_adopts X hI hJ hm hQ
set_option maxHeartbeats 4000000 in
set_option maxRecDepth 100000 in
theorem c_A_folds (cA : Nat → ClassId) {sg : mm_S} {N M : hm_M} {b nr m nn : Nat} {fn : Nat → Int32} (hI : sp_I sg) (hJ : sp_J sg) (hm : m < 2 ^ 31) (hfn : fn (lA_sh m) = nI nn) (hn1 : 1 ≤ nn) (hn2 : nn ≤ 16) (hj : lA_to (m % 32) = 271) (hQ : ls_Q cA N b sg M) (hnr : N nr = some (cr_iw cA 0 2 fn)) : hm_Met cA yL_act cL_act 9 (some .int) r_L_act [.ref b, .ref nr, .int (nI m)] M (lw_R cA N b (lcf lNI lNS lNS (sp_thFold sg (nI (lA_sh m)) (nI (m / 64 / 4 % nn))) (sp_pass sg (16 * nN (nI (lA_sh m)) + nN (nI (m / 64 / 4 % nn))) (sp_toO sg (nN (nI (lA_sh m))) (nN (nI (m / 64 / 4 % nn)))) false)) (if (sp_thFold sg (nI (lA_sh m)) (nI (m / 64 / 4 % nn))) = 0 then (sp_foldS sg (nN (nI (lA_sh m))) (nN (nI (m / 64 / 4 % nn)))) else sg)) := by
  refine hm_met 6 (by decide +kernel) (fun w h => by simp only [List.mem_cons, List.not_mem_nil, or_false] at h; rcases h with rfl | rfl | rfl <;> rfl) rfl (fun C X => ?_)
  show hm_W C 0 0 _ M 0 [some (.ref b), some (.ref nr), some (.int (nI m)), none, none, none, none, none, none] []
  refine w_A_pre X hm hQ hnr rfl hfn hn1 hn2 ?_
  rw [hj]
  exact w_A_folds X hI hJ hm hQ
set_option maxHeartbeats 4000000 in
set_option maxRecDepth 100000 in
theorem c_A_mendsNumber (cA : Nat → ClassId) {sg : mm_S} {N M : hm_M} {b nr m nn : Nat} {fn : Nat → Int32} (hI : sp_I sg) (hJ : sp_J sg) (hm : m < 2 ^ 31) (hfn : fn (lA_sh m) = nI nn) (hn1 : 1 ≤ nn) (hn2 : nn ≤ 16) (hj : lA_to (m % 32) = 280) (hQ : ls_Q cA N b sg M) (hnr : N nr = some (cr_iw cA 0 2 fn)) : hm_Met cA yL_act cL_act 9 (some .int) r_L_act [.ref b, .ref nr, .int (nI m)] M (lw_R cA N b (lcf lNI lNA lNS (sp_thMen sg (nI (lA_sh m)) (nI (m / 64 / 4 % nn)) (nI (((m / 64) / 64) % 3)) (sp_in (((nI (((m / 64) / 192) % 9)) - (nI 4))) (-1000) 1000 && sp_in (nI (((m / 64) / 1728) % 4)) 0 100) 0) (sp_mendN sg (nN (nI (lA_sh m))) (sp_menE sg (nN (nI (lA_sh m))) (nN (nI (m / 64 / 4 % nn))) (nN (nI (((m / 64) / 64) % 3))) 0) (((nI (((m / 64) / 192) % 9)) - (nI 4))) (nI (((m / 64) / 1728) % 4)))) (if (sp_thMen sg (nI (lA_sh m)) (nI (m / 64 / 4 % nn)) (nI (((m / 64) / 64) % 3)) (sp_in (((nI (((m / 64) / 192) % 9)) - (nI 4))) (-1000) 1000 && sp_in (nI (((m / 64) / 1728) % 4)) 0 100) 0) = 0 then (sp_mend sg (nN (nI (lA_sh m))) (sp_menE sg (nN (nI (lA_sh m))) (nN (nI (m / 64 / 4 % nn))) (nN (nI (((m / 64) / 64) % 3))) 0) (((nI (((m / 64) / 192) % 9)) - (nI 4))) (nI (((m / 64) / 1728) % 4))) else sg)) := by
  refine hm_met 6 (by decide +kernel) (fun w h => by simp only [List.mem_cons, List.not_mem_nil, or_false] at h; rcases h with rfl | rfl | rfl <;> rfl) rfl (fun C X => ?_)
  show hm_W C 0 0 _ M 0 [some (.ref b), some (.ref nr), some (.int (nI m)), none, none, none, none, none, none] []
  refine w_A_pre X hm hQ hnr rfl hfn hn1 hn2 ?_
  rw [hj]
  exact w_A_mendsNumber X hI hJ hm hQ
set_option maxHeartbeats 4000000 in
set_option maxRecDepth 100000 in
theorem c_A_mendsChoice (cA : Nat → ClassId) {sg : mm_S} {N M : hm_M} {b nr m nn : Nat} {fn : Nat → Int32} (hI : sp_I sg) (hJ : sp_J sg) (hm : m < 2 ^ 31) (hfn : fn (lA_sh m) = nI nn) (hn1 : 1 ≤ nn) (hn2 : nn ≤ 16) (hj : lA_to (m % 32) = 312) (hQ : ls_Q cA N b sg M) (hnr : N nr = some (cr_iw cA 0 2 fn)) : hm_Met cA yL_act cL_act 9 (some .int) r_L_act [.ref b, .ref nr, .int (nI m)] M (lw_R cA N b (lcf lNI lNA lNS (sp_thMen sg (nI (lA_sh m)) (nI (m / 64 / 4 % nn)) (nI (((m / 64) / 64) % 3)) (sp_in (nI (((m / 64) / 192) % 32)) 0 31) 1) (sp_mendN sg (nN (nI (lA_sh m))) (sp_menE sg (nN (nI (lA_sh m))) (nN (nI (m / 64 / 4 % nn))) (nN (nI (((m / 64) / 64) % 3))) 1) (nI (((m / 64) / 192) % 32)) 0)) (if (sp_thMen sg (nI (lA_sh m)) (nI (m / 64 / 4 % nn)) (nI (((m / 64) / 64) % 3)) (sp_in (nI (((m / 64) / 192) % 32)) 0 31) 1) = 0 then (sp_mend sg (nN (nI (lA_sh m))) (sp_menE sg (nN (nI (lA_sh m))) (nN (nI (m / 64 / 4 % nn))) (nN (nI (((m / 64) / 64) % 3))) 1) (nI (((m / 64) / 192) % 32)) 0) else sg)) := by
  refine hm_met 6 (by decide +kernel) (fun w h => by simp only [List.mem_cons, List.not_mem_nil, or_false] at h; rcases h with rfl | rfl | rfl <;> rfl) rfl (fun C X => ?_)
  show hm_W C 0 0 _ M 0 [some (.ref b), some (.ref nr), some (.int (nI m)), none, none, none, none, none, none] []
  refine w_A_pre X hm hQ hnr rfl hfn hn1 hn2 ?_
  rw [hj]
  exact w_A_mendsChoice X hI hJ hm hQ
set_option maxHeartbeats 4000000 in
set_option maxRecDepth 100000 in
theorem c_A_mendsWords (cA : Nat → ClassId) {sg : mm_S} {N M : hm_M} {b nr m nn : Nat} {fn : Nat → Int32} (hI : sp_I sg) (hJ : sp_J sg) (hm : m < 2 ^ 31) (hfn : fn (lA_sh m) = nI nn) (hn1 : 1 ≤ nn) (hn2 : nn ≤ 16) (hj : lA_to (m % 32) = 335) (hQ : ls_Q cA N b sg M) (hnr : N nr = some (cr_iw cA 0 2 fn)) : hm_Met cA yL_act cL_act 9 (some .int) r_L_act [.ref b, .ref nr, .int (nI m)] M (lw_R cA N b (lcf lNI lNA lNS (sp_thMenW sg (nI (lA_sh m)) (nI (m / 64 / 4 % nn)) (nI (((m / 64) / 64) % 3)) (nI (lA_row ((m / 64) / 192)))) (sp_mendN sg (nN (nI (lA_sh m))) (sp_menE sg (nN (nI (lA_sh m))) (nN (nI (m / 64 / 4 % nn))) (nN (nI (((m / 64) / 64) % 3))) 2) (nI (lA_row ((m / 64) / 192))) 0)) (if (sp_thMenW sg (nI (lA_sh m)) (nI (m / 64 / 4 % nn)) (nI (((m / 64) / 64) % 3)) (nI (lA_row ((m / 64) / 192)))) = 0 then (sp_mend sg (nN (nI (lA_sh m))) (sp_menE sg (nN (nI (lA_sh m))) (nN (nI (m / 64 / 4 % nn))) (nN (nI (((m / 64) / 64) % 3))) 2) (nI (lA_row ((m / 64) / 192))) 0) else sg)) := by
  refine hm_met 6 (by decide +kernel) (fun w h => by simp only [List.mem_cons, List.not_mem_nil, or_false] at h; rcases h with rfl | rfl | rfl <;> rfl) rfl (fun C X => ?_)
  show hm_W C 0 0 _ M 0 [some (.ref b), some (.ref nr), some (.int (nI m)), none, none, none, none, none, none] []
  refine w_A_pre X hm hQ hnr rfl hfn hn1 hn2 ?_
  rw [hj]
  exact w_A_mendsWords X hI hJ hm hQ
set_option maxHeartbeats 4000000 in
set_option maxRecDepth 100000 in
theorem c_A_opens (cA : Nat → ClassId) {sg : mm_S} {N M : hm_M} {b nr m nn : Nat} {fn : Nat → Int32} (hI : sp_I sg) (hJ : sp_J sg) (hm : m < 2 ^ 31) (hfn : fn (lA_sh m) = nI nn) (hn1 : 1 ≤ nn) (hn2 : nn ≤ 16) (hj : lA_to (m % 32) = 358) (hQ : ls_Q cA N b sg M) (hnr : N nr = some (cr_iw cA 0 2 fn)) : hm_Met cA yL_act cL_act 9 (some .int) r_L_act [.ref b, .ref nr, .int (nI m)] M (lw_R cA N b (lcf lNI lNS lNS (sp_thOpen sg (nI (m / 64 % 12)) (nI (lA_sh m))) (sg 10 (4 * nN (nI (lA_sh m)) + nN (nI (m / 64 % 12)) / 3))) (if (sp_thOpen sg (nI (m / 64 % 12)) (nI (lA_sh m))) = 0 then (sp_openS sg (nN (nI (m / 64 % 12))) (nN (nI (lA_sh m)))) else sg)) := by
  refine hm_met 6 (by decide +kernel) (fun w h => by simp only [List.mem_cons, List.not_mem_nil, or_false] at h; rcases h with rfl | rfl | rfl <;> rfl) rfl (fun C X => ?_)
  show hm_W C 0 0 _ M 0 [some (.ref b), some (.ref nr), some (.int (nI m)), none, none, none, none, none, none] []
  refine w_A_pre X hm hQ hnr rfl hfn hn1 hn2 ?_
  rw [hj]
  exact w_A_opens X hI hJ hm hQ
set_option maxHeartbeats 4000000 in
set_option maxRecDepth 100000 in
theorem c_A_hands (cA : Nat → ClassId) {sg : mm_S} {N M : hm_M} {b nr m nn : Nat} {fn : Nat → Int32} (hI : sp_I sg) (hJ : sp_J sg) (hm : m < 2 ^ 31) (hfn : fn (lA_sh m) = nI nn) (hn1 : 1 ≤ nn) (hn2 : nn ≤ 16) (hj : lA_to (m % 32) = 367) (hQ : ls_Q cA N b sg M) (hnr : N nr = some (cr_iw cA 0 2 fn)) : hm_Met cA yL_act cL_act 9 (some .int) r_L_act [.ref b, .ref nr, .int (nI m)] M (lw_R cA N b (lcf lNI lNS lNS (sp_thHand sg (nI (m / 64 % 12)) (nI (lA_sh m))) (sp_due sg (sp_k (nI (m / 64 % 12)) (nI (lA_sh m))))) (if (sp_thHand sg (nI (m / 64 % 12)) (nI (lA_sh m))) = 0 then (sp_handS sg (sp_k (nI (m / 64 % 12)) (nI (lA_sh m)))) else sg)) := by
  refine hm_met 6 (by decide +kernel) (fun w h => by simp only [List.mem_cons, List.not_mem_nil, or_false] at h; rcases h with rfl | rfl | rfl <;> rfl) rfl (fun C X => ?_)
  show hm_W C 0 0 _ M 0 [some (.ref b), some (.ref nr), some (.int (nI m)), none, none, none, none, none, none] []
  refine w_A_pre X hm hQ hnr rfl hfn hn1 hn2 ?_
  rw [hj]
  exact w_A_hands X hI hJ hm hQ
set_option maxHeartbeats 4000000 in
set_option maxRecDepth 100000 in
theorem c_A_closes (cA : Nat → ClassId) {sg : mm_S} {N M : hm_M} {b nr m nn : Nat} {fn : Nat → Int32} (hI : sp_I sg) (hJ : sp_J sg) (hm : m < 2 ^ 31) (hfn : fn (lA_sh m) = nI nn) (hn1 : 1 ≤ nn) (hn2 : nn ≤ 16) (hj : lA_to (m % 32) = 376) (hc : nI (m / 64 / 4 % 4) ≤ 0) (hQ : ls_Q cA N b sg M) (hnr : N nr = some (cr_iw cA 0 2 fn)) : hm_Met cA yL_act cL_act 9 (some .int) r_L_act [.ref b, .ref nr, .int (nI m)] M (lw_R cA N b (lcf lNI lNS lNS (sp_thClose sg (nI (m / 64 % 4)) (nI (lA_sh m))) (sp_clN (mm_up sg 11 (4 * nN (nI (lA_sh m)) + nN (nI (m / 64 % 4))) 1) (12 * nN (nI (lA_sh m)) + 3 * nN (nI (m / 64 % 4))) 3)) (if (sp_thClose sg (nI (m / 64 % 4)) (nI (lA_sh m))) = 0 then (sp_clS (mm_up sg 11 (4 * nN (nI (lA_sh m)) + nN (nI (m / 64 % 4))) 1) (12 * nN (nI (lA_sh m)) + 3 * nN (nI (m / 64 % 4))) 3) else sg)) := by
  refine hm_met 6 (by decide +kernel) (fun w h => by simp only [List.mem_cons, List.not_mem_nil, or_false] at h; rcases h with rfl | rfl | rfl <;> rfl) rfl (fun C X => ?_)
  show hm_W C 0 0 _ M 0 [some (.ref b), some (.ref nr), some (.int (nI m)), none, none, none, none, none, none] []
  refine w_A_pre X hm hQ hnr rfl hfn hn1 hn2 ?_
  rw [hj]
  exact w_A_closes X hI hJ hm hQ hc
set_option maxHeartbeats 4000000 in
set_option maxRecDepth 100000 in
theorem c_A_used (cA : Nat → ClassId) {sg : mm_S} {N M : hm_M} {b nr m nn : Nat} {fn : Nat → Int32} (hI : sp_I sg) (hJ : sp_J sg) (hm : m < 2 ^ 31) (hfn : fn (lA_sh m) = nI nn) (hn1 : 1 ≤ nn) (hn2 : nn ≤ 16) (hj : lA_to (m % 32) = 376) (hc : ¬ nI (m / 64 / 4 % 4) ≤ 0) (hQ : ls_Q cA N b sg M) (hnr : N nr = some (cr_iw cA 0 2 fn)) : hm_Met cA yL_act cL_act 9 (some .int) r_L_act [.ref b, .ref nr, .int (nI m)] M (lw_R cA N b (lcf lNI lNI lNI (sp_w (sp_in (nI (m / 64 % 4)) 0 3)) (sp_used sg (nI (m / 64 % 4)))) sg) := by
  refine hm_met 6 (by decide +kernel) (fun w h => by simp only [List.mem_cons, List.not_mem_nil, or_false] at h; rcases h with rfl | rfl | rfl <;> rfl) rfl (fun C X => ?_)
  show hm_W C 0 0 _ M 0 [some (.ref b), some (.ref nr), some (.int (nI m)), none, none, none, none, none, none] []
  refine w_A_pre X hm hQ hnr rfl hfn hn1 hn2 ?_
  rw [hj]
  exact w_A_used X hI hJ hm hQ hc
set_option maxHeartbeats 4000000 in
set_option maxRecDepth 100000 in
theorem c_A_quotaA (cA : Nat → ClassId) {sg : mm_S} {N M : hm_M} {b nr m nn : Nat} {fn : Nat → Int32} (hI : sp_I sg) (hJ : sp_J sg) (hm : m < 2 ^ 31) (hfn : fn (lA_sh m) = nI nn) (hn1 : 1 ≤ nn) (hn2 : nn ≤ 16) (hj : lA_to (m % 32) = 402) (hc : nI (m / 64 / 4 % 3) = 0) (hQ : ls_Q cA N b sg M) (hnr : N nr = some (cr_iw cA 0 2 fn)) : hm_Met cA yL_act cL_act 9 (some .int) r_L_act [.ref b, .ref nr, .int (nI m)] M (lw_R cA N b (lcf lNI lNA lNA (sp_thQuota (nI (m / 64 % 4)) (nI (((m / 64) / 12) % 40))) (sg 12 (nN (nI (m / 64 % 4))))) (if (sp_thQuota (nI (m / 64 % 4)) (nI (((m / 64) / 12) % 40))) = 0 then (mm_up sg 12 (nN (nI (m / 64 % 4))) (nI (((m / 64) / 12) % 40))) else sg)) := by
  refine hm_met 6 (by decide +kernel) (fun w h => by simp only [List.mem_cons, List.not_mem_nil, or_false] at h; rcases h with rfl | rfl | rfl <;> rfl) rfl (fun C X => ?_)
  show hm_W C 0 0 _ M 0 [some (.ref b), some (.ref nr), some (.int (nI m)), none, none, none, none, none, none] []
  refine w_A_pre X hm hQ hnr rfl hfn hn1 hn2 ?_
  rw [hj]
  exact w_A_quotaA X hI hJ hm hQ hc
set_option maxHeartbeats 4000000 in
set_option maxRecDepth 100000 in
theorem c_A_quotaB (cA : Nat → ClassId) {sg : mm_S} {N M : hm_M} {b nr m nn : Nat} {fn : Nat → Int32} (hI : sp_I sg) (hJ : sp_J sg) (hm : m < 2 ^ 31) (hfn : fn (lA_sh m) = nI nn) (hn1 : 1 ≤ nn) (hn2 : nn ≤ 16) (hj : lA_to (m % 32) = 402) (hc : ¬ nI (m / 64 / 4 % 3) = 0) (hQ : ls_Q cA N b sg M) (hnr : N nr = some (cr_iw cA 0 2 fn)) : hm_Met cA yL_act cL_act 9 (some .int) r_L_act [.ref b, .ref nr, .int (nI m)] M (lw_R cA N b (lcf lNI lNA lNA (sp_thQuota (nI (m / 64 % 4)) (nI 100)) (sg 12 (nN (nI (m / 64 % 4))))) (if (sp_thQuota (nI (m / 64 % 4)) (nI 100)) = 0 then (mm_up sg 12 (nN (nI (m / 64 % 4))) (nI 100)) else sg)) := by
  refine hm_met 6 (by decide +kernel) (fun w h => by simp only [List.mem_cons, List.not_mem_nil, or_false] at h; rcases h with rfl | rfl | rfl <;> rfl) rfl (fun C X => ?_)
  show hm_W C 0 0 _ M 0 [some (.ref b), some (.ref nr), some (.int (nI m)), none, none, none, none, none, none] []
  refine w_A_pre X hm hQ hnr rfl hfn hn1 hn2 ?_
  rw [hj]
  exact w_A_quotaB X hI hJ hm hQ hc
set_option maxHeartbeats 4000000 in
set_option maxRecDepth 100000 in
theorem c_A_says (cA : Nat → ClassId) {sg : mm_S} {N M : hm_M} {b nr m nn : Nat} {fn : Nat → Int32} (hI : sp_I sg) (hJ : sp_J sg) (hm : m < 2 ^ 31) (hfn : fn (lA_sh m) = nI nn) (hn1 : 1 ≤ nn) (hn2 : nn ≤ 16) (hj : lA_to (m % 32) = 429) (hQ : ls_Q cA N b sg M) (hnr : N nr = some (cr_iw cA 0 2 fn)) : hm_Met cA yL_act cL_act 9 (some .int) r_L_act [.ref b, .ref nr, .int (nI m)] M (lw_R cA N b (lcf lNI lNA lNS (sp_thSay sg (nI (m / 64 % 12)) (nI (lA_sh m)) (nI (m / 64 / 12 % 3)) (nI (((m / 64) / 36) % 4))) (sp_taken (sp_sayN sg (nN (nI (m / 64 % 12))) (nN (nI (lA_sh m))) (nN (nI (m / 64 / 12 % 3))) (nI (((m / 64) / 36) % 4))) (sp_k (nI (m / 64 % 12)) (nI (lA_sh m))))) (if (sp_thSay sg (nI (m / 64 % 12)) (nI (lA_sh m)) (nI (m / 64 / 12 % 3)) (nI (((m / 64) / 36) % 4))) = 0 then (sp_sayN sg (nN (nI (m / 64 % 12))) (nN (nI (lA_sh m))) (nN (nI (m / 64 / 12 % 3))) (nI (((m / 64) / 36) % 4))) else sg)) := by
  refine hm_met 6 (by decide +kernel) (fun w h => by simp only [List.mem_cons, List.not_mem_nil, or_false] at h; rcases h with rfl | rfl | rfl <;> rfl) rfl (fun C X => ?_)
  show hm_W C 0 0 _ M 0 [some (.ref b), some (.ref nr), some (.int (nI m)), none, none, none, none, none, none] []
  refine w_A_pre X hm hQ hnr rfl hfn hn1 hn2 ?_
  rw [hj]
  exact w_A_says X hI hJ hm hQ
def lA_c (j : Nat) : Nat := if j < 8 then 0 else if j = 20 then 1 else 2
theorem lA_c0 {j : Nat} (h : lA_c j = 0) : j < 8 := by
  unfold lA_c at h
  split at h
  · assumption
  · split at h <;> omega
theorem lA_c1 {j : Nat} (h : lA_c j = 1) : j = 20 := by
  unfold lA_c at h
  split at h
  · omega
  · split at h <;> omega
theorem lA_c2 {j : Nat} (h : lA_c j = 2) : ¬ j < 8 ∧ ¬ j = 20 := by
  unfold lA_c at h
  split at h
  · omega
  · split at h <;> omega
theorem lA_grp : ∀ j, j < 32 → (lA_to j, lA_c j) ∈ [(156, 0), (193, 0), (221, 0), (249, 0), (260, 2), (271, 2), (280, 2), (312, 2), (335, 2), (358, 2), (367, 2), (376, 1), (402, 2), (429, 2)] := by decide
theorem la_mj {sg : mm_S} {s e j : Nat} {rule slack : Int32} (h : j ≠ 15 ∧ j ≠ 16 ∧ j ≠ 8 ∧ j ≠ 9) : sp_mend sg s e rule slack j = sg j := (sp_mdS_j 12 j h.1 h.2.1).trans (sp_rul_j h.2.2.1 h.2.2.2)
theorem la_sj {sg : mm_S} {p s t j : Nat} {said : Int32} (h : ¬ (j = 17 ∨ j = 18 ∨ j = 19 ∨ j = 20 ∨ j = 21)) : sp_sayN sg p s t said j = sg j := by
  unfold sp_sayN
  cases sp_ent sg (12 * s + p) t with
  | none => rfl
  | some u => exact sp_sayU_j h
set_option maxHeartbeats 4000000 in
set_option maxRecDepth 100000 in
theorem c_act {sg : mm_S} {m : Nat} {fn : Nat → Int32} (hI : sp_I sg) (hJ : sp_J sg) (hK : sp_K sg) (hm : m < 2 ^ 31) (e1 : ∀ a, a < 2 → sg 5 a = fn a) : ∃ (r : Int32) (sg' : mm_S), la_P sg m r sg' ∧ ∀ (cA : Nat → ClassId) (N M : hm_M) (b nr : Nat), ls_Q cA N b sg M → N nr = some (cr_iw cA 0 2 fn) → hm_Met cA yL_act cL_act 9 (some .int) r_L_act [.ref b, .ref nr, .int (nI m)] M (lw_R cA N b r sg') := by
  have hsh := lA_sh2 m
  obtain ⟨nn, n1, n2, e5, -⟩ := hI.i2 (lA_sh m) (by rw [hK.1]; exact hsh)
  have hfn : fn (lA_sh m) = nI nn := (e1 _ hsh).symm.trans e5
  have hg := lA_grp (m % 32) (Nat.mod_lt _ (by decide))
  simp only [List.mem_cons, Prod.mk.injEq, List.not_mem_nil, or_false] at hg
  rcases hg with ⟨hj, hcc⟩ | ⟨hj, hcc⟩ | ⟨hj, hcc⟩ | ⟨hj, hcc⟩ | ⟨hj, hcc⟩ | ⟨hj, hcc⟩ | ⟨hj, hcc⟩ | ⟨hj, hcc⟩ | ⟨hj, hcc⟩ | ⟨hj, hcc⟩ | ⟨hj, hcc⟩ | ⟨hj, hcc⟩ | ⟨hj, hcc⟩ | ⟨hj, hcc⟩
  · have h8 := lA_c0 hcc
    exact ⟨_, _, la_set (e2 := lNA) (e3 := lNS) hI hJ hK h8 (by decide) (by decide) hsh (fun z => ⟨lp_setNumber hI hJ z, lk_setNumber hI hJ hK z⟩), fun cA N M b nr hQ hnr => c_A_numbers cA hI hJ hm hfn n1 n2 hj hQ hnr⟩
  · have h8 := lA_c0 hcc
    exact ⟨_, _, la_set (e2 := lNA) (e3 := lNS) hI hJ hK h8 (by decide) (by decide) hsh (fun z => ⟨lp_setChoice hI hJ z, lk_setChoice hI hJ hK z⟩), fun cA N M b nr hQ hnr => c_A_choices cA hI hJ hm hfn n1 n2 hj hQ hnr⟩
  · have h8 := lA_c0 hcc
    exact ⟨_, _, la_set (e2 := lNA) (e3 := lNS) hI hJ hK h8 (by decide) (by decide) hsh (fun z => ⟨lp_setWords hI hJ z, lk_setWords hI hJ hK z⟩), fun cA N M b nr hQ hnr => c_A_words cA hI hJ hm hfn n1 n2 hj hQ hnr⟩
  · have h8 := lA_c0 hcc
    exact ⟨_, _, la_set (e2 := lNS) (e3 := lNS) hI hJ hK h8 (by decide) (by decide) hsh (fun z => ⟨lp_drop hI hJ z, lk_drop hI hJ hK z⟩), fun cA N M b nr hQ hnr => c_A_drops cA hI hJ hm hfn n1 n2 hj hQ hnr⟩
  · obtain ⟨h8, h20⟩ := lA_c2 hcc
    exact ⟨_, _, la_keep hI hJ hK h8 (fun q => h20 q.1) (fun z => ⟨lp_adopt hI hJ z, lk_adopt hI hK, mm_up_j (by decide), mm_up_j (by decide)⟩), fun cA N M b nr hQ hnr => c_A_adopts cA hI hJ hm hfn n1 n2 hj hQ hnr⟩
  · obtain ⟨h8, h20⟩ := lA_c2 hcc
    exact ⟨_, _, la_keep hI hJ hK h8 (fun q => h20 q.1) (fun z => ⟨lp_fold hI hJ z, lk_fold hI hJ hK z, (sp_fdF_j (by decide)), (sp_fdF_j (by decide))⟩), fun cA N M b nr hQ hnr => c_A_folds cA hI hJ hm hfn n1 n2 hj hQ hnr⟩
  · obtain ⟨h8, h20⟩ := lA_c2 hcc
    exact ⟨_, _, la_keep hI hJ hK h8 (fun q => h20 q.1) (fun z => ⟨lp_mendNumber hI hJ z, lk_mendNumber hI hK z, la_mj (by decide), la_mj (by decide)⟩), fun cA N M b nr hQ hnr => c_A_mendsNumber cA hI hJ hm hfn n1 n2 hj hQ hnr⟩
  · obtain ⟨h8, h20⟩ := lA_c2 hcc
    exact ⟨_, _, la_keep hI hJ hK h8 (fun q => h20 q.1) (fun z => ⟨lp_mendChoice hI hJ z, lk_mendChoice hI hK z, la_mj (by decide), la_mj (by decide)⟩), fun cA N M b nr hQ hnr => c_A_mendsChoice cA hI hJ hm hfn n1 n2 hj hQ hnr⟩
  · obtain ⟨h8, h20⟩ := lA_c2 hcc
    exact ⟨_, _, la_keep hI hJ hK h8 (fun q => h20 q.1) (fun z => ⟨lp_mendWords hI hJ z, lk_mendWords hI hK z, la_mj (by decide), la_mj (by decide)⟩), fun cA N M b nr hQ hnr => c_A_mendsWords cA hI hJ hm hfn n1 n2 hj hQ hnr⟩
  · obtain ⟨h8, h20⟩ := lA_c2 hcc
    exact ⟨_, _, la_keep hI hJ hK h8 (fun q => h20 q.1) (fun z => ⟨lp_open hI hJ z, lk_open hI hK z, sp_openS_j (by decide) (by decide), sp_openS_j (by decide) (by decide)⟩), fun cA N M b nr hQ hnr => c_A_opens cA hI hJ hm hfn n1 n2 hj hQ hnr⟩
  · obtain ⟨h8, h20⟩ := lA_c2 hcc
    exact ⟨_, _, la_keep hI hJ hK h8 (fun q => h20 q.1) (fun z => ⟨lp_hand hI hJ z, lk_hand hI hJ hK z, sp_handS_j (by decide) (by decide), sp_handS_j (by decide) (by decide)⟩), fun cA N M b nr hQ hnr => c_A_hands cA hI hJ hm hfn n1 n2 hj hQ hnr⟩
  · have h20 := lA_c1 hcc
    by_cases hc : nI (m / 64 / 4 % 4) ≤ 0
    · have h4 : m / 64 / 4 % 4 = 0 := by
        have := (nI_leI (b := 0) (by omega) (by decide)).mp hc
        omega
      exact ⟨_, _, la_close hI hJ hK h20 h4 hsh, fun cA N M b nr hQ hnr => c_A_closes cA hI hJ hm hfn n1 n2 hj hc hQ hnr⟩
    · have h4 : ¬ m / 64 / 4 % 4 = 0 := fun q => hc (by rw [q]; decide)
      refine ⟨_, _, ?_, fun cA N M b nr hQ hnr => c_A_used cA hI hJ hm hfn n1 n2 hj hc hQ hnr⟩
      have key := la_keep (th := 1) (sgn := sg) (r := (lcf lNI lNI lNI (sp_w (sp_in (nI (m / 64 % 4)) 0 3)) (sp_used sg (nI (m / 64 % 4))))) hI hJ hK (by omega) (fun q => h4 q.2) (fun z => absurd z (by decide))
      exact key
  · obtain ⟨h8, h20⟩ := lA_c2 hcc
    by_cases hc : nI (m / 64 / 4 % 3) = 0
    · exact ⟨_, _, la_keep hI hJ hK h8 (fun q => h20 q.1) (fun z => ⟨lp_quota hI hJ z, lk_quota hI hK (sp_nat_in (b := 100) (by decide) (by omega)), mm_up_j (by decide), mm_up_j (by decide)⟩), fun cA N M b nr hQ hnr => c_A_quotaA cA hI hJ hm hfn n1 n2 hj hc hQ hnr⟩
    · exact ⟨_, _, la_keep hI hJ hK h8 (fun q => h20 q.1) (fun z => ⟨lp_quota hI hJ z, lk_quota hI hK (by decide), mm_up_j (by decide), mm_up_j (by decide)⟩), fun cA N M b nr hQ hnr => c_A_quotaB cA hI hJ hm hfn n1 n2 hj hc hQ hnr⟩
  · obtain ⟨h8, h20⟩ := lA_c2 hcc
    exact ⟨_, _, la_keep hI hJ hK h8 (fun q => h20 q.1) (fun z => ⟨lp_say hI hJ z, lk_say hI hJ hK z, la_sj (by decide), la_sj (by decide)⟩), fun cA N M b nr hQ hnr => c_A_says cA hI hJ hm hfn n1 n2 hj hQ hnr⟩
