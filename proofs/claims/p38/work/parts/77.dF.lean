/-! say -/
section SAYW
variable {C : hm_C} {k n : Nat} {Q : State → Prop} {M M0 : hm_M} {pc : Nat} {L : List (Option Value)} {st : List Value} {cA : Nat → ClassId} {sg ta : mm_S} {ad : Nat → Nat → Nat}
theorem hr_w19 (h : cr_R cA sg ta ad M0 M) {j : Nat} (hK : cr_isK sg (j / 5) = true) {sg' ta' : mm_S} (hg : ∀ i, ¬ (i = 17 ∨ i = 18 ∨ i = 19 ∨ i = 20 ∨ i = 21) → sg' i = sg i) (hx : ∀ z, z ≠ j → sg' 17 z = sg 17 z ∧ sg' 19 z = sg 19 z ∧ sg' 20 z = sg 20 z) (ht : ∀ i, i ≠ 8 → ta' i = ta i) (htx : ∀ z, z ≠ j → ta' 8 z = ta 8 z)
    {fs : List Value} (hf : fs = [.int (sg' 17 j), .int (ta' 8 j), .int (sg' 19 j), .ref (ad 20 j), .int (sg' 20 j)]) (kk : ∀ M2 : hm_M, cr_R cA sg' ta' ad M0 M2 → hm_W C k n Q M2 pc L st) : hm_W C k n Q (hm_up M (ad 19 j) (.inr (2, fs))) pc L st := by
  subst hf
  refine hr_re1 h (q0 := 19) (x0 := j) (if_pos hK) (fun e he => ?_) (fun q z e hn he => ?_) kk
  · cases cr_ob_e he
    exact va_sm.rf
  · by_cases hq : q = 19
    · subst hq
      have hy : z ≠ j := fun w => hn ⟨rfl, w⟩
      obtain ⟨x1, x2, x3⟩ := hx z hy
      exact cr_sm_19 (sg := sg) (ta := ta) (sg' := sg') (ta' := ta') ⟨by rw [hg 1 (by decide)], by rw [hg 13 (by decide)], x1, x2, x3, htx z hy⟩ he
    · refine (cr_pt_j (sg := sg) (ta := ta) (fun i hi => hg i (fun w => ?_)) (fun i hi => ht i (fun w => hq ?_))).sm he
      · have hb := cr_owg_of hi (by omega) (by omega) (by omega) (by omega)
        rcases w with rfl | rfl | rfl | rfl | rfl
        · exact hq hb
        · rw [hb] at hi; exact absurd hi (by decide)
        · exact hq hb
        · exact hq hb
        · rw [hb] at hi; exact absurd hi (by decide)
      · rw [w] at hi; exact cr_own_of hi
theorem hr_w20 (h : cr_R cA sg ta ad M0 M) {j c : Nat} {v : Int32} (hK : cr_isK sg (j / 5) = true) (hc : c < 12) (kk : ∀ M2 : hm_M, cr_R cA sg (mm_up ta 4 (12 * j + c) v) ad M0 M2 → hm_W C k n Q M2 pc L st) : hm_W C k n Q (hm_up M (ad 20 j) (.inl (cA 0, 12, .inl (upd (fun i => ta 4 (12 * j + i)) c v)))) pc L st := by
  refine hr_re1 h (q0 := 20) (x0 := j) (if_pos hK) (fun e he => ?_) (fun q z e hn he => ?_) kk
  · cases cr_ob_e he
    refine va_sm.i (fun i hi => ?_)
    unfold upd
    by_cases z : i = c
    · rw [if_pos z, z, mm_up_s]
    · rw [if_neg z, mm_up_x (by omega)]
  · by_cases hq : q = 20
    · subst hq
      have hy : z ≠ j := fun w => hn ⟨rfl, w⟩
      exact cr_sm_20 (sg := sg) (ta := ta) (sg' := sg) (ta' := mm_up ta 4 (12 * j + c) v) ⟨rfl, rfl, fun i hi => mm_up_x (by omega)⟩ he
    · exact cr_one_t (fun i hi => mm_up_j hi) hq he
end SAYW
section SAYP
variable {sg : mm_S} {kind said : Int32} {j : Nat}
theorem sp_sayU_j {i : Nat} (h : ¬ (i = 17 ∨ i = 18 ∨ i = 19 ∨ i = 20 ∨ i = 21)) : sp_sayU sg kind j said i = sg i := by
  unfold sp_sayU
  split
  · rw [mm_up_j (by omega), mm_up_j (by omega)]
  · split
    · rw [mm_up_j (by omega)]
    · rw [mm_up_j (by omega), mm_up_j (by omega)]
theorem sp_sayU_x {i y : Nat} (h : y ≠ j) (h21 : i ≠ 21) : sp_sayU sg kind j said i y = sg i y := by
  unfold sp_sayU
  split
  · rw [mm_up_xj h, mm_up_xj h]
  · split
    · rw [mm_up_xj h]
    · rw [mm_up_xj h, mm_up_j (j' := i) (j := 21) h21]
theorem sp_sayU_21 {y : Nat} (h : y ≠ 12 * j + nN (sg 20 j)) : sp_sayU sg kind j said 21 y = sg 21 y := by
  unfold sp_sayU
  split
  · rw [mm_up_j (by decide), mm_up_j (by decide)]
  · split
    · rw [mm_up_j (by decide)]
    · rw [mm_up_j (by decide), mm_up_x h]
theorem sl_xorB : ∀ r, r < 32 → ∀ b, b < 5 → nI r ^^^ (1 <<< (nI b &&& 31)) = nI (r ^^^ (1 <<< b)) ∧ r ^^^ (1 <<< b) < 32 := by decide +kernel
/-- what may be said, where there is place -/
def sp_okS (sg : mm_S) (kind : Int32) (j : Nat) (said : Int32) : Prop := sp_isSaid kind said = true ∧ (kind = 0 ∨ kind = 1 ∨ (kind = 2 ∧ ∃ w, w < 12 ∧ sg 20 j = nI w))
theorem sp_isSaid_0 (h : sp_isSaid 0 said = true) : sp_in said (-1000) 1000 = true := h
theorem sp_isSaid_1 (h : sp_isSaid 1 said = true) : ∃ b, b < 5 ∧ said = nI b := by
  obtain ⟨b, h1, h2⟩ := sp_in_nat (b := 4) (by decide) (show sp_in said 0 4 = true from h)
  exact ⟨b, by omega, h2⟩
theorem sp_isSaid_2 (h : sp_isSaid 2 said = true) : ∃ w, w < 32 ∧ said = nI w := by
  have h2 : sp_in said 1 31 = true := h
  simp only [sp_in, Bool.and_eq_true, decide_eq_true_eq] at h2
  obtain ⟨w, h3, h4⟩ := sp_in_nat (v := said) (b := 31) (by decide) (by
    simp only [sp_in, Bool.and_eq_true, decide_eq_true_eq]
    exact ⟨Int32.le_trans (by decide) h2.1, h2.2⟩)
  exact ⟨w, by omega, h4⟩
theorem sp_I.say (hI : sp_I sg) (hj : j < 240) (h0 : ¬ sg 13 (j / 5) = 0) (hok : sp_okS sg kind j said) : sp_I (sp_sayU sg kind j said) := by
  have hn : sp_n (sp_sayU sg kind j said) = sp_n sg := by unfold sp_n; rw [sp_sayU_j (by decide)]
  have hth : ∀ s v, sp_th (sp_sayU sg kind j said) s v ↔ sp_th sg s v := fun s v => by unfold sp_th; rw [sp_sayU_j (by decide)]
  refine ⟨?_, ?_, ?_, ?_, ?_, ?_, ?_, fun s q hs hq => ?_, fun y hy => ?_, ?_⟩
  · unfold sp_I1; rw [hn, sp_sayU_j (by decide)]; exact hI.i1
  · unfold sp_I2; rw [hn, sp_sayU_j (by decide)]; simp only [hth]; exact hI.i2
  · unfold sp_I3; rw [hn, sp_sayU_j (by decide), sp_sayU_j (by decide)]; simp only [hth]; exact hI.i3
  · unfold sp_I4; rw [sp_sayU_j (j := j) (i := 2) (by decide), sp_sayU_j (j := j) (i := 11) (by decide)]
    refine ⟨hI.i4.1, hI.i4.2.1, fun y hy => ?_⟩
    by_cases z : y = j
    · subst z
      unfold sp_sayU
      split
      · rw [mm_up_j (by decide), mm_up_s]; exact Or.inr rfl
      · split
        · rw [mm_up_j (by decide)]; exact hI.i4.2.2 y hy
        · rw [mm_up_j (by decide), mm_up_j (by decide)]; exact hI.i4.2.2 y hy
    · rw [sp_sayU_x z (by decide)]; exact hI.i4.2.2 y hy
  · unfold sp_I5; rw [sp_sayU_j (by decide), sp_sayU_j (by decide)]; exact hI.i5
  · unfold sp_I6; rw [sp_sayU_j (by decide), sp_sayU_j (by decide), sp_sayU_j (by decide), sp_sayU_j (by decide)]; exact hI.i6
  · unfold sp_I7; rw [hn, sp_sayU_j (by decide)]; simp only [hth]; exact hI.i7
  · rw [hn, sp_sayU_j (i := 13) (by decide), sp_sayU_j (i := 14) (by decide)]
    simp only [hth]
    rcases hI.i9 s q hs hq with ⟨h1, h2⟩ | h
    · refine Or.inl ⟨h1, fun t ht => ?_⟩
      have hne : 5 * (12 * s + q) + t ≠ j := fun z => h0 (by rw [← z, show (5 * (12 * s + q) + t) / 5 = 12 * s + q by omega]; exact h1)
      rw [sp_sayU_x hne (by decide), sp_sayU_x hne (by decide), sp_sayU_x hne (by decide)]
      exact h2 t ht
    · exact Or.inr h
  · obtain ⟨a1, ⟨r, r1, r2⟩, ⟨w, w1, w2⟩, a4⟩ := hI.i12 y hy
    by_cases z : y = j
    · subst z
      rcases hok with ⟨hs, rfl | rfl | ⟨rfl, m, m1, m2⟩⟩
      · unfold sp_sayU
        rw [if_pos rfl, mm_up_s, mm_up_j (by decide), mm_up_j (by decide), mm_up_j (by decide), mm_up_j (by decide), mm_up_j (by decide), mm_up_j (by decide)]
        exact ⟨sp_isSaid_0 hs, ⟨r, r1, r2⟩, ⟨w, w1, w2⟩, a4⟩
      · obtain ⟨b, b1, rfl⟩ := sp_isSaid_1 hs
        unfold sp_sayU
        rw [if_neg (by decide), if_pos rfl, mm_up_s, mm_up_j (by decide), mm_up_j (by decide), mm_up_j (by decide)]
        obtain ⟨x1, x2⟩ := sl_xorB r r1 b b1
        exact ⟨a1, ⟨_, x2, by rw [r2, x1]⟩, ⟨w, w1, w2⟩, a4⟩
      · obtain ⟨b, b1, rfl⟩ := sp_isSaid_2 hs
        unfold sp_sayU
        rw [if_neg (by decide), if_neg (by decide), mm_up_s, mm_up_j (by decide), mm_up_j (by decide), mm_up_j (by decide), mm_up_j (by decide), mm_up_j (by decide)]
        refine ⟨a1, ⟨r, r1, r2⟩, ⟨m + 1, by omega, by rw [m2, nI_1]⟩, fun i hi => ?_⟩
        by_cases x : i = m
        · rw [m2, show nN (nI m) = m from nI_clamp (by omega), x, mm_up_s]
          exact ⟨b, b1, rfl⟩
        · rw [m2, show nN (nI m) = m from nI_clamp (by omega), mm_up_x (by omega)]
          exact a4 i hi
    · rw [sp_sayU_x z (by decide), sp_sayU_x z (by decide), sp_sayU_x z (by decide)]
      refine ⟨a1, ⟨r, r1, r2⟩, ⟨w, w1, w2⟩, fun i hi => ?_⟩
      obtain ⟨-, -, ⟨m, m1, m2⟩, -⟩ := hI.i12 j hj
      rcases hok with ⟨hs, rfl | rfl | ⟨rfl, m', m1', m2'⟩⟩
      · unfold sp_sayU
        rw [if_pos rfl, mm_up_j (by decide), mm_up_j (by decide)]
        exact a4 i hi
      · unfold sp_sayU
        rw [if_neg (by decide), if_pos rfl, mm_up_j (by decide)]
        exact a4 i hi
      · rw [sp_sayU_21 (by rw [m2', show nN (nI m') = m' from nI_clamp (by omega)]; omega)]
        exact a4 i hi
  · unfold sp_I13; rw [sp_sayU_j (by decide)]; exact hI.i13
theorem sp_J.say (hJ : sp_J sg) : sp_J (sp_sayU sg kind j said) := by
  have hn : sp_n (sp_sayU sg kind j said) = sp_n sg := by unfold sp_n; rw [sp_sayU_j (by decide)]
  unfold sp_J
  rw [hn, sp_sayU_j (i := 2) (by decide), sp_sayU_j (i := 13) (by decide), sp_sayU_j (i := 16) (by decide), sp_sayU_j (i := 10) (by decide), sp_sayU_j (i := 11) (by decide)]
  exact hJ
theorem sl_3a (a b c d : Int32) : a + b + (c + d) = a + b + c + d := (Int32.add_assoc _ _ _).symm
/-- what is said takes so much more -/
theorem sp_tk_say (hI : sp_I sg) (hj : j < 240) (hok : sp_okS sg kind j said) : sp_tk (sp_sayU sg kind j said) j = sp_tk sg j + sp_more sg kind j said := by
  rcases hok with ⟨hs, rfl | rfl | ⟨rfl, m, m1, m2⟩⟩
  · have eU : sp_sayU sg 0 j said = mm_up (mm_up sg 17 j 1) 18 j said := if_pos rfl
    have eM : sp_more sg 0 j said = if sg 17 j = 0 then 1 else 0 := if_pos rfl
    rw [eU, eM]
    unfold sp_tk
    rw [mm_up_j (j' := 17) (by decide), mm_up_s, mm_up_j (j' := 19) (by decide), mm_up_j (j' := 19) (by decide), mm_up_j (j' := 20) (by decide), mm_up_j (j' := 20) (by decide), if_neg (show ¬ (1 : Int32) = 0 by decide)]
    by_cases z : sg 17 j = 0
    · rw [if_pos z, if_pos z, Int32.zero_add, Int32.add_comm 1, Int32.add_assoc, Int32.add_assoc, Int32.add_comm 1]
    · rw [if_neg z, if_neg z, Int32.add_zero]
  · have eU : sp_sayU sg 1 j said = mm_up sg 19 j (sg 19 j ^^^ (1 <<< (said &&& 31))) := by unfold sp_sayU; rw [if_neg (by decide), if_pos rfl]
    have eM : sp_more sg 1 j said = (if sg 19 j ^^^ (1 <<< (said &&& 31)) = 0 then 0 else 1) - (if sg 19 j = 0 then 0 else 1) := by unfold sp_more; rw [if_neg (by decide), if_pos rfl]
    rw [eU, eM]
    unfold sp_tk
    rw [mm_up_s, mm_up_j (j' := 17) (by decide), mm_up_j (j' := 20) (by decide)]
    rw [Int32.add_assoc _ (sg 20 j), Int32.add_comm (sg 20 j), ← Int32.add_assoc, Int32.add_assoc _ (if sg 19 j = 0 then 0 else 1), sl_acs]
  · have eU : sp_sayU sg 2 j said = mm_up (mm_up sg 21 (12 * j + nN (sg 20 j)) said) 20 j (sg 20 j + 1) := by unfold sp_sayU; rw [if_neg (by decide), if_neg (by decide)]
    have eM : sp_more sg 2 j said = 1 := by
      unfold sp_more
      rw [if_neg (by decide), if_neg (by decide), m2]
      exact if_neg (fun z => by have := (nI_eq (b := 12) (by omega) (by decide)).mp z; omega)
    rw [eU, eM]
    unfold sp_tk
    rw [mm_up_s, mm_up_j (j' := 17) (by decide), mm_up_j (j' := 17) (by decide), mm_up_j (j' := 19) (by decide), mm_up_j (j' := 19) (by decide), ← Int32.add_assoc]
theorem sp_taken_say (hI : sp_I sg) {k t : Nat} (hk : k < 48) (ht : t < 5) (hok : sp_okS sg kind (5 * k + t) said) : sp_taken (sp_sayU sg kind (5 * k + t) said) k = sp_taken sg k + sp_more sg kind (5 * k + t) said := by
  unfold sp_taken
  rw [sp_is_one (f := fun t => sp_tk sg (5 * k + t)) (f' := fun t' => sp_tk (sp_sayU sg kind (5 * k + t) said) (5 * k + t')) (e := t) (fun t' ht' => by
    unfold sp_tk
    rw [sp_sayU_x (by omega) (by decide), sp_sayU_x (by omega) (by decide), sp_sayU_x (by omega) (by decide)]) 5 ht]
  rw [sp_tk_say hI (by omega) hok, Int32.add_comm (sp_tk sg (5 * k + t)), Int32.add_sub_cancel]
theorem sp_used_say (hI : sp_I sg) {k t : Nat} (hk : k < 48) (ht : t < 5) (hok : sp_okS sg kind (5 * k + t) said) (g : Int32) : sp_used (sp_sayU sg kind (5 * k + t) said) g = sp_used sg g + (if nI (k % 12 / 3) = g then sp_more sg kind (5 * k + t) said else 0) := by
  unfold sp_used
  rw [sp_is_congr (f := sp_usE (sp_sayU sg kind (5 * k + t) said) g) (g := sp_usE sg g) 320 (fun y _ => by
    unfold sp_usE sp_cost
    rw [sp_sayU_j (i := 2) (by decide), sp_sayU_j (i := 4) (by decide), sp_sayU_j (i := 6) (by decide), sp_sayU_j (i := 8) (by decide)])]
  rw [sp_is_one (f := sp_usA sg g) (f' := sp_usA (sp_sayU sg kind (5 * k + t) said) g) (e := k) (fun y hy => by
    unfold sp_usA sp_taken
    rw [sp_is_congr (f := fun t' => sp_tk (sp_sayU sg kind (5 * k + t) said) (5 * y + t')) (g := fun t' => sp_tk sg (5 * y + t')) 5 (fun t' ht' => by
      unfold sp_tk
      rw [sp_sayU_x (by omega) (by decide), sp_sayU_x (by omega) (by decide), sp_sayU_x (by omega) (by decide)])]) 48 hk, ← Int32.add_assoc]
  congr 1
  unfold sp_usA
  by_cases z : nI (k % 12 / 3) = g
  · rw [if_pos z, if_pos z, if_pos z, sp_taken_say hI hk ht hok, Int32.add_comm, Int32.add_sub_cancel]
  · rw [if_neg z, if_neg z, if_neg z, Int32.sub_self]
theorem cr_ok_say {ta ta1 ta' : mm_S} (hI : sp_I sg) (hok : cr_ok sg ta) {k t : Nat} (hk : k < 48) (ht : t < 5) (h1 : sg 13 k = 1) (hs : sp_okS sg kind (5 * k + t) said) (ho : cr_o2 (sp_sayU sg kind (5 * k + t) said) ta1) (e1 : ∀ i, i ≠ 8 → i ≠ 4 → ta1 i = ta i)
    (e2 : ta' = mm_up ta1 0 (k % 12 / 3) (ta1 0 (k % 12 / 3) + sp_more sg kind (5 * k + t) said)) : cr_ok (sp_sayU sg kind (5 * k + t) said) ta' := by
  subst e2
  have loc : ∀ k', k' ≠ k → sp_loc sg (sp_sayU sg kind (5 * k + t) said) k' := fun k' hk' => ⟨sp_sayU_j (by decide), sp_sayU_j (by decide), sp_sayU_j (by decide), sp_sayU_j (by decide), sp_sayU_j (by decide), by rw [sp_sayU_j (by decide)], fun t' ht' => by
    obtain ⟨-, -, ⟨w, w1, w2⟩, -⟩ := hI.i12 (5 * k + t) (by omega)
    refine ⟨sp_sayU_x (by omega) (by decide), sp_sayU_x (by omega) (by decide), sp_sayU_x (by omega) (by decide), sp_sayU_x (by omega) (by decide), fun i hi => ?_⟩
    rcases hs with ⟨-, rfl | rfl | ⟨rfl, m, m1, m2⟩⟩
    · unfold sp_sayU
      rw [if_pos rfl, mm_up_j (by decide), mm_up_j (by decide)]
    · unfold sp_sayU
      rw [if_neg (by decide), if_pos rfl, mm_up_j (by decide)]
    · exact sp_sayU_21 (by rw [m2, show nN (nI m) = m from nI_clamp (by omega)]; omega)⟩
  refine ⟨fun g hg => ?_, fun k' hk' h2 => ?_, fun k' hk' h0 => ?_, ?_⟩
  · rw [sp_used_say hI hk ht hs, ← hok.1 g hg]
    by_cases z : g = k % 12 / 3
    · rw [z, mm_up_s, if_pos rfl, e1 0 (by decide) (by decide)]
    · rw [mm_up_x z, if_neg (fun w => z ((nI_eq (by omega) (by omega)).mp w).symm), Int32.add_zero, e1 0 (by decide) (by decide)]
  · rw [sp_sayU_j (by decide)] at h2
    have z : k' ≠ k := fun z => by rw [z, h1] at h2; exact absurd h2 (by decide)
    rw [mm_up_j (by decide), e1 1 (by decide) (by decide), sp_due_loc hI hk' (loc k' z)]
    exact hok.2.1 k' hk' h2
  · rw [sp_sayU_j (by decide)] at h0
    refine cr_K.ok ?_
    have hK : cr_K (mm_up ta1 0 (k % 12 / 3) (ta1 0 (k % 12 / 3) + sp_more sg kind (5 * k + t) said)) k' (sp_prs sg k') := (hok.K hk' h0).congr (by rw [mm_up_j (by decide), e1 2 (by decide) (by decide)]) (fun i _ => by rw [mm_up_j (by decide), e1 3 (by decide) (by decide)])
    by_cases z : k' = k
    · rw [sp_prs_n2 (by rw [sp_sayU_j (by decide), z, h1]; decide), ← sp_prs_n2 (sg := sg) (k := k') (by rw [z, h1]; decide)]
      exact hK
    · rw [sp_prs_loc hI hk' (loc k' z) (by rw [sp_sayU_j (by decide)]) (by rw [sp_sayU_j (by decide)])]
      exact hK
  · exact ho.congr (mm_up_j (by decide)) (mm_up_j (by decide))
end SAYP
theorem sb_gro_more {sg : mm_S} {kind said : Int32} {j : Nat} (h : kind = 0 ∨ kind = 1 ∨ (kind = 2 ∧ ¬ sg 20 j = 12)) : sb_gro kind said (sg 17 j) (sg 19 j) = sp_more sg kind j said := by
  unfold sb_gro sp_more
  rcases h with rfl | rfl | ⟨rfl, h⟩
  · rfl
  · rfl
  · rw [if_neg (by decide), if_neg (by decide), if_neg (by decide), if_neg (by decide), if_neg h]
set_option maxHeartbeats 4000000 in
set_option maxRecDepth 100000 in
theorem c_X2_add (cA : Nat → ClassId) {sg ta : mm_S} {ad : Nat → Nat → Nat} {M0 M : hm_M} (hR : cr_R cA sg ta ad M0 M) (ho : cr_o2 sg ta) (j : Nat) (hK : cr_isK sg (j / 5) = true) (hj : j < 240) (kind said : Int32) (hok : sp_okS sg kind j said) : hm_Met cA yX2_add cX2_add 3 none r_X2_add [.ref (ad 19 j), .int kind, .int said] M (fun v' M' => v' = none ∧ ∃ ta' : mm_S, cr_R cA (sp_sayU sg kind j said) ta' ad M0 M' ∧ cr_o2 (sp_sayU sg kind j said) ta' ∧ ∀ i, i ≠ 8 → i ≠ 4 → ta' i = ta i) := by
  refine hm_met 0 (by decide +kernel) (fun w h => by simp only [List.mem_cons, List.not_mem_nil, or_false] at h; rcases h with rfl | rfl | rfl <;> rfl) rfl (fun C X => ?_)
  show hm_W C 0 0 _ M 0 [some (.ref (ad 19 j)), some (.int kind), some (.int said)] []
  refine hr_iload_n X dX2_add_0 rfl ?_
  refine hr_if_ne 17 X dX2_add_1 (by decide) (fun c1 => ?_) (fun c1 => ?_)
  · refine hr_iload_n X dX2_add_17 rfl ?_
    refine hr_iconst (1) X dX2_add_18 (by decide) ?_
    refine hr_icmp_ne 37 X dX2_add_19 (by decide) (fun c19 => ?_) (fun c19 => ?_)
    · obtain ⟨hk, w, hw12, hw⟩ : kind = 2 ∧ ∃ w, w < 12 ∧ sg 20 j = nI w := by
        rcases hok.2 with z | z | z
        · exact absurd z c1
        · exact absurd z c19
        · exact z
      have eU : (sp_sayU sg kind j said) = mm_up (mm_up sg 21 (12 * j + w) said) 20 j (sg 20 j + 1) := by unfold sp_sayU; rw [if_neg c1, if_neg c19, hw, show nN (nI w) = w from nI_clamp (by omega)]
      rw [eU]
      refine hr_aload_n X dX2_add_37 rfl (Or.inr ⟨_, rfl⟩) ?_
      refine hr_get X kF2_26 dX2_add_38 (hR.c19 hK) rfl ?_
      refine hr_bipush (12) X dX2_add_41 (by decide) ?_
      refine hr_icmp_ge 66 X dX2_add_43 (by decide) (fun c43 => ?_) (fun c43 => ?_)
      · exact absurd c43 (fun z => by rw [hw] at z; have := (nI_leI (a := 12) (by decide) (by omega)).mp z; omega)
      · refine hr_aload_n X dX2_add_46 rfl (Or.inr ⟨_, rfl⟩) ?_
        refine hr_get X kF2_22 dX2_add_47 (hR.c19 hK) rfl ?_
        refine hr_aload_n X dX2_add_50 rfl (Or.inr ⟨_, rfl⟩) ?_
        refine hr_get X kF2_26 dX2_add_51 (hR.c19 hK) rfl ?_
        refine hr_iload_n X dX2_add_54 rfl ?_
        refine hr_iast X dX2_add_55 (hR.c20 hK) (mm_in hw (by omega) (by decide)).1 ?_
        rw [show (sg 20 j).toNatClampNeg = w by rw [hw]; exact nI_clamp (by omega)]
        refine hr_w20 hR hK hw12 (fun M55 hR => ?_)
        refine hr_aload_n X dX2_add_56 rfl (Or.inr ⟨_, rfl⟩) ?_
        refine hr_dup X dX2_add_57 rfl ?_
        refine hr_get X kF2_26 dX2_add_58 (hR.c19 hK) rfl ?_
        refine hr_iconst (1) X dX2_add_61 (by decide) ?_
        refine hr_iadd X dX2_add_62 ?_
        refine hr_put X kF2_26 dX2_add_63 (hR.c19 hK) rfl rfl (Nat.le_of_ble_eq_true rfl) ?_
        refine hr_w19 hR hK (sg' := mm_up (mm_up sg 21 (12 * j + w) said) 20 j (sg 20 j + 1)) (ta' := mm_up ta 4 (12 * j + w) said) (fun i hi => by rw [mm_up_j (by omega), mm_up_j (by omega)]) (fun z hz => ⟨by rw [mm_up_j (by decide), mm_up_j (by decide)], by rw [mm_up_j (by decide), mm_up_j (by decide)], by rw [mm_up_x hz, mm_up_j (by decide)]⟩) (fun _ _ => rfl) (fun _ _ => rfl) (by rw [mm_up_s (j := 20), mm_up_j (j' := 17) (j := 20) (by decide), mm_up_j (j' := 17) (j := 21) (by decide), mm_up_j (j' := 19) (j := 20) (by decide), mm_up_j (j' := 19) (j := 21) (by decide)]; rfl) (fun M63 hR => ?_)
        have ho2 : cr_o2 (mm_up (mm_up sg 21 (12 * j + w) said) 20 j (sg 20 j + 1)) (mm_up ta 4 (12 * j + w) said) := by
          refine ⟨fun z hz h => ?_, fun z i hz hi h => ?_⟩
          · rw [mm_up_j (j' := 17) (by decide), mm_up_j (j' := 17) (by decide)] at h
            rw [mm_up_j (j' := 8) (by decide), mm_up_j (j' := 18) (by decide), mm_up_j (j' := 18) (by decide)]
            exact ho.1 z hz h
          · rw [mm_up_j (j' := 21) (j := 20) (by decide)]
            by_cases y : 12 * z + i = 12 * j + w
            · rw [y, mm_up_s, mm_up_s]
            · rw [mm_up_x y, mm_up_x y]
              refine ho.2 z i hz hi ?_
              by_cases x : z = j
              · rw [x, mm_up_s, hw, nI_1] at h
                rw [x, hw]
                have := (nI_ltI (by omega) (by omega)).mp h
                exact nI_lt (by omega) (by omega)
              · rw [mm_up_x x, mm_up_j (by decide)] at h
                exact h
        have hfr : ∀ i, i ≠ 8 → i ≠ 4 → mm_up ta 4 (12 * j + w) said i = ta i := fun i _ h4 => mm_up_j h4
        exact hr_vret X dX2_add_66 (Nat.le_of_ble_eq_true rfl) (Nat.le_of_ble_eq_true rfl) ⟨rfl, _, hR, ho2, hfr⟩
    · have hk : kind = 1 := c19
      have eU : (sp_sayU sg kind j said) = mm_up sg 19 j (sg 19 j ^^^ (1 <<< (said &&& 31))) := by unfold sp_sayU; rw [if_neg c1, if_pos hk]
      rw [eU]
      refine hr_aload_n X dX2_add_22 rfl (Or.inr ⟨_, rfl⟩) ?_
      refine hr_dup X dX2_add_23 rfl ?_
      refine hr_get X kF2_19 dX2_add_24 (hR.c19 hK) rfl ?_
      refine hr_iconst (1) X dX2_add_27 (by decide) ?_
      refine hr_iload_n X dX2_add_28 rfl ?_
      refine hr_ishl X dX2_add_29 ?_
      refine hr_ixor X dX2_add_30 ?_
      refine hr_put X kF2_19 dX2_add_31 (hR.c19 hK) rfl rfl (Nat.le_of_ble_eq_true rfl) ?_
      refine hr_w19 hR hK (sg' := mm_up sg 19 j (sg 19 j ^^^ (1 <<< (said &&& 31)))) (ta' := ta) (fun i hi => mm_up_j (by omega)) (fun z hz => ⟨mm_up_xj hz, mm_up_xj hz, mm_up_xj hz⟩) (fun _ _ => rfl) (fun _ _ => rfl) (by rw [mm_up_s, mm_up_j (j' := 17) (by decide), mm_up_j (j' := 20) (by decide)]; rfl) (fun M31 hR => ?_)
      have ho2 : cr_o2 (mm_up sg 19 j (sg 19 j ^^^ (1 <<< (said &&& 31)))) ta := by
        unfold cr_o2
        rw [mm_up_j (j' := 17) (by decide), mm_up_j (j' := 18) (by decide), mm_up_j (j' := 20) (by decide), mm_up_j (j' := 21) (by decide)]
        exact ho
      have hfr : ∀ i, i ≠ 8 → i ≠ 4 → ta i = ta i := fun _ _ _ => rfl
      refine hr_goto 66 X dX2_add_34 (by decide) ?_
      exact hr_vret X dX2_add_66 (Nat.le_of_ble_eq_true rfl) (Nat.le_of_ble_eq_true rfl) ⟨rfl, _, hR, ho2, hfr⟩
  · have hk : kind = 0 := c1
    have eU : (sp_sayU sg kind j said) = mm_up (mm_up sg 17 j 1) 18 j said := by unfold sp_sayU; rw [if_pos hk]
    rw [eU]
    refine hr_aload_n X dX2_add_4 rfl (Or.inr ⟨_, rfl⟩) ?_
    refine hr_iconst (1) X dX2_add_5 (by decide) ?_
    refine hr_put X kF2_9 dX2_add_6 (hR.c19 hK) rfl rfl (Nat.le_of_ble_eq_true rfl) ?_
    refine hr_w19 hR hK (sg' := mm_up sg 17 j 1) (ta' := ta) (fun i hi => mm_up_j (by omega)) (fun z hz => ⟨mm_up_xj hz, mm_up_xj hz, mm_up_xj hz⟩) (fun _ _ => rfl) (fun _ _ => rfl) (by rw [mm_up_s, mm_up_j (j' := 19) (by decide), mm_up_j (j' := 20) (by decide)]; rfl) (fun M6 hR => ?_)
    have hK1 : cr_isK (mm_up sg 17 j 1) (j / 5) = true := by rw [cr_sm_K (sg := sg) (by rw [mm_up_j (by decide)]) _ (by rw [mm_up_j (by decide)])]; exact hK
    refine hr_aload_n X dX2_add_9 rfl (Or.inr ⟨_, rfl⟩) ?_
    refine hr_iload_n X dX2_add_10 rfl ?_
    refine hr_put X kF2_15 dX2_add_11 (hR.c19 hK1) rfl rfl (Nat.le_of_ble_eq_true rfl) ?_
    refine hr_w19 hR hK1 (sg' := mm_up (mm_up sg 17 j 1) 18 j said) (ta' := mm_up ta 8 j said) (fun i hi => mm_up_j (by omega)) (fun z hz => ⟨mm_up_xj hz, mm_up_xj hz, mm_up_xj hz⟩) (fun i hi => mm_up_j hi) (fun z hz => mm_up_xj hz) (by rw [mm_up_s (sg := ta), mm_up_j (j' := 17) (j := 18) (by decide), mm_up_j (j' := 19) (j := 18) (by decide), mm_up_j (j' := 20) (j := 18) (by decide)]; rfl) (fun M11 hR => ?_)
    have ho2 : cr_o2 (mm_up (mm_up sg 17 j 1) 18 j said) (mm_up ta 8 j said) := by
      refine ⟨fun z hz h => ?_, fun z i hz hi h => ?_⟩
      · by_cases y : z = j
        · rw [y, mm_up_s, mm_up_s]
        · rw [mm_up_xj y, mm_up_xj y, mm_up_xj y]
          rw [mm_up_xj y, mm_up_xj y] at h
          exact ho.1 z hz h
      · rw [mm_up_j (by decide), mm_up_j (j' := 21) (by decide), mm_up_j (j' := 21) (by decide)]
        rw [mm_up_j (j' := 20) (by decide), mm_up_j (j' := 20) (by decide)] at h
        exact ho.2 z i hz hi h
    have hfr : ∀ i, i ≠ 8 → i ≠ 4 → mm_up ta 8 j said i = ta i := fun i h8 _ => mm_up_j h8
    refine hr_goto 66 X dX2_add_14 (by decide) ?_
    exact hr_vret X dX2_add_66 (Nat.le_of_ble_eq_true rfl) (Nat.le_of_ble_eq_true rfl) ⟨rfl, _, hR, ho2, hfr⟩
set_option maxHeartbeats 4000000 in
set_option maxRecDepth 100000 in
theorem c_X5_openAnswer (cA : Nat → ClassId) {sg ta : mm_S} {ad : Nat → Nat → Nat} {M0 M : hm_M} (hR : cr_R cA sg ta ad M0 M) (hI : sp_I sg) (a p : Nat) (hs : cr_isS sg a = true) (hp : p < 12) : hm_XMet cA yX5_openAnswer cX5_openAnswer 3 (some (.object "SheetVault$Answer")) r_X5_openAnswer [.ref (ad 8 a), .int (nI p)] M (fun v' M' => sg 13 (12 * a + p) = 1 ∧ v' = some (.ref (ad 16 (12 * a + p))) ∧ M = M') (fun E M' => ¬ sg 13 (12 * a + p) = 1 ∧ E = "java/lang/IllegalStateException" ∧ M = M') := by
  refine hm_xmet 1 (by decide +kernel) (fun w h => by simp only [List.mem_cons, List.not_mem_nil, or_false] at h; rcases h with rfl | rfl <;> rfl) rfl (fun C X XE => ?_)
  show hm_W C 0 0 _ M 0 [some (.ref (ad 8 a)), some (.int (nI p)), none] []
  obtain ⟨ha1, ha4⟩ := cr_isS_4 hI hs
  refine hr_aload_n X dX5_openAnswer_0 rfl (Or.inr ⟨_, rfl⟩) ?_
  refine hr_get X kF5_160 dX5_openAnswer_1 (hR.c8 hs) rfl ?_
  refine hr_iload_n X dX5_openAnswer_4 rfl ?_
  refine hr_aald 6 X rfl dX5_openAnswer_5 (hR.c12 hs) (mm_in rfl (by omega) (by decide)).1 ?_
  rw [nI_clamp (by omega)]
  refine hr_astore_n X dX5_openAnswer_6 (Nat.le_of_ble_eq_true rfl) (hm_rf _) ?_
  refine hr_aload_n X dX5_openAnswer_7 rfl (hm_rf _) ?_
  refine hr_ifnull 18 X dX5_openAnswer_8 (by decide) (fun c8 => ?_) (fun a8 c8 => ?_)
  · have h0 : sg 13 (12 * a + p) = 0 := by
      by_cases q : sg 13 (12 * a + p) = 0
      · exact q
      · rw [if_neg q] at c8; cases c8
    have hno : ¬ sg 13 (12 * a + p) = 1 := by rw [h0]; decide
    exact hr_throwW X XE kT5_37_291_41 dX5_openAnswer_18 dX5_openAnswer_21 dX5_openAnswer_22 dX5_openAnswer_25 dX5_openAnswer_28 rfl ⟨(Nat.le_of_ble_eq_true rfl), (Nat.le_of_ble_eq_true rfl), (Nat.le_of_ble_eq_true rfl), (Nat.le_of_ble_eq_true rfl)⟩ (Nat.le_of_ble_eq_true rfl) (Nat.le_of_ble_eq_true rfl) ⟨hno, rfl, rfl⟩
  · have h0 : ¬ sg 13 (12 * a + p) = 0 := fun q => by rw [if_pos q] at c8; cases c8
    have hK := cr_isK_at ha1 hp h0
    rw [if_neg h0]
    refine hr_aload_n X dX5_openAnswer_11 rfl (hm_rf _) ?_
    refine hr_get X kF5_208 dX5_openAnswer_12 (hR.c16 hK) rfl ?_
    refine hr_if_eq 29 X dX5_openAnswer_15 (by decide) (fun c15 => ?_) (fun c15 => ?_)
    · have h1 : sg 13 (12 * a + p) = 1 := by
        rcases hI.i9 a p ha4 hp with ⟨z, -⟩ | ⟨z | z, -⟩
        · exact absurd z h0
        · exact z
        · rw [if_pos z] at c15; cases c15
      refine hr_aload_n X dX5_openAnswer_29 rfl (hm_rf _) ?_
      exact hr_aretX X dX5_openAnswer_30 (hm_rf _) (Nat.le_of_ble_eq_true rfl) (Nat.le_of_ble_eq_true rfl) ⟨h1, rfl, rfl⟩
    · have hno : ¬ sg 13 (12 * a + p) = 1 := fun z => by rw [if_neg (by rw [z]; decide)] at c15; exact c15 rfl
      exact hr_throwW X XE kT5_37_291_41 dX5_openAnswer_18 dX5_openAnswer_21 dX5_openAnswer_22 dX5_openAnswer_25 dX5_openAnswer_28 rfl ⟨(Nat.le_of_ble_eq_true rfl), (Nat.le_of_ble_eq_true rfl), (Nat.le_of_ble_eq_true rfl), (Nat.le_of_ble_eq_true rfl)⟩ (Nat.le_of_ble_eq_true rfl) (Nat.le_of_ble_eq_true rfl) ⟨hno, rfl, rfl⟩
set_option maxHeartbeats 4000000 in
set_option maxRecDepth 100000 in
theorem c_X5_say (cA : Nat → ClassId) {sg ta : mm_S} {ad : Nat → Nat → Nat} {M0 M : hm_M} (hR : cr_R cA sg ta ad M0 M) (hI : sp_I sg) (hok : cr_ok sg ta) (p s t said : Int32) : hm_XMet cA yX5_say cX5_say 10 (some .int) r_X5_say [.ref (ad 0 0), .int p, .int s, .int t, .int said] M (fun v' M' => sp_thSay sg p s t said = 0 ∧ v' = some (.int (sp_taken (sp_sayN sg (nN p) (nN s) (nN t) said) (sp_k p s))) ∧ ∃ ta' : mm_S, cr_R cA (sp_sayN sg (nN p) (nN s) (nN t) said) ta' ad M0 M' ∧ cr_ok (sp_sayN sg (nN p) (nN s) (nN t) said) ta') (fun E M' => ((sp_thSay sg p s t said = 1 ∧ E = "java/lang/IndexOutOfBoundsException") ∨ (sp_thSay sg p s t said = 2 ∧ E = "java/lang/IllegalArgumentException") ∨ (sp_thSay sg p s t said = 3 ∧ E = "java/lang/IllegalStateException")) ∧ cr_R cA sg ta ad M0 M') := by
  refine hm_xmet 5 (by decide +kernel) (fun w h => by simp only [List.mem_cons, List.not_mem_nil, or_false] at h; rcases h with rfl | rfl | rfl | rfl | rfl <;> rfl) rfl (fun C X XE => ?_)
  show hm_W C 0 0 _ M 0 [some (.ref (ad 0 0)), some (.int p), some (.int s), some (.int t), some (.int said), none, none, none, none, none] []
  refine hr_iload_n X dX5_say_0 rfl ?_
  refine hr_callSX X XE kC5_153 dX5_say_1 (c_X5_checkPupil cA (M := M) p) rfl rfl rfl (Nat.le_of_ble_eq_true rfl) ⟨⟨(Nat.le_of_ble_eq_true rfl), (Nat.le_of_ble_eq_true rfl)⟩, (Nat.le_of_ble_eq_true rfl), (Nat.le_of_ble_eq_true rfl)⟩ (Nat.le_of_ble_eq_true rfl) (Nat.le_of_ble_eq_true rfl) (fun _ _ h => ⟨(Or.inl ⟨(show sp_thSay sg p s t said = 1 by unfold sp_thSay sp_trip sp_both; rw [h.1]; rfl), h.2.1⟩), (h.2.2 ▸ hR)⟩) (fun v M1 hp1 => ?_)
  obtain ⟨h1, rfl, rfl⟩ := hp1
  obtain ⟨p, hp, rfl⟩ := sp_in_p h1
  refine hr_aload_n X dX5_say_4 rfl (Or.inr ⟨_, rfl⟩) ?_
  refine hr_iload_n X dX5_say_5 rfl ?_
  refine hr_callVX X XE kC5_49 dX5_say_6 (c_X5_sheetAt cA hR hI s) hR.c0 rfl rfl rfl rfl (Nat.le_of_ble_eq_true rfl) ⟨⟨(Nat.le_of_ble_eq_true rfl), (Nat.le_of_ble_eq_true rfl)⟩, (Nat.le_of_ble_eq_true rfl), (Nat.le_of_ble_eq_true rfl)⟩ (Nat.le_of_ble_eq_true rfl) (Nat.le_of_ble_eq_true rfl) (fun _ _ h => ⟨(Or.inl ⟨(show sp_thSay sg (nI p) s t said = 1 by unfold sp_thSay sp_trip sp_both; rw [h.1, Bool.and_false]; rfl), h.2.1⟩), (h.2.2 ▸ hR)⟩) (fun v M6 hp6 => ?_)
  obtain ⟨⟨a, ha, hs, rfl, rfl⟩, rfl⟩ := hp6
  obtain ⟨ha1, ha4⟩ := cr_isS_4 hI hs
  have hS1 : sp_isS sg (nI a) = true := by rw [← cr_isS_nat hI ha]; exact hs
  refine hr_astore X dX5_say_9 (Nat.le_of_ble_eq_true rfl) (Or.inr ⟨_, rfl⟩) ?_
  refine hr_iload_n X dX5_say_11 rfl ?_
  refine hr_callSX X XE kC5_53 dX5_say_12 (c_X5_checkTask cA (M := M) t) rfl rfl rfl (Nat.le_of_ble_eq_true rfl) ⟨⟨(Nat.le_of_ble_eq_true rfl), (Nat.le_of_ble_eq_true rfl)⟩, (Nat.le_of_ble_eq_true rfl), (Nat.le_of_ble_eq_true rfl)⟩ (Nat.le_of_ble_eq_true rfl) (Nat.le_of_ble_eq_true rfl) (fun _ _ h => ⟨(Or.inl ⟨(show sp_thSay sg (nI p) (nI a) t said = 1 by unfold sp_thSay sp_trip; rw [h.1, Bool.and_false]; rfl), h.2.1⟩), (h.2.2 ▸ hR)⟩) (fun v M12 hp12 => ?_)
  obtain ⟨h12, rfl, rfl⟩ := hp12
  obtain ⟨t, ht, rfl⟩ := sp_in_t5 h12
  have hT : sp_trip sg (nI p) (nI a) (nI t) = true := sb_andT (sb_andT h1 hS1) h12
  have en : nN (nI a) = a := nI_clamp (by omega)
  have en2 : nN (nI p) = p := nI_clamp (by omega)
  have en3 : nN (nI t) = t := nI_clamp (by omega)
  refine hr_aload X dX5_say_15 rfl (Or.inr ⟨_, rfl⟩) ?_
  refine hr_iload_n X dX5_say_17 rfl ?_
  refine hr_callSX X XE kC5_176 dX5_say_18 (c_X5_openAnswer cA hR hI a p hs hp) rfl rfl rfl (Nat.le_of_ble_eq_true rfl) ⟨⟨(Nat.le_of_ble_eq_true rfl), (Nat.le_of_ble_eq_true rfl)⟩, (Nat.le_of_ble_eq_true rfl), (Nat.le_of_ble_eq_true rfl)⟩ (Nat.le_of_ble_eq_true rfl) (Nat.le_of_ble_eq_true rfl) (fun _ _ h => ⟨(Or.inr (Or.inr ⟨(show sp_thSay sg (nI p) (nI a) (nI t) said = 3 by unfold sp_thSay sp_thSayN sp_ent; rw [hT, en, en2, en3, if_pos rfl, if_neg h.1]), h.2.1⟩)), (h.2.2 ▸ hR)⟩) (fun v M18 hp18 => ?_)
  obtain ⟨h13, rfl, rfl⟩ := hp18
  obtain ⟨-, v, hv, hvt⟩ := sp_handed hI (k := (12 * a + p)) (by omega) (by rw [h13]; decide)
  rw [show (12 * a + p) / 12 = a by omega] at hvt
  have hv16 := hvt.1
  have hK := cr_isK_at ha1 hp (show ¬ sg 13 (12 * a + p) = 0 by rw [h13]; decide)
  have hent : sp_ent sg (12 * a + p) t = sp_has sg a v t := by unfold sp_ent; rw [if_pos h13, hv, show (12 * a + p) / 12 = a by omega, show nN (nI v) = v from nI_clamp (by omega)]
  refine hr_astore X dX5_say_21 (Nat.le_of_ble_eq_true rfl) (Or.inr ⟨_, rfl⟩) ?_
  refine hr_aload X dX5_say_23 rfl (Or.inr ⟨_, rfl⟩) ?_
  refine hr_get X kF5_180 dX5_say_25 (hR.c16 hK) rfl ?_
  rw [hv, show (12 * a + p) / 12 = a by omega, show nN (nI v) = v from nI_clamp (by omega)]
  refine hr_iload_n X dX5_say_28 rfl ?_
  refine hr_callS X kC5_80 dX5_say_29 (c_X5_taskOf cA hR hI a v t ha1 hvt ht) rfl rfl rfl (Nat.le_of_ble_eq_true rfl) ⟨⟨(Nat.le_of_ble_eq_true rfl), (Nat.le_of_ble_eq_true rfl)⟩, (Nat.le_of_ble_eq_true rfl), (Nat.le_of_ble_eq_true rfl)⟩ (fun v M29 hp => ?_)
  obtain ⟨rfl, rfl⟩ := hp
  refine hr_astore X dX5_say_32 (Nat.le_of_ble_eq_true rfl) (hm_rf _) ?_
  refine hr_aload X dX5_say_34 rfl (Or.inr ⟨_, rfl⟩) ?_
  refine hr_get X kF5_183 dX5_say_36 (hR.c16 hK) rfl ?_
  refine hr_iload_n X dX5_say_39 rfl ?_
  refine hr_aald 7 X rfl dX5_say_40 (hR.c17 hK) (mm_in rfl (by omega) (by decide)).1 ?_
  rw [nI_clamp (by omega)]
  refine hr_astore X dX5_say_41 (Nat.le_of_ble_eq_true rfl) (hm_rf _) ?_
  refine hr_aload X dX5_say_43 rfl (hm_rf _) ?_
  refine hr_ifnull 53 X dX5_say_45 (by decide) (fun c45 => ?_) (fun a45 c45 => ?_)
  · have hno : sp_thSay sg (nI p) (nI a) (nI t) said = 3 := by
      unfold sp_thSay sp_thSayN
      rw [hT, en, en2, en3, if_pos rfl, hent, show sp_has sg a v t = none from by
        cases hq : sp_has sg a v t with
        | none => rfl
        | some u => rw [hq] at c45; cases c45]
    exact hr_throw X XE kT5_37_187_41 dX5_say_53 dX5_say_56 dX5_say_57 dX5_say_59 dX5_say_62 rfl ⟨(Nat.le_of_ble_eq_true rfl), (Nat.le_of_ble_eq_true rfl), (Nat.le_of_ble_eq_true rfl), (Nat.le_of_ble_eq_true rfl)⟩ (Nat.le_of_ble_eq_true rfl) (Nat.le_of_ble_eq_true rfl) ⟨Or.inr (Or.inr ⟨hno, rfl⟩), hR⟩
  · obtain ⟨u, hu⟩ : ∃ u, sp_has sg a v t = some u := by
      cases hq : sp_has sg a v t with
      | none => rw [hq] at c45; cases c45
      | some u => exact ⟨u, rfl⟩
    obtain ⟨u1, u2, u3, u4⟩ := sp_has_some hI ha1 hvt hu
    have u16 := u1.1
    have hE := cr_isE_th ha1 u16 ht u3
    have hkd : cr_kd sg (sp_e a u t) = sg 6 (sp_e a u t) := if_neg u4
    have hk3 := sp_k012 hI ha4 u16 ht u3 u4
    have hj5 : (5 * (12 * a + p) + t) < 240 := by omega
    have hK5 : cr_isK sg ((5 * (12 * a + p) + t) / 5) = true := by rw [show (5 * (12 * a + p) + t) / 5 = 12 * a + p by omega]; exact hK
    obtain ⟨-, -, ⟨wc, hwc, hw⟩, -⟩ := hI.i12 _ hj5
    rw [hu]
    refine hr_aload X dX5_say_48 rfl (hm_rf _) ?_
    refine hr_ifnonnullR 63 X dX5_say_50 (by decide) ?_
    refine hr_aload X dX5_say_63 rfl (hm_rf _) ?_
    refine hr_get X kF5_139 dX5_say_65 (hR.c15 hE) rfl ?_
    refine hr_iload X dX5_say_68 rfl ?_
    refine hr_callSX X XE kC5_189 dX5_say_70 (c_X5_checkSaid cA (M := M) (cr_kd sg (sp_e a u t)) said) rfl rfl rfl (Nat.le_of_ble_eq_true rfl) ⟨⟨(Nat.le_of_ble_eq_true rfl), (Nat.le_of_ble_eq_true rfl)⟩, (Nat.le_of_ble_eq_true rfl), (Nat.le_of_ble_eq_true rfl)⟩ (Nat.le_of_ble_eq_true rfl) (Nat.le_of_ble_eq_true rfl) (fun _ _ h => ⟨(Or.inr (Or.inl ⟨(show sp_thSay sg (nI p) (nI a) (nI t) said = 2 by
      unfold sp_thSay sp_thSayN
      rw [hT, en, en2, en3, if_pos rfl, hent, hu]
      exact if_neg (by rw [show sp_isSaid (sg 6 (sp_e a u t)) said = false from by rw [← hkd]; exact h.1]; decide)), h.2.1⟩)), (h.2.2 ▸ hR)⟩) (fun v M70 hp70 => ?_)
    obtain ⟨h70, rfl, rfl⟩ := hp70
    have hsaid : sp_isSaid (sg 6 (sp_e a u t)) said = true := by rw [← hkd]; exact h70
    refine hr_aload X dX5_say_73 rfl (hm_rf _) ?_
    refine hr_aload X dX5_say_75 rfl (hm_rf _) ?_
    refine hr_get X kF5_139 dX5_say_77 (hR.c15 hE) rfl ?_
    refine hr_iload X dX5_say_80 rfl ?_
    refine hr_callV X kC5_192 dX5_say_82 (c_X2_growthBy cA (hR.c19 hK5) (cr_kd sg (sp_e a u t)) said) (hR.c19 hK5) rfl rfl rfl rfl (Nat.le_of_ble_eq_true rfl) ⟨⟨(Nat.le_of_ble_eq_true rfl), (Nat.le_of_ble_eq_true rfl)⟩, (Nat.le_of_ble_eq_true rfl), (Nat.le_of_ble_eq_true rfl)⟩ (fun v M82 hp => ?_)
    obtain ⟨rfl, rfl⟩ := hp
    rw [hkd]
    refine hr_istore X dX5_say_85 (Nat.le_of_ble_eq_true rfl) ?_
    refine hr_aload X dX5_say_87 rfl (hm_rf _) ?_
    refine hr_aload X dX5_say_89 rfl (hm_rf _) ?_
    refine hr_get X kF5_139 dX5_say_91 (hR.c15 hE) rfl ?_
    refine hr_callV X kC5_198 dX5_say_94 (c_X2_isFull cA (hR.c19 hK5) (cr_kd sg (sp_e a u t))) (hR.c19 hK5) rfl rfl rfl rfl (Nat.le_of_ble_eq_true rfl) ⟨⟨(Nat.le_of_ble_eq_true rfl), (Nat.le_of_ble_eq_true rfl)⟩, (Nat.le_of_ble_eq_true rfl), (Nat.le_of_ble_eq_true rfl)⟩ (fun v M94 hp => ?_)
    obtain ⟨rfl, rfl⟩ := hp
    rw [hkd]
    refine hr_if_eq 110 X dX5_say_97 (by decide) (fun c97 => ?_) (fun c97 => ?_)
    · have hfull := hm_bI_eq.mp c97
      have hkk : sg 6 (sp_e a u t) = 0 ∨ sg 6 (sp_e a u t) = 1 ∨ (sg 6 (sp_e a u t) = 2 ∧ ¬ sg 20 (5 * (12 * a + p) + t) = 12) := by
        rcases hk3 with z | z | z
        · exact Or.inl z
        · exact Or.inr (Or.inl z)
        · refine Or.inr (Or.inr ⟨z, fun y => ?_⟩)
          unfold sb_full at hfull
          rw [z, y] at hfull
          exact absurd hfull (by decide)
      have hokS : sp_okS sg (sg 6 (sp_e a u t)) (5 * (12 * a + p) + t) said := by
        refine ⟨hsaid, ?_⟩
        rcases hkk with z | z | ⟨z, y⟩
        · exact Or.inl z
        · exact Or.inr (Or.inl z)
        · refine Or.inr (Or.inr ⟨z, wc, ?_, hw⟩)
          rcases Nat.lt_or_ge wc 12 with x | x
          · exact x
          · exact absurd (by rw [hw, show wc = 12 by omega]; rfl) y
      rw [sb_gro_more hkk]
      have h99 : ¬ sp_more sg (sg 6 (sp_e a u t)) (5 * (12 * a + p) + t) said = 99 := by
        rcases hkk with z | z | ⟨z, y⟩
        · exact sp_more_99 sg _ _ _ (by rw [z]; decide) (Or.inl z)
        · exact sp_more_99 sg _ _ _ (by rw [z]; decide) (Or.inr (Or.inl z))
        · unfold sp_more; rw [z, if_neg (by decide), if_neg (by decide), if_neg y]; decide
      refine hr_aload_n X dX5_say_110 rfl (Or.inr ⟨_, rfl⟩) ?_
      refine hr_iload_n X dX5_say_111 rfl ?_
      refine hr_callS X kC5_156 dX5_say_112 (c_X5_classOf cA (M := M) (nI p)) rfl rfl rfl (Nat.le_of_ble_eq_true rfl) ⟨⟨(Nat.le_of_ble_eq_true rfl), (Nat.le_of_ble_eq_true rfl)⟩, (Nat.le_of_ble_eq_true rfl), (Nat.le_of_ble_eq_true rfl)⟩ (fun v M112 hp => ?_)
      obtain ⟨rfl, rfl⟩ := hp
      rw [mm_d3 (by omega)]
      refine hr_iload X dX5_say_115 rfl ?_
      refine hr_callV X kC5_116 dX5_say_117 (c_X5_passesQuota cA hR hI (nI (p / 3)) (sp_more sg (sg 6 (sp_e a u t)) (5 * (12 * a + p) + t) said)) hR.c0 rfl rfl rfl rfl (Nat.le_of_ble_eq_true rfl) ⟨⟨(Nat.le_of_ble_eq_true rfl), (Nat.le_of_ble_eq_true rfl)⟩, (Nat.le_of_ble_eq_true rfl), (Nat.le_of_ble_eq_true rfl)⟩ (fun v M117 hp => ?_)
      obtain ⟨rfl, rfl⟩ := hp
      rw [cr_fits hok (show p / 3 < 4 by omega)]
      refine hr_if_eq 133 X dX5_say_120 (by decide) (fun c120 => ?_) (fun c120 => ?_)
      · have hfit := sb_notF (hm_bI_eq.mp c120)
        have hz : sp_thSay sg (nI p) (nI a) (nI t) said = 0 := by
          unfold sp_thSay sp_thSayN
          rw [hT, en, en2, en3, if_pos rfl, hent, hu]
          dsimp only
          rw [if_pos hsaid]
          unfold sp_sayB
          rw [decide_eq_false h99, hfit]
          rfl
        refine hr_aload X dX5_say_133 rfl (hm_rf _) ?_
        refine hr_aload X dX5_say_135 rfl (hm_rf _) ?_
        refine hr_get X kF5_139 dX5_say_137 (hR.c15 hE) rfl ?_
        rw [hkd]
        refine hr_iload X dX5_say_140 rfl ?_
        refine hr_callV X kC5_204 dX5_say_142 (c_X2_add cA hR hok.o2 (5 * (12 * a + p) + t) hK5 hj5 (sg 6 (sp_e a u t)) said hokS) (hR.c19 hK5) rfl rfl rfl rfl (Nat.le_of_ble_eq_true rfl) ⟨⟨(Nat.le_of_ble_eq_true rfl), (Nat.le_of_ble_eq_true rfl)⟩, (Nat.le_of_ble_eq_true rfl), (Nat.le_of_ble_eq_true rfl)⟩ (fun v M142 hp142 => ?_)
        obtain ⟨rfl, ta1, hR, ho2, hfr⟩ := hp142
        have hI1 := hI.say hj5 (by rw [show (5 * (12 * a + p) + t) / 5 = 12 * a + p by omega, h13]; decide) hokS
        refine hr_aload_n X dX5_say_145 rfl (Or.inr ⟨_, rfl⟩) ?_
        refine hr_iload_n X dX5_say_146 rfl ?_
        refine hr_callS X kC5_156 dX5_say_147 (c_X5_classOf cA (M := _) (nI p)) rfl rfl rfl (Nat.le_of_ble_eq_true rfl) ⟨⟨(Nat.le_of_ble_eq_true rfl), (Nat.le_of_ble_eq_true rfl)⟩, (Nat.le_of_ble_eq_true rfl), (Nat.le_of_ble_eq_true rfl)⟩ (fun v M147 hp => ?_)
        obtain ⟨rfl, rfl⟩ := hp
        rw [mm_d3 (by omega)]
        refine hr_iload X dX5_say_150 rfl ?_
        refine hr_callV X kC5_122 dX5_say_152 (c_X5_addUse cA hR hI1 (nI (p / 3)) (sp_more sg (sg 6 (sp_e a u t)) (5 * (12 * a + p) + t) said)) hR.c0 rfl rfl rfl rfl (Nat.le_of_ble_eq_true rfl) ⟨⟨(Nat.le_of_ble_eq_true rfl), (Nat.le_of_ble_eq_true rfl)⟩, (Nat.le_of_ble_eq_true rfl), (Nat.le_of_ble_eq_true rfl)⟩ (fun v M152 hp152 => ?_)
        obtain ⟨rfl, -, hp152⟩ := hp152
        have hR := hp152 (sp_nat_in (b := 3) (by decide) (by omega))
        rw [show nN (nI (p / 3)) = p / 3 from nI_clamp (by omega)] at hR
        have hKs : cr_isK (sp_sayU sg (sg 6 (sp_e a u t)) (5 * (12 * a + p) + t) said) (12 * a + p) = true := by rw [cr_sm_K (sg := sg) (by rw [sp_sayU_j (by decide)]) _ (by rw [sp_sayU_j (by decide)])]; exact hK
        have eN : sp_sayN sg p a t said = (sp_sayU sg (sg 6 (sp_e a u t)) (5 * (12 * a + p) + t) said) := by unfold sp_sayN; rw [hent, hu]
        have ek : sp_k (nI p) (nI a) = 12 * a + p := by rw [sp_k, en, en2]
        refine hr_aload X dX5_say_155 rfl (Or.inr ⟨_, rfl⟩) ?_
        refine hr_callV X kC5_207 dX5_say_157 (c_X0_size cA hR (12 * a + p) hKs) (hR.c16 hKs) rfl rfl rfl rfl (Nat.le_of_ble_eq_true rfl) ⟨⟨(Nat.le_of_ble_eq_true rfl), (Nat.le_of_ble_eq_true rfl)⟩, (Nat.le_of_ble_eq_true rfl), (Nat.le_of_ble_eq_true rfl)⟩ (fun v M157 hp => ?_)
        obtain ⟨rfl, rfl⟩ := hp
        exact hr_iretX X dX5_say_160 (Nat.le_of_ble_eq_true rfl) (Nat.le_of_ble_eq_true rfl) ⟨hz, by rw [en, en2, en3, eN, ek], _, by rw [en, en2, en3, eN]; exact hR, by
          rw [en, en2, en3, eN]
          exact cr_ok_say hI hok (by omega) ht h13 hokS ho2 hfr (by rw [show (12 * a + p) % 12 / 3 = p / 3 by omega])⟩
      · have hno : sp_thSay sg (nI p) (nI a) (nI t) said = 3 := by
          unfold sp_thSay sp_thSayN
          rw [hT, en, en2, en3, if_pos rfl, hent, hu]
          dsimp only
          rw [if_pos hsaid]
          unfold sp_sayB
          rw [sb_notT (hm_bI_ne.mp c120), Bool.and_false]
          rfl
        exact hr_throw X XE kT5_37_120_41 dX5_say_123 dX5_say_126 dX5_say_127 dX5_say_129 dX5_say_132 rfl ⟨(Nat.le_of_ble_eq_true rfl), (Nat.le_of_ble_eq_true rfl), (Nat.le_of_ble_eq_true rfl), (Nat.le_of_ble_eq_true rfl)⟩ (Nat.le_of_ble_eq_true rfl) (Nat.le_of_ble_eq_true rfl) ⟨Or.inr (Or.inr ⟨hno, rfl⟩), hR⟩
    · have hfull := hm_bI_ne.mp c97
      have hno : sp_thSay sg (nI p) (nI a) (nI t) said = 3 := by
        unfold sb_full at hfull
        rw [Bool.and_eq_true, decide_eq_true_eq, decide_eq_true_eq] at hfull
        have h12 : sg 20 (5 * (12 * a + p) + t) = 12 := by
          rw [hw] at hfull ⊢
          have := (nI_leI (a := 12) (by decide) (by omega)).mp hfull.2
          rw [show wc = 12 by omega]
          rfl
        unfold sp_thSay sp_thSayN
        rw [hT, en, en2, en3, if_pos rfl, hent, hu]
        dsimp only
        rw [if_pos hsaid]
        unfold sp_sayB sp_more
        rw [hfull.1, h12]
        rfl
      exact hr_throw X XE kT5_37_202_41 dX5_say_100 dX5_say_103 dX5_say_104 dX5_say_106 dX5_say_109 rfl ⟨(Nat.le_of_ble_eq_true rfl), (Nat.le_of_ble_eq_true rfl), (Nat.le_of_ble_eq_true rfl), (Nat.le_of_ble_eq_true rfl)⟩ (Nat.le_of_ble_eq_true rfl) (Nat.le_of_ble_eq_true rfl) ⟨Or.inr (Or.inr ⟨hno, rfl⟩), hR⟩
