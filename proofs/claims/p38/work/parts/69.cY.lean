/-! all answers of a sheet graded anew -/
section HG16
variable {C : hm_C} {k n : Nat} {Q : State → Prop} {M M0 : hm_M} {pc : Nat} {L : List (Option Value)} {st : List Value} {cA : Nat → ClassId} {sg ta : mm_S} {ad : Nat → Nat → Nat}
theorem hr_w16 (h : cr_R cA sg ta ad M0 M) {y : Nat} (hK : cr_isK sg y = true) {sg' ta' : mm_S} (hg : ∀ j, j ≠ 15 → j ≠ 16 → sg' j = sg j) (hx : ∀ z, z ≠ y → sg' 15 z = sg 15 z ∧ sg' 16 z = sg 16 z) (ht : ∀ j, j ≠ 1 → j ≠ 2 → ta' j = ta j) (htx : ∀ z, z ≠ y → ta' 1 z = ta 1 z ∧ ta' 2 z = ta 2 z)
    {fs : List Value} (hf : fs = [.ref (ad 13 (16 * (y / 12) + nN (sg' 14 y))), .ref (ad 17 y), .int (if sg' 13 y = 2 then 1 else 0), .int (sp_rMark sg' y), .int (ta' 1 y), .int (sg' 16 y), .ref (ad 18 y), .int (ta' 2 y)]) (kk : ∀ M2 : hm_M, cr_R cA sg' ta' ad M0 M2 → hm_W C k n Q M2 pc L st) : hm_W C k n Q (hm_up M (ad 16 y) (.inr (0, fs))) pc L st := by
  subst hf
  refine hr_re1 h (q0 := 16) (x0 := y) (if_pos hK) (fun e he => ?_) (fun q z e hn he => ?_) kk
  · cases cr_ob_e he
    exact va_sm.rf
  · by_cases hq : q = 16
    · subst hq
      have hy : z ≠ y := fun w => hn ⟨rfl, w⟩
      exact cr_sm_16 (sg := sg) (ta := ta) (sg' := sg') (ta' := ta') ⟨by rw [hg 1 (by decide) (by decide)], by rw [hg 13 (by decide) (by decide)], by rw [hg 14 (by decide) (by decide)], (hx z hy).1, (hx z hy).2, (htx z hy).1, (htx z hy).2⟩ he
    · refine (cr_pt_j (sg := sg) (ta := ta) (fun j hj => hg j (fun w => hq ?_) (fun w => hq ?_)) (fun j hj => ht j (fun w => hq ?_) (fun w => hq ?_))).sm he
      · rw [w] at hj; exact cr_owg_of hj (by decide) (by decide) (by decide) (by decide)
      · rw [w] at hj; exact cr_owg_of hj (by decide) (by decide) (by decide) (by decide)
      · rw [w] at hj; exact cr_own_of hj
      · rw [w] at hj; exact cr_own_of hj
end HG16
theorem sp_layL_congr {sg sg' : mm_S} (h : ∀ j, j ≠ 15 → j ≠ 16 → j < 22 → sg' j = sg j) (k : Nat) : ∀ t, sp_layL sg' k t = sp_layL sg k t
  | 0 => rfl
  | t + 1 => by
    show sp_layT sg' k t (sp_layL sg' k t) = sp_layT sg k t (sp_layL sg k t)
    rw [sp_layL_congr h k t]
    have e3 := h 3 (by decide) (by decide) (by decide)
    have e6 := h 6 (by decide) (by decide) (by decide)
    have e21 := h 21 (by decide) (by decide) (by decide)
    have eI : ∀ rule j l i, sp_layI sg' rule j l i = sp_layI sg rule j l i := fun rule j l i => by
      induction i with
      | zero => rfl
      | succ i ih =>
        unfold sp_layI
        rw [ih, show sp_pt sg' j i = sp_pt sg j i by unfold sp_pt; rw [e21]]
    unfold sp_layT
    rw [h 14 (by decide) (by decide) (by decide), sp_has_congr e3 e6]
    cases sp_has sg (k / 12) (nN (sg 14 k)) t with
    | none => rfl
    | some u =>
      dsimp only
      rw [e6, h 8 (by decide) (by decide) (by decide), h 20 (by decide) (by decide) (by decide), eI]
theorem sp_prs_congr {sg sg' : mm_S} {k : Nat} (h : ∀ j, j ≠ 15 → j ≠ 16 → j < 22 → sg' j = sg j) (h15 : sg' 15 k = sg 15 k) : sp_prs sg' k = sp_prs sg k := by
  unfold sp_prs
  rw [h 13 (by decide) (by decide) (by decide), h15, sp_layL_congr h]
theorem mm_up_xj {sg : mm_S} {j0 y j k : Nat} {v : Int32} (h : k ≠ y) : mm_up sg j0 y v j k = sg j k := if_neg (fun q => h q.2)
theorem sp_mdS_n {sg sg1 : mm_S} {s p : Nat} (h : sp_chg sg sg1 (12 * s + p) = false) : sp_mdS sg sg1 s (p + 1) = sp_mdS sg sg1 s p := by rw [sp_mdS, h, if_neg (by decide)]
theorem sp_mdS_x {sg sg1 : mm_S} {s p j k : Nat} (h : k ≠ 12 * s + p) : sp_mdS sg sg1 s (p + 1) j k = sp_mdS sg sg1 s p j k := by
  by_cases z : sp_chg sg sg1 (12 * s + p) = true
  · rw [sp_mdS, if_pos z, mm_up_xj h, mm_up_xj h]
  · rw [sp_mdS, if_neg z]
theorem sp_mdS_o {sg sg1 : mm_S} {s j k : Nat} : ∀ p, (∀ q, q < p → k ≠ 12 * s + q) → sp_mdS sg sg1 s p j k = sg1 j k
  | 0, _ => rfl
  | p + 1, h => by rw [sp_mdS_x (h p (Nat.lt_succ_self p)), sp_mdS_o p (fun q hq => h q (Nat.lt_succ_of_lt hq))]
theorem sp_mdN_n {sg sg1 : mm_S} {s p : Nat} (h : sp_chg sg sg1 (12 * s + p) = false) : sp_mdN sg sg1 s (p + 1) = sp_mdN sg sg1 s p := sp_is_st (by
  show (if sp_chg sg sg1 (12 * s + p) = true then (1 : Int32) else 0) = 0
  rw [h]
  rfl)
theorem sp_mdN_y {sg sg1 : mm_S} {s p : Nat} (h : sp_chg sg sg1 (12 * s + p) = true) : sp_mdN sg sg1 s (p + 1) = sp_mdN sg sg1 s p + 1 := sp_is_up (by
  show (if sp_chg sg sg1 (12 * s + p) = true then (1 : Int32) else 0) = 1
  rw [h]
  rfl)
/-- what grading anew leaves alone -/
def cr_V (a : Nat) (sg1 ta0 ta : mm_S) : Prop := (∀ j, j ≠ 1 → j ≠ 2 → j ≠ 3 → j ≠ 5 → ta j = ta0 j) ∧ ∀ k, (∀ p, p < 12 → k = 12 * a + p → ¬ sg1 13 k = 2) → ta 1 k = ta0 1 k ∧ ta 2 k = ta0 2 k ∧ ∀ i, i < 50 → ta 3 (50 * k + i) = ta0 3 (50 * k + i)
theorem cr_V.rf {a : Nat} {sg1 ta : mm_S} : cr_V a sg1 ta ta := ⟨fun _ _ _ _ _ => rfl, fun _ _ => ⟨rfl, rfl, fun _ _ => rfl⟩⟩
theorem cr_V.tr {a : Nat} {sg1 t0 t1 t2 : mm_S} (h1 : cr_V a sg1 t0 t1) (h2 : cr_V a sg1 t1 t2) : cr_V a sg1 t0 t2 := ⟨fun j a b c d => (h2.1 j a b c d).trans (h1.1 j a b c d), fun k hk => ⟨((h2.2 k hk).1).trans (h1.2 k hk).1, ((h2.2 k hk).2.1).trans (h1.2 k hk).2.1, fun i hi => ((h2.2 k hk).2.2 i hi).trans ((h1.2 k hk).2.2 i hi)⟩⟩
theorem cr_V.g {a : Nat} {sg1 t0 t1 : mm_S} (h : ∀ j, j ≠ 5 → t1 j = t0 j) : cr_V a sg1 t0 t1 := ⟨fun j _ _ _ h5 => h j h5, fun k _ => by rw [h 1 (by decide), h 2 (by decide), h 3 (by decide)]; exact ⟨rfl, rfl, fun _ _ => rfl⟩⟩
theorem cr_V.d {a p : Nat} {sg1 t : mm_S} {v : Int32} (hp : p < 12) (h : sg1 13 (12 * a + p) = 2) : cr_V a sg1 t (mm_up t 1 (12 * a + p) v) := ⟨fun j h1 _ _ _ => mm_up_j h1, fun k hk => ⟨mm_up_x (fun z => hk p hp z (by rw [z]; exact h)), by rw [mm_up_j (by decide)], fun i _ => by rw [mm_up_j (by decide)]⟩⟩
theorem cr_V.u {a p : Nat} {sg1 t0 t1 : mm_S} (hp : p < 12) (h : sg1 13 (12 * a + p) = 2) (hU : cr_U (12 * a + p) t0 t1) : cr_V a sg1 t0 t1 := ⟨fun j _ h2 h3 _ => hU.1 j h2 h3, fun k hk => by
  have hn : k ≠ 12 * a + p := fun z => hk p hp z (by rw [z]; exact h)
  exact ⟨by rw [hU.1 1 (by decide) (by decide)], (hU.2 k hn).1, (hU.2 k hn).2⟩⟩
set_option maxHeartbeats 4000000 in
set_option maxRecDepth 100000 in
theorem c_X5_gradeAgain (cA : Nat → ClassId) {sg sg1 ta0 : mm_S} {ad : Nat → Nat → Nat} {M0 M : hm_M} (hR : cr_R cA sg1 ta0 ad M0 M) (hI : sp_I sg1) (hok : cr_o2 sg1 ta0) (a : Nat) (hs : cr_isS sg1 a = true) (h13 : sg1 13 = sg 13) (h11 : sg1 11 = sg 11) (hd : ∀ p, p < 12 → sg1 13 (12 * a + p) = 2 → ta0 1 (12 * a + p) = sp_due sg (12 * a + p)) : hm_Met cA yX5_gradeAgain cX5_gradeAgain 6 (some .int) r_X5_gradeAgain [.ref (ad 0 0), .ref (ad 8 a)] M (fun v' M' => v' = some (.int (sp_mdN sg sg1 a 12)) ∧ ∃ ta' : mm_S, cr_R cA (sp_mdS sg sg1 a 12) ta' ad M0 M' ∧ (∀ q, q < 12 → sg1 13 (12 * a + q) = 2 → ta' 1 (12 * a + q) = sp_due sg1 (12 * a + q) ∧ cr_K ta' (12 * a + q) (sp_prs (sp_mdS sg sg1 a 12) (12 * a + q))) ∧ cr_V a sg1 ta0 ta') := by
  refine hm_met 4 (by decide +kernel) (fun w h => by simp only [List.mem_cons, List.not_mem_nil, or_false] at h; rcases h with rfl | rfl <;> rfl) rfl (fun C X => ?_)
  show hm_W C 0 0 _ M 0 [some (.ref (ad 0 0)), some (.ref (ad 8 a)), none, none, none, none] []
  obtain ⟨ha1, ha4⟩ := cr_isS_4 hI hs
  refine hr_iconst (0) X dX5_gradeAgain_0 (by decide) ?_
  refine hr_istore_n X dX5_gradeAgain_1 (Nat.le_of_ble_eq_true rfl) ?_
  refine hr_iconst (0) X dX5_gradeAgain_2 (by decide) ?_
  refine hr_istore_n X dX5_gradeAgain_3 (Nat.le_of_ble_eq_true rfl) ?_
  have lp4 : ∀ (f : Nat) (p : Nat) (y4 y5 : Option Value) (M : hm_M) (ta : mm_S), cr_R cA (sp_mdS sg sg1 a p) ta ad M0 M → (∀ q, q < p → sg1 13 (12 * a + q) = 2 → ta 1 (12 * a + q) = sp_due sg1 (12 * a + q) ∧ cr_K ta (12 * a + q) (sp_prs (sp_mdS sg sg1 a p) (12 * a + q))) → (∀ q, p ≤ q → q < 12 → ta 1 (12 * a + q) = ta0 1 (12 * a + q)) → cr_V a sg1 ta0 ta → p ≤ 12 → 12 < p + f → hm_W C 0 0 (hm_T C (fun v' M' => v' = some (.int (sp_mdN sg sg1 a 12)) ∧ ∃ ta' : mm_S, cr_R cA (sp_mdS sg sg1 a 12) ta' ad M0 M' ∧ (∀ q, q < 12 → sg1 13 (12 * a + q) = 2 → ta' 1 (12 * a + q) = sp_due sg1 (12 * a + q) ∧ cr_K ta' (12 * a + q) (sp_prs (sp_mdS sg sg1 a 12) (12 * a + q))) ∧ cr_V a sg1 ta0 ta') r_X5_gradeAgain.cells r_X5_gradeAgain.slots) M 4 [some (.ref (ad 0 0)), some (.ref (ad 8 a)), some (.int (sp_mdN sg sg1 a p)), some (.int (nI p)), y4, y5] [] := by
    intro f
    induction f with
    | zero => intro p y4 y5 M ta hR hA hB hV g1 g2; exact absurd g2 (by omega)
    | succ f ih =>
      intro p y4 y5 M ta hR hA hB hV g1 g2
      refine hr_iload_n X dX5_gradeAgain_4 rfl ?_
      refine hr_bipush (12) X dX5_gradeAgain_5 (by decide) ?_
      refine hr_icmp_ge 83 X dX5_gradeAgain_7 (by decide) (fun c7 => ?_) (fun c7 => ?_)
      · have hz : p = 12 := by have := (nI_leI (a := 12) (by decide) (by omega)).mp c7; omega
        subst hz
        refine hr_iload_n X dX5_gradeAgain_83 rfl ?_
        exact hr_iret X dX5_gradeAgain_84 (Nat.le_of_ble_eq_true rfl) (Nat.le_of_ble_eq_true rfl) ⟨rfl, _, hR, hA, hV⟩
      · have hp : p < 12 := by
          rcases Nat.lt_or_ge p 12 with q | q
          · exact q
          · exact absurd (nI_le (by omega) (by omega)) c7
        have hIp : sp_I (sp_mdS sg sg1 a p) := sp_I.congr (fun j h5 h6 _ => sp_mdS_j p j h5 h6) hI
        have e13 : (sp_mdS sg sg1 a p) 13 = sg1 13 := sp_mdS_j p 13 (by decide) (by decide)
        have e1 : (sp_mdS sg sg1 a p) 1 = sg1 1 := sp_mdS_j p 1 (by decide) (by decide)
        have hsp : cr_isS (sp_mdS sg sg1 a p) a = true := by unfold cr_isS sp_n; rw [e1]; exact hs
        have hB1 : ∀ q, p + 1 ≤ q → q < 12 → ta 1 (12 * a + q) = ta0 1 (12 * a + q) := fun q hq => hB q (by omega)
        refine hr_aload_n X dX5_gradeAgain_10 rfl (Or.inr ⟨_, rfl⟩) ?_
        refine hr_get X kF5_160 dX5_gradeAgain_11 (hR.c8 hsp) rfl ?_
        refine hr_iload_n X dX5_gradeAgain_14 rfl ?_
        refine hr_aald 6 X rfl dX5_gradeAgain_15 (hR.c12 hsp) (mm_in rfl (by omega) (by decide)).1 ?_
        rw [nI_clamp (by omega), e13]
        refine hr_astore X dX5_gradeAgain_16 (Nat.le_of_ble_eq_true rfl) (hm_rf _) ?_
        refine hr_aload X dX5_gradeAgain_18 rfl (hm_rf _) ?_
        have J77 : ∀ (y4 y5 : Option Value) (M : hm_M) (ta : mm_S), cr_R cA (sp_mdS sg sg1 a (p + 1)) ta ad M0 M → (∀ q, q < p + 1 → sg1 13 (12 * a + q) = 2 → ta 1 (12 * a + q) = sp_due sg1 (12 * a + q) ∧ cr_K ta (12 * a + q) (sp_prs (sp_mdS sg sg1 a (p + 1)) (12 * a + q))) → (∀ q, p + 1 ≤ q → q < 12 → ta 1 (12 * a + q) = ta0 1 (12 * a + q)) → cr_V a sg1 ta0 ta → hm_W C 0 0 (hm_T C (fun v' M' => v' = some (.int (sp_mdN sg sg1 a 12)) ∧ ∃ ta' : mm_S, cr_R cA (sp_mdS sg sg1 a 12) ta' ad M0 M' ∧ (∀ q, q < 12 → sg1 13 (12 * a + q) = 2 → ta' 1 (12 * a + q) = sp_due sg1 (12 * a + q) ∧ cr_K ta' (12 * a + q) (sp_prs (sp_mdS sg sg1 a 12) (12 * a + q))) ∧ cr_V a sg1 ta0 ta') r_X5_gradeAgain.cells r_X5_gradeAgain.slots) M 77 [some (.ref (ad 0 0)), some (.ref (ad 8 a)), some (.int (sp_mdN sg sg1 a (p + 1))), some (.int (nI p)), y4, y5] [] := by
          intro y4 y5 M ta hR hA1 hB hV
          refine hr_iinc (1) X dX5_gradeAgain_77 rfl (by decide) ?_
          refine hr_goto 4 X dX5_gradeAgain_80 (by decide) ?_
          rw [nI_1]
          exact ih (p + 1) _ _ _ _ hR hA1 hB hV (by omega) (by omega)
        refine hr_ifnull 77 X dX5_gradeAgain_20 (by decide) (fun c20 => ?_) (fun a20 c20 => ?_)
        · have hn0 : sg1 13 (12 * a + p) = 0 := by
            by_cases q : sg1 13 (12 * a + p) = 0
            · exact q
            · rw [if_neg q] at c20; cases c20
          have hn2 : ¬ sg1 13 (12 * a + p) = 2 := fun q => by rw [hn0] at q; cases q
          have hch : sp_chg sg sg1 (12 * a + p) = false := by
            unfold sp_chg
            rw [decide_eq_false (by rw [← h13]; exact hn2)]
            rfl
          have hA1 : ∀ q, q < p + 1 → sg1 13 (12 * a + q) = 2 → ta 1 (12 * a + q) = sp_due sg1 (12 * a + q) ∧ cr_K ta (12 * a + q) (sp_prs (sp_mdS sg sg1 a (p + 1)) (12 * a + q)) := fun q hq h2 => by
            rw [sp_mdS_n hch]
            by_cases z : q = p
            · rw [z] at h2; exact absurd h2 hn2
            · exact hA q (by omega) h2
          have hR : cr_R cA (sp_mdS sg sg1 a (p + 1)) ta ad M0 M := by rw [sp_mdS_n hch]; exact hR
          have hz := sp_mdN_n hch
          exact hl_loc (by rw [hz] <;> rfl) (J77 _ _ _ _ hR hA1 hB1 hV)
        · have hn0 : ¬ sg1 13 (12 * a + p) = 0 := fun q => by rw [if_pos q] at c20; cases c20
          rw [if_neg hn0]
          have hk0 : ¬ (sp_mdS sg sg1 a p) 13 (12 * a + p) = 0 := by rw [e13]; exact hn0
          have hK : cr_isK (sp_mdS sg sg1 a p) (12 * a + p) = true := cr_isK_at (by have := (cr_isS_4 hIp hsp).1; exact this) hp hk0
          refine hr_aload X dX5_gradeAgain_23 rfl (Or.inr ⟨_, rfl⟩) ?_
          refine hr_get X kF5_208 dX5_gradeAgain_25 (hR.c16 hK) rfl ?_
          rw [e13]
          refine hr_if_ne 34 X dX5_gradeAgain_28 (by decide) (fun c28 => ?_) (fun c28 => ?_)
          · have hn2 : sg1 13 (12 * a + p) = 2 := by
              by_cases q : sg1 13 (12 * a + p) = 2
              · exact q
              · rw [if_neg q] at c28; exact absurd rfl c28
            refine hr_aload_n X dX5_gradeAgain_34 rfl (Or.inr ⟨_, rfl⟩) ?_
            refine hr_aload X dX5_gradeAgain_35 rfl (Or.inr ⟨_, rfl⟩) ?_
            refine hr_iconst (0) X dX5_gradeAgain_37 (by decide) ?_
            refine hr_callV X kC5_212 dX5_gradeAgain_38 ((show hm_Met cA yX5_grade cX5_grade _ _ r_X5_grade [.ref (ad 0 0), .ref (ad 16 (12 * a + p)), .int 0] _ _ from c_X5_grade cA hR hIp (show cr_o2 (sp_mdS sg sg1 a p) ta from by
              unfold cr_o2
              rw [sp_mdS_j p 17 (by decide) (by decide), sp_mdS_j p 18 (by decide) (by decide), sp_mdS_j p 20 (by decide) (by decide), sp_mdS_j p 21 (by decide) (by decide)]
              exact hok.congr (hV.1 8 (by decide) (by decide) (by decide) (by decide)) (hV.1 4 (by decide) (by decide) (by decide) (by decide))) (12 * a + p) (by omega) hk0 false)) hR.c0 rfl rfl rfl rfl (Nat.le_of_ble_eq_true rfl) ⟨⟨(Nat.le_of_ble_eq_true rfl), (Nat.le_of_ble_eq_true rfl)⟩, (Nat.le_of_ble_eq_true rfl), (Nat.le_of_ble_eq_true rfl)⟩ (fun v M38 hp38 => ?_)
            obtain ⟨rfl, ta1, hR, hta⟩ := hp38
            rw [show sp_due (sp_mdS sg sg1 a p) (12 * a + p) = sp_due sg1 (12 * a + p) from sp_due_congr (fun j h5 h6 _ => sp_mdS_j p j h5 h6) _]
            have hV := hV.tr (cr_V.g hta)
            have e5 : ta1 1 (12 * a + p) = sp_due sg (12 * a + p) := by rw [hta 1 (by decide), hB p (Nat.le_refl p) hp, hd p hp hn2]
            have hA : ∀ q, q < p → sg1 13 (12 * a + q) = 2 → ta1 1 (12 * a + q) = sp_due sg1 (12 * a + q) ∧ cr_K ta1 (12 * a + q) (sp_prs (sp_mdS sg sg1 a p) (12 * a + q)) := fun q hq h2 => ⟨by rw [hta 1 (by decide)]; exact (hA q hq h2).1, (hA q hq h2).2.congr (by rw [hta 2 (by decide)]) (fun i _ => by rw [hta 3 (by decide)])⟩
            have hB1 : ∀ q, p + 1 ≤ q → q < 12 → ta1 1 (12 * a + q) = ta0 1 (12 * a + q) := fun q h1 h2 => by rw [hta 1 (by decide)]; exact hB1 q h1 h2
            refine hr_istore X dX5_gradeAgain_41 (Nat.le_of_ble_eq_true rfl) ?_
            refine hr_iload X dX5_gradeAgain_43 rfl ?_
            refine hr_aload X dX5_gradeAgain_45 rfl (Or.inr ⟨_, rfl⟩) ?_
            refine hr_get X kF5_216 dX5_gradeAgain_47 (hR.c16 hK) rfl ?_
            rw [e5]
            have J72 : ∀ (M : hm_M) (ta : mm_S), cr_R cA (sp_mdS sg sg1 a (p + 1)) ta ad M0 M → (∀ q, q < p → sg1 13 (12 * a + q) = 2 → ta 1 (12 * a + q) = sp_due sg1 (12 * a + q) ∧ cr_K ta (12 * a + q) (sp_prs (sp_mdS sg sg1 a (p + 1)) (12 * a + q))) → (∀ q, p + 1 ≤ q → q < 12 → ta 1 (12 * a + q) = ta0 1 (12 * a + q)) → cr_V a sg1 ta0 ta → ta 1 (12 * a + p) = sp_due sg1 (12 * a + p) → hm_W C (0 + r_X5_grade.cells) (0 + r_X5_grade.slots) (hm_T C (fun v' M' => v' = some (.int (sp_mdN sg sg1 a 12)) ∧ ∃ ta' : mm_S, cr_R cA (sp_mdS sg sg1 a 12) ta' ad M0 M' ∧ (∀ q, q < 12 → sg1 13 (12 * a + q) = 2 → ta' 1 (12 * a + q) = sp_due sg1 (12 * a + q) ∧ cr_K ta' (12 * a + q) (sp_prs (sp_mdS sg sg1 a 12) (12 * a + q))) ∧ cr_V a sg1 ta0 ta') r_X5_gradeAgain.cells r_X5_gradeAgain.slots) M 72 [some (.ref (ad 0 0)), some (.ref (ad 8 a)), some (.int (sp_mdN sg sg1 a (p + 1))), some (.int (nI p)), some (.ref (ad 16 (12 * a + p))), some (.int (sp_due sg1 (12 * a + p)))] [] := by
              intro M ta hR hA hB1 hV hD
              have hIq : sp_I (sp_mdS sg sg1 a (p + 1)) := sp_I.congr (fun j h5 h6 _ => sp_mdS_j (p + 1) j h5 h6) hI
              have f13 : (sp_mdS sg sg1 a (p + 1)) 13 = sg1 13 := sp_mdS_j (p + 1) 13 (by decide) (by decide)
              have hkq : ¬ (sp_mdS sg sg1 a (p + 1)) 13 (12 * a + p) = 0 := by rw [f13]; exact hn0
              have hKq : cr_isK (sp_mdS sg sg1 a (p + 1)) (12 * a + p) = true := by
                obtain ⟨q1, -⟩ := sp_handed hIq (k := 12 * a + p) (by omega) hkq
                exact cr_isK_h q1 hkq
              refine hr_aload X dX5_gradeAgain_72 rfl (Or.inr ⟨_, rfl⟩) ?_
              refine hr_callV X kC5_222 dX5_gradeAgain_74 (c_X0_findPrints cA hR hIq (show cr_o2 (sp_mdS sg sg1 a (p + 1)) ta from by
                unfold cr_o2
                rw [sp_mdS_j (p + 1) 17 (by decide) (by decide), sp_mdS_j (p + 1) 18 (by decide) (by decide), sp_mdS_j (p + 1) 20 (by decide) (by decide), sp_mdS_j (p + 1) 21 (by decide) (by decide)]
                exact hok.congr (hV.1 8 (by decide) (by decide) (by decide) (by decide)) (hV.1 4 (by decide) (by decide) (by decide) (by decide))) (12 * a + p) (by omega) hkq) (hR.c16 hKq) rfl rfl rfl rfl (Nat.le_of_ble_eq_true rfl) ⟨⟨(Nat.le_of_ble_eq_true rfl), (Nat.le_of_ble_eq_true rfl)⟩, (Nat.le_of_ble_eq_true rfl), (Nat.le_of_ble_eq_true rfl)⟩ (fun v M74 hp74 => ?_)
              obtain ⟨rfl, ta2, hR, hP, hU⟩ := hp74
              have hV := hV.tr (cr_V.u hp hn2 hU)
              have hA1 : ∀ q, q < p + 1 → sg1 13 (12 * a + q) = 2 → ta2 1 (12 * a + q) = sp_due sg1 (12 * a + q) ∧ cr_K ta2 (12 * a + q) (sp_prs (sp_mdS sg sg1 a (p + 1)) (12 * a + q)) := fun q hq h2 => by
                by_cases z : q = p
                · rw [z, hU.1 1 (by decide) (by decide)]
                  exact ⟨hD, hP⟩
                · have h3 := hA q (by omega) h2
                  have h4 := hU.2 (12 * a + q) (by omega)
                  exact ⟨by rw [hU.1 1 (by decide) (by decide)]; exact h3.1, h3.2.congr h4.1 h4.2⟩
              have hB1 : ∀ q, p + 1 ≤ q → q < 12 → ta2 1 (12 * a + q) = ta0 1 (12 * a + q) := fun q h1 h2 => by rw [hU.1 1 (by decide) (by decide)]; exact hB1 q h1 h2
              have hz : sp_mdN sg sg1 a (p + 1) = sp_mdN sg sg1 a (p + 1) := rfl
              exact hl_loc (by rw [hz] <;> rfl) (J77 _ _ _ _ hR hA1 hB1 hV)
            refine hr_icmp_eq 72 X dX5_gradeAgain_50 (by decide) (fun c50 => ?_) (fun c50 => ?_)
            · have hch : sp_chg sg sg1 (12 * a + p) = false := by
                unfold sp_chg
                rw [decide_eq_true c50, Bool.not_true, Bool.and_false]
              have hz := sp_mdN_n hch
              rw [← sp_mdS_n hch] at hR
              have hA2 : ∀ q, q < p → sg1 13 (12 * a + q) = 2 → ta1 1 (12 * a + q) = sp_due sg1 (12 * a + q) ∧ cr_K ta1 (12 * a + q) (sp_prs (sp_mdS sg sg1 a (p + 1)) (12 * a + q)) := by rw [sp_mdS_n hch]; exact hA
              have hD : ta1 1 (12 * a + p) = sp_due sg1 (12 * a + p) := by rw [e5, c50]
              exact hl_loc (by rw [hz] <;> rfl) (J72 _ _ hR hA2 hB1 hV hD)
            · have hch : sp_chg sg sg1 (12 * a + p) = true := by
                unfold sp_chg
                rw [decide_eq_false c50, decide_eq_true (by rw [← h13]; exact hn2)]
                rfl
              have hz := sp_mdN_y hch
              have h16 := hR.c16 hK
              refine hr_iinc (1) X dX5_gradeAgain_53 rfl (by decide) ?_
              refine hr_aload X dX5_gradeAgain_56 rfl (Or.inr ⟨_, rfl⟩) ?_
              refine hr_iload X dX5_gradeAgain_58 rfl ?_
              refine hr_aload_n X dX5_gradeAgain_60 rfl (Or.inr ⟨_, rfl⟩) ?_
              refine hr_get X kF5_166 dX5_gradeAgain_61 (hR.c8 hsp) rfl ?_
              refine hr_iload_n X dX5_gradeAgain_64 rfl ?_
              refine hr_callS X kC5_156 dX5_gradeAgain_65 (c_X5_classOf cA (M := _) (nI p)) rfl rfl rfl (Nat.le_of_ble_eq_true rfl) ⟨⟨(Nat.le_of_ble_eq_true rfl), (Nat.le_of_ble_eq_true rfl)⟩, (Nat.le_of_ble_eq_true rfl), (Nat.le_of_ble_eq_true rfl)⟩ (fun v M65 hp => ?_)
              obtain ⟨rfl, rfl⟩ := hp
              rw [mm_d3 (by omega)]
              refine hr_zald X dX5_gradeAgain_68 (hR.c11 hsp) (mm_in rfl (by omega) (by decide)).1 ?_
              rw [nI_clamp (by omega), sp_mdS_j p 11 (by decide) (by decide), h11]
              refine hr_callV X kC5_324 dX5_gradeAgain_69 (c_X0_takeDueMark cA h16 (sp_due sg1 (12 * a + p)) (sg 11 (4 * a + p / 3))) h16 rfl rfl rfl rfl (Nat.le_of_ble_eq_true rfl) ⟨⟨(Nat.le_of_ble_eq_true rfl), (Nat.le_of_ble_eq_true rfl)⟩, (Nat.le_of_ble_eq_true rfl), (Nat.le_of_ble_eq_true rfl)⟩ (fun v M69 hp69 => ?_)
              obtain ⟨rfl, rfl⟩ := hp69
              have ecl : sp_cls sg (12 * a + p) = sg 11 (4 * a + p / 3) := by
                unfold sp_cls
                rw [show (12 * a + p) / 12 = a by omega, show (12 * a + p) % 12 = p by omega]
              have eS : sp_mdS sg sg1 a (p + 1) = mm_up (mm_up (sp_mdS sg sg1 a p) 16 (12 * a + p) (sp_mdS sg sg1 a p 16 (12 * a + p) + (if sg 11 (4 * a + p / 3) = 0 then 0 else 1))) 15 (12 * a + p) (if sg 11 (4 * a + p / 3) = 0 then sp_due sg1 (12 * a + p) else sp_mdS sg sg1 a p 15 (12 * a + p)) := by
                rw [sp_mdS, if_pos hch, ecl]
              have g13 : sp_mdS sg sg1 a p 13 (12 * a + p) = 2 := by rw [e13]; exact hn2
              refine hr_w16 hR hK (sg' := sp_mdS sg sg1 a (p + 1)) (ta' := mm_up ta1 1 (12 * a + p) (sp_due sg1 (12 * a + p))) (fun j h5 h6 => by rw [sp_mdS_j _ _ h5 h6, sp_mdS_j _ _ h5 h6]) (fun z hz => ⟨sp_mdS_x hz, sp_mdS_x hz⟩) (fun j h1 _ => mm_up_j h1) (fun z hz => ⟨mm_up_x hz, by rw [mm_up_j (by decide)]⟩) (by
                rw [sp_mdS_j (p + 1) 14 (by decide) (by decide), sp_mdS_j (p + 1) 13 (by decide) (by decide), sp_mdS_j p 14 (by decide) (by decide), e13]
                unfold sp_rMark
                rw [g13, if_pos rfl, sp_mdS_j (p + 1) 13 (by decide) (by decide), hn2, if_pos rfl, if_pos rfl, mm_up_s, mm_up_j (j' := 2) (by decide), eS, mm_up_s, mm_up_j (j' := 16) (by decide), mm_up_s]
                by_cases z : sg 11 (4 * a + p / 3) = 0
                · simp only [if_pos z, Int32.add_zero]
                · simp only [if_neg z]) (fun M69 hR => ?_)
              have hV := hV.tr (cr_V.d (v := sp_due sg1 (12 * a + p)) hp hn2)
              have hD : mm_up ta1 1 (12 * a + p) (sp_due sg1 (12 * a + p)) 1 (12 * a + p) = sp_due sg1 (12 * a + p) := mm_up_s
              have hA2 : ∀ q, q < p → sg1 13 (12 * a + q) = 2 → mm_up ta1 1 (12 * a + p) (sp_due sg1 (12 * a + p)) 1 (12 * a + q) = sp_due sg1 (12 * a + q) ∧ cr_K (mm_up ta1 1 (12 * a + p) (sp_due sg1 (12 * a + p))) (12 * a + q) (sp_prs (sp_mdS sg sg1 a (p + 1)) (12 * a + q)) := fun q hq h2 => by
                refine ⟨by rw [mm_up_x (by omega)]; exact (hA q hq h2).1, ?_⟩
                rw [sp_prs_congr (sg' := sp_mdS sg sg1 a (p + 1)) (sg := sp_mdS sg sg1 a p) (fun j h5 h6 _ => by rw [sp_mdS_j _ _ h5 h6, sp_mdS_j _ _ h5 h6]) (sp_mdS_x (by omega))]
                exact (hA q hq h2).2.congr (by rw [mm_up_j (by decide)]) (fun i _ => by rw [mm_up_j (by decide)])
              have hB1 : ∀ q, p + 1 ≤ q → q < 12 → mm_up ta1 1 (12 * a + p) (sp_due sg1 (12 * a + p)) 1 (12 * a + q) = ta0 1 (12 * a + q) := fun q h1 h2 => by rw [mm_up_x (by omega)]; exact hB1 q h1 h2
              exact hl_loc (by rw [hz] <;> rfl) (J72 _ _ hR hA2 hB1 hV hD)
          · have hn2 : ¬ sg1 13 (12 * a + p) = 2 := fun q => by rw [if_pos q] at c28; cases c28
            have hch : sp_chg sg sg1 (12 * a + p) = false := by
              unfold sp_chg
              rw [decide_eq_false (by rw [← h13]; exact hn2)]
              rfl
            have hA1 : ∀ q, q < p + 1 → sg1 13 (12 * a + q) = 2 → ta 1 (12 * a + q) = sp_due sg1 (12 * a + q) ∧ cr_K ta (12 * a + q) (sp_prs (sp_mdS sg sg1 a (p + 1)) (12 * a + q)) := fun q hq h2 => by
              rw [sp_mdS_n hch]
              by_cases z : q = p
              · rw [z] at h2; exact absurd h2 hn2
              · exact hA q (by omega) h2
            have hR : cr_R cA (sp_mdS sg sg1 a (p + 1)) ta ad M0 M := by rw [sp_mdS_n hch]; exact hR
            have hz := sp_mdN_n hch
            refine hr_goto 77 X dX5_gradeAgain_31 (by decide) ?_
            exact hl_loc (by rw [hz] <;> rfl) (J77 _ _ _ _ hR hA1 hB1 hV)
  exact lp4 13 0 _ _ _ _ hR (fun q hq => absurd hq (Nat.not_lt_zero q)) (fun q _ _ => rfl) cr_V.rf (by decide) (by decide)
