set_option maxHeartbeats 4000000 in
set_option maxRecDepth 100000 in
theorem c_X6_common (cA : Nat → ClassId) {sg ta0 : mm_S} {ad : Nat → Nat} {mo : Nat} {M0 M : hm_M} (hR : mm_R cA sg ta0 ad mo M0 M) (rule : Int32) (j wc : Nat) (hj : j < 240) (hw : sg 20 j = nI wc) (hw12 : wc ≤ 12) : hm_Met cA yX6_common cX6_common 9 (some .int) r_X6_common [.ref mo, .int rule, .int (nI j)] M (mm_W cA ad mo M0 (nI (sp_com sg rule j)) sg ta0) := by
  refine hm_met 6 (by decide +kernel) (fun w h => by simp only [List.mem_cons, List.not_mem_nil, or_false] at h; rcases h with rfl | rfl | rfl <;> rfl) rfl (fun C X => ?_)
  show hm_W C 0 0 _ M 0 [some (.ref mo), some (.int rule), some (.int (nI j)), none, none, none, none, none, none] []
  have hl6 := sp_len_le rule
  have ew : nN (sg 20 j) = wc := by rw [hw]; exact nI_clamp (by omega)
  refine hr_iload_n X dX6_common_0 rfl ?_
  refine hr_callS X kC6_103 dX6_common_1 (c_X6_lengthOf cA (M := _) rule) rfl rfl rfl (Nat.le_of_ble_eq_true rfl) ⟨⟨(Nat.le_of_ble_eq_true rfl), (Nat.le_of_ble_eq_true rfl)⟩, (Nat.le_of_ble_eq_true rfl), (Nat.le_of_ble_eq_true rfl)⟩ (fun v M1 hp => ?_)
  obtain ⟨rfl, rfl⟩ := hp
  refine hr_istore_n X dX6_common_4 (Nat.le_of_ble_eq_true rfl) ?_
  refine hr_iconst (0) X dX6_common_5 (by decide) ?_
  refine hr_istore X dX6_common_6 (Nat.le_of_ble_eq_true rfl) ?_
  have lp8 : ∀ (f : Nat) (n : Nat) (M : hm_M) (ta : mm_S), mm_R cA sg ta ad mo M0 M → (∀ q, q ≠ 22 → ta q = ta0 q) → n ≤ sp_len rule + 1 → sp_len rule + 1 < n + f → (∀ q, q < n → ta 22 q = 0) → hm_W C (0 + r_X6_lengthOf.cells) (0 + r_X6_lengthOf.slots) (hm_T C (mm_W cA ad mo M0 (nI (sp_com sg rule j)) sg ta0) r_X6_common.cells r_X6_common.slots) M 8 [some (.ref mo), some (.int rule), some (.int (nI j)), some (.int (nI (sp_len rule))), some (.int (nI n)), none, none, none, none] [] := by
    intro f
    induction f with
    | zero => intro n M ta hR hta h1 h2 h3; exact absurd h2 (by omega)
    | succ f ih =>
      intro n M ta hR hta h1 h2 h3
      refine hr_iload X dX6_common_8 rfl ?_
      refine hr_iload_n X dX6_common_10 rfl ?_
      refine hr_icmp_gt 28 X dX6_common_11 (by decide) (fun c11 => ?_) (fun c11 => ?_)
      · have hn : n = sp_len rule + 1 := by
          have := (nI_ltI (by omega) (by omega)).mp c11
          omega
        subst hn
        refine hr_iconst (0) X dX6_common_28 (by decide) ?_
        refine hr_istore X dX6_common_29 (Nat.le_of_ble_eq_true rfl) ?_
        have lp31 : ∀ (f : Nat) (i : Nat) (y5 y6 y7 y8 : Option Value) (M : hm_M) (ta : mm_S), mm_R cA sg ta ad mo M0 M → (∀ q, q ≠ 22 → ta q = ta0 q) → i ≤ wc → wc < i + f → (∀ q, q ≤ sp_len rule → ta 22 q = nI (sp_D (sp_rw rule) (fun i => sg 21 (12 * j + i)) i q)) → hm_W C (0 + r_X6_lengthOf.cells) (0 + r_X6_lengthOf.slots) (hm_T C (mm_W cA ad mo M0 (nI (sp_com sg rule j)) sg ta0) r_X6_common.cells r_X6_common.slots) M 31 [some (.ref mo), some (.int rule), some (.int (nI j)), some (.int (nI (sp_len rule))), some (.int (nI i)), y5, y6, y7, y8] [] := by
          intro f
          induction f with
          | zero => intro i y5 y6 y7 y8 M ta hR hta h1 h2 h3; exact absurd h2 (by omega)
          | succ f ih31 =>
            intro i y5 y6 y7 y8 M ta hR hta h1 h2 h3
            refine hr_iload X dX6_common_31 rfl ?_
            refine hr_aload_n X dX6_common_33 rfl (Or.inr ⟨_, rfl⟩) ?_
            refine mm_getA X kF6_65 dX6_common_34 hR 20 rfl ?_
            refine hr_iload_n X dX6_common_37 rfl ?_
            refine mm_iald (j) X dX6_common_38 hR rfl (by simp only [mm_m2, mm_m3, mm_m4, mm_m5, mm_m12, mm_m16, nI_add, mm_a1, mm_a2, mm_a3, mm_a5, mm_a12, sp_e]) (by simp only [mm_len, sp_e]; omega) ?_
            rw [hw]
            refine hr_icmp_ge 148 X dX6_common_39 (by decide) (fun c39 => ?_) (fun c39 => ?_)
            · have hz : i = wc := by have := (nI_leI (by omega) (by omega)).mp c39; omega
              subst hz
              refine hr_aload_n X dX6_common_148 rfl (Or.inr ⟨_, rfl⟩) ?_
              refine mm_getA X kF6_71 dX6_common_149 hR 22 rfl ?_
              refine hr_iload_n X dX6_common_152 rfl ?_
              refine mm_ialdT (sp_len rule) X dX6_common_153 hR rfl rfl (by simp only [mm_len, sp_e]; omega) ?_
              exact hr_iret X dX6_common_154 (Nat.le_of_ble_eq_true rfl) (Nat.le_of_ble_eq_true rfl) ⟨_, hR, by rw [h3 _ (Nat.le_refl _), sp_com, ew], hta⟩
            · have hi : i < wc := by
                rcases Nat.lt_or_ge i wc with q | q
                · exact q
                · exact absurd (nI_le q (by omega)) c39
              refine hr_iconst (0) X dX6_common_42 (by decide) ?_
              refine hr_istore X dX6_common_43 (Nat.le_of_ble_eq_true rfl) ?_
              refine hr_iconst (1) X dX6_common_45 (by decide) ?_
              refine hr_istore X dX6_common_46 (Nat.le_of_ble_eq_true rfl) ?_
              have lp48 : ∀ (f : Nat) (k : Nat) (y7 y8 : Option Value) (M : hm_M) (ta : mm_S), mm_R cA sg ta ad mo M0 M → (∀ q, q ≠ 22 → ta q = ta0 q) → k ≤ sp_len rule → sp_len rule < k + f → (∀ q, q ≤ k → ta 22 q = nI (sp_D (sp_rw rule) (fun i => sg 21 (12 * j + i)) (i + 1) q)) → (∀ q, k < q → q ≤ sp_len rule → ta 22 q = nI (sp_D (sp_rw rule) (fun i => sg 21 (12 * j + i)) i q)) → hm_W C (0 + r_X6_lengthOf.cells) (0 + r_X6_lengthOf.slots) (hm_T C (mm_W cA ad mo M0 (nI (sp_com sg rule j)) sg ta0) r_X6_common.cells r_X6_common.slots) M 48 [some (.ref mo), some (.int rule), some (.int (nI j)), some (.int (nI (sp_len rule))), some (.int (nI i)), some (.int (nI (sp_D (sp_rw rule) (fun i => sg 21 (12 * j + i)) i k))), some (.int (nI (k + 1))), y7, y8] [] := by
                intro f
                induction f with
                | zero => intro k y7 y8 M ta hR hta h4 h5 h6 h7; exact absurd h5 (by omega)
                | succ f ih =>
                  intro k y7 y8 M ta hR hta h4 h5 h6 h7
                  refine hr_iload X dX6_common_48 rfl ?_
                  refine hr_iload_n X dX6_common_50 rfl ?_
                  refine hr_icmp_gt 142 X dX6_common_51 (by decide) (fun c51 => ?_) (fun c51 => ?_)
                  · have hk : k = sp_len rule := by have := (nI_ltI (by omega) (by omega)).mp c51; omega
                    refine hr_iinc (1) X dX6_common_142 rfl (by decide) ?_
                    refine hr_goto 31 X dX6_common_145 (by decide) ?_
                    rw [mm_a1]
                    exact ih31 (i + 1) _ _ _ _ _ _ hR hta (by omega) (by omega) (fun q hq => h6 q (by omega))
                  · have hk : k + 1 ≤ sp_len rule := by
                      rcases Nat.lt_or_ge (sp_len rule) (k + 1) with q | q
                      · exact absurd (nI_lt q (by omega)) c51
                      · exact q
                    refine hr_aload_n X dX6_common_54 rfl (Or.inr ⟨_, rfl⟩) ?_
                    refine mm_getA X kF6_71 dX6_common_55 hR 22 rfl ?_
                    refine hr_iload X dX6_common_58 rfl ?_
                    refine mm_ialdT (k + 1) X dX6_common_60 hR rfl rfl (by simp only [mm_len, sp_e]; omega) ?_
                    refine hr_istore X dX6_common_61 (Nat.le_of_ble_eq_true rfl) ?_
                    have J91 : hm_W C (0 + r_X6_lengthOf.cells) (0 + r_X6_lengthOf.slots) (hm_T C (mm_W cA ad mo M0 (nI (sp_com sg rule j)) sg ta0) r_X6_common.cells r_X6_common.slots) M 91 [some (.ref mo), some (.int rule), some (.int (nI j)), some (.int (nI (sp_len rule))), some (.int (nI i)), some (.int (nI (sp_D (sp_rw rule) (fun i => sg 21 (12 * j + i)) i k))), some (.int (nI (k + 1))), some (.int (ta 22 (k + 1))), y8] [.int (nI (max (sp_D (sp_rw rule) (fun i => sg 21 (12 * j + i)) i (k + 1)) (sp_D (sp_rw rule) (fun i => sg 21 (12 * j + i)) (i + 1) k)))] := by
                      refine hr_istore X dX6_common_91 (Nat.le_of_ble_eq_true rfl) ?_
                      have J131 : hm_W C (0 + r_X6_lengthOf.cells) (0 + r_X6_lengthOf.slots) (hm_T C (mm_W cA ad mo M0 (nI (sp_com sg rule j)) sg ta0) r_X6_common.cells r_X6_common.slots) M 131 [some (.ref mo), some (.int rule), some (.int (nI j)), some (.int (nI (sp_len rule))), some (.int (nI i)), some (.int (nI (sp_D (sp_rw rule) (fun i => sg 21 (12 * j + i)) i k))), some (.int (nI (k + 1))), some (.int (ta 22 (k + 1))), some (.int (nI (max (sp_D (sp_rw rule) (fun i => sg 21 (12 * j + i)) i (k + 1)) (sp_D (sp_rw rule) (fun i => sg 21 (12 * j + i)) (i + 1) k))))] [.int (nI (sp_D (sp_rw rule) (fun i => sg 21 (12 * j + i)) (i + 1) (k + 1))), .int (nI (k + 1)), .ref (ad 22)] := by
                        have hnew : nI (sp_D (sp_rw rule) (fun i => sg 21 (12 * j + i)) (i + 1) (k + 1)) = nI (sp_D (sp_rw rule) (fun i => sg 21 (12 * j + i)) (i + 1) (k + 1)) := rfl
                        refine mm_iastT (k + 1) X dX6_common_131 hR rfl rfl (by simp only [mm_len, sp_e]; omega) (fun M131 hR => ?_)
                        refine hr_iload X dX6_common_132 rfl ?_
                        refine hr_istore X dX6_common_134 (Nat.le_of_ble_eq_true rfl) ?_
                        refine hr_iinc (1) X dX6_common_136 rfl (by decide) ?_
                        refine hr_goto 48 X dX6_common_139 (by decide) ?_
                        rw [mm_a1]
                        rw [h7 (k + 1) (by omega) (by omega)]
                        refine ih (k + 1) _ _ _ _ hR (fun q hq => (mm_up_j hq).trans (hta q hq)) (by omega) (by omega) (fun q hq => ?_) (fun q h8 h9 => ?_)
                        · by_cases e : q = k + 1
                          · subst e
                            rw [mm_up_s]
                          · rw [mm_up_x e]
                            exact h6 q (by omega)
                        · rw [mm_up_x (by omega)]
                          exact h7 q (by omega) h9
                      refine hr_aload_n X dX6_common_93 rfl (Or.inr ⟨_, rfl⟩) ?_
                      refine mm_getA X kF6_71 dX6_common_94 hR 22 rfl ?_
                      refine hr_iload X dX6_common_97 rfl ?_
                      refine hr_iload_n X dX6_common_99 rfl ?_
                      refine hr_iload X dX6_common_100 rfl ?_
                      refine hr_iconst (1) X dX6_common_102 (by decide) ?_
                      refine hr_isub X dX6_common_103 ?_
                      refine hr_callS X kC6_98 dX6_common_104 (c_X6_wordAt cA (M := _) rule (nI (k + 1) - 1)) rfl rfl rfl (Nat.le_of_ble_eq_true rfl) ⟨⟨(Nat.le_of_ble_eq_true rfl), (Nat.le_of_ble_eq_true rfl)⟩, (Nat.le_of_ble_eq_true rfl), (Nat.le_of_ble_eq_true rfl)⟩ (fun v M104 hp => ?_)
                      obtain ⟨rfl, rfl⟩ := hp
                      refine hr_aload_n X dX6_common_107 rfl (Or.inr ⟨_, rfl⟩) ?_
                      refine mm_getA X kF6_68 dX6_common_108 hR 21 rfl ?_
                      refine hr_bipush (12) X dX6_common_111 (by decide) ?_
                      refine hr_iload_n X dX6_common_113 rfl ?_
                      refine hr_imul X dX6_common_114 ?_
                      refine hr_iload X dX6_common_115 rfl ?_
                      refine hr_iadd X dX6_common_117 ?_
                      refine mm_iald (12 * j + i) X dX6_common_118 hR rfl (by simp only [mm_m2, mm_m3, mm_m4, mm_m5, mm_m12, mm_m16, nI_add, mm_a1, mm_a2, mm_a3, mm_a5, mm_a12, sp_e]) (by simp only [mm_len, sp_e]; omega) ?_
                      refine hr_icmp_ne 129 X dX6_common_119 (by decide) (fun c119 => ?_) (fun c119 => ?_)
                      · rw [nI_pred] at c119
                        have hz : nI (sp_D (sp_rw rule) (fun i => sg 21 (12 * j + i)) (i + 1) (k + 1)) = nI (max (sp_D (sp_rw rule) (fun i => sg 21 (12 * j + i)) i (k + 1)) (sp_D (sp_rw rule) (fun i => sg 21 (12 * j + i)) (i + 1) k)) := by rw [sp_D_step, if_neg (show ¬ sp_rw rule k = _ from c119)]
                        refine hr_iload X dX6_common_129 rfl ?_
                        exact hr_eq (by rw [hz] <;> rfl) J131
                      · rw [nI_pred] at c119
                        have hz : nI (sp_D (sp_rw rule) (fun i => sg 21 (12 * j + i)) (i + 1) (k + 1)) = nI (sp_D (sp_rw rule) (fun i => sg 21 (12 * j + i)) i k) + 1 := by rw [sp_D_step, if_pos (show sp_rw rule k = _ from c119), mm_a1]
                        refine hr_iload X dX6_common_122 rfl ?_
                        refine hr_iconst (1) X dX6_common_124 (by decide) ?_
                        refine hr_iadd X dX6_common_125 ?_
                        refine hr_goto 131 X dX6_common_126 (by decide) ?_
                        exact hr_eq (by rw [hz] <;> rfl) J131
                    refine hr_iload X dX6_common_63 rfl ?_
                    refine hr_aload_n X dX6_common_65 rfl (Or.inr ⟨_, rfl⟩) ?_
                    refine mm_getA X kF6_71 dX6_common_66 hR 22 rfl ?_
                    refine hr_iload X dX6_common_69 rfl ?_
                    refine hr_iconst (1) X dX6_common_71 (by decide) ?_
                    refine hr_isub X dX6_common_72 ?_
                    refine mm_ialdT (k) X dX6_common_73 hR rfl (nI_pred k) (by simp only [mm_len, sp_e]; omega) ?_
                    refine hr_icmp_le 82 X dX6_common_74 (by decide) (fun c74 => ?_) (fun c74 => ?_)
                    · rw [h7 (k + 1) (by omega) (by omega), h6 k (Nat.le_refl k)] at c74
                      have hb1 := sp_D_le (sp_rw rule) (fun i => sg 21 (12 * j + i)) i (k + 1)
                      have hb2 := sp_D_le (sp_rw rule) (fun i => sg 21 (12 * j + i)) (i + 1) k
                      have hc := (nI_leI (by omega) (by omega)).mp c74
                      have hz : nI (max (sp_D (sp_rw rule) (fun i => sg 21 (12 * j + i)) i (k + 1)) (sp_D (sp_rw rule) (fun i => sg 21 (12 * j + i)) (i + 1) k)) = ta 22 k := by rw [h6 k (Nat.le_refl k), Nat.max_eq_right hc]
                      refine hr_aload_n X dX6_common_82 rfl (Or.inr ⟨_, rfl⟩) ?_
                      refine mm_getA X kF6_71 dX6_common_83 hR 22 rfl ?_
                      refine hr_iload X dX6_common_86 rfl ?_
                      refine hr_iconst (1) X dX6_common_88 (by decide) ?_
                      refine hr_isub X dX6_common_89 ?_
                      refine mm_ialdT (k) X dX6_common_90 hR rfl (nI_pred k) (by simp only [mm_len, sp_e]; omega) ?_
                      exact hr_eq (by rw [hz] <;> rfl) J91
                    · rw [h7 (k + 1) (by omega) (by omega), h6 k (Nat.le_refl k)] at c74
                      have hb1 := sp_D_le (sp_rw rule) (fun i => sg 21 (12 * j + i)) i (k + 1)
                      have hb2 := sp_D_le (sp_rw rule) (fun i => sg 21 (12 * j + i)) (i + 1) k
                      have hc : sp_D (sp_rw rule) (fun i => sg 21 (12 * j + i)) (i + 1) k ≤ sp_D (sp_rw rule) (fun i => sg 21 (12 * j + i)) i (k + 1) := by
                        rcases Nat.lt_or_ge (sp_D (sp_rw rule) (fun i => sg 21 (12 * j + i)) i (k + 1)) (sp_D (sp_rw rule) (fun i => sg 21 (12 * j + i)) (i + 1) k) with q | q
                        · exact absurd (nI_le (Nat.le_of_lt q) (by omega)) c74
                        · exact q
                      have hz : nI (max (sp_D (sp_rw rule) (fun i => sg 21 (12 * j + i)) i (k + 1)) (sp_D (sp_rw rule) (fun i => sg 21 (12 * j + i)) (i + 1) k)) = ta 22 (k + 1) := by rw [h7 (k + 1) (by omega) (by omega), Nat.max_eq_left hc]
                      refine hr_iload X dX6_common_77 rfl ?_
                      refine hr_goto 91 X dX6_common_79 (by decide) ?_
                      exact hr_eq (by rw [hz] <;> rfl) J91
              have h0 := lp48 (sp_len rule + 1) 0 y7 y8 _ _ hR hta (by omega) (by omega) (fun q hq => by rw [Nat.le_zero.mp hq, sp_D_0, h3 0 (by omega), sp_D_0]) (fun q _ hq => h3 q hq)
              rw [sp_D_0] at h0
              exact h0
        exact lp31 (wc + 1) 0 _ _ _ _ _ _ hR hta (by omega) (by omega) (fun q hq => h3 q (by omega))
      · have hn : n ≤ sp_len rule := by
          rcases Nat.lt_or_ge (sp_len rule) n with q | q
          · exact absurd (nI_lt q (by omega)) c11
          · exact q
        refine hr_aload_n X dX6_common_14 rfl (Or.inr ⟨_, rfl⟩) ?_
        refine mm_getA X kF6_71 dX6_common_15 hR 22 rfl ?_
        refine hr_iload X dX6_common_18 rfl ?_
        refine hr_iconst (0) X dX6_common_20 (by decide) ?_
        refine mm_iastT (n) X dX6_common_21 hR rfl rfl (by simp only [mm_len, sp_e]; omega) (fun M21 hR => ?_)
        refine hr_iinc (1) X dX6_common_22 rfl (by decide) ?_
        refine hr_goto 8 X dX6_common_25 (by decide) ?_
        rw [mm_a1]
        exact ih (n + 1) _ _ hR (fun q hq => (mm_up_j hq).trans (hta q hq)) (by omega) (by omega) (fun q hq => by
          by_cases e : q = n
          · subst e; exact mm_up_s
          · rw [mm_up_x e]; exact h3 q (by omega))
  exact lp8 (sp_len rule + 2) 0 _ _ hR (fun _ _ => rfl) (by omega) (by omega) (fun q hq => absurd hq (Nat.not_lt_zero q))
set_option maxHeartbeats 4000000 in
set_option maxRecDepth 100000 in
theorem c_X6_gained (cA : Nat → ClassId) {sg ta0 : mm_S} {ad : Nat → Nat} {mo : Nat} {M0 M : hm_M} (hR : mm_R cA sg ta0 ad mo M0 M) (hI : sp_I sg) (e j : Nat) (he : e < 320) (hj : j < 240) (hk : sg 6 e = 0 ∨ sg 6 e = 1 ∨ sg 6 e = 2) : hm_Met cA yX6_gained cX6_gained 6 (some .int) r_X6_gained [.ref mo, .int (nI e), .int (nI j)] M (mm_W cA ad mo M0 (sp_gain sg e j) sg ta0) := by
  refine hm_met 3 (by decide +kernel) (fun w h => by simp only [List.mem_cons, List.not_mem_nil, or_false] at h; rcases h with rfl | rfl | rfl <;> rfl) rfl (fun C X => ?_)
  show hm_W C 0 0 _ M 0 [some (.ref mo), some (.int (nI e)), some (.int (nI j)), none, none, none] []
  obtain ⟨-, ⟨r, hr, hsr⟩, ⟨wc, hwc, hw⟩, -⟩ := hI.i12 j hj
  obtain ⟨i60, i61, i62⟩ := hI.i6 e he
  refine hr_aload_n X dX6_gained_0 rfl (Or.inr ⟨_, rfl⟩) ?_
  refine mm_getA X kF6_26 dX6_gained_1 hR 7 rfl ?_
  refine hr_iload_n X dX6_gained_4 rfl ?_
  refine mm_iald (e) X dX6_gained_5 hR rfl (by simp only [mm_m2, mm_m3, mm_m4, mm_m5, mm_m12, mm_m16, nI_add, mm_a1, mm_a2, mm_a3, mm_a5, mm_a12, sp_e]) (by simp only [mm_len, sp_e]; omega) ?_
  refine hr_istore_n X dX6_gained_6 (Nat.le_of_ble_eq_true rfl) ?_
  refine hr_aload_n X dX6_gained_7 rfl (Or.inr ⟨_, rfl⟩) ?_
  refine mm_getA X kF6_23 dX6_gained_8 hR 6 rfl ?_
  refine hr_iload_n X dX6_gained_11 rfl ?_
  refine mm_iald (e) X dX6_gained_12 hR rfl (by simp only [mm_m2, mm_m3, mm_m4, mm_m5, mm_m12, mm_m16, nI_add, mm_a1, mm_a2, mm_a3, mm_a5, mm_a12, sp_e]) (by simp only [mm_len, sp_e]; omega) ?_
  refine hr_if_ne 67 X dX6_gained_13 (by decide) (fun c13 => ?_) (fun c13 => ?_)
  · refine hr_aload_n X dX6_gained_67 rfl (Or.inr ⟨_, rfl⟩) ?_
    refine mm_getA X kF6_23 dX6_gained_68 hR 6 rfl ?_
    refine hr_iload_n X dX6_gained_71 rfl ?_
    refine mm_iald (e) X dX6_gained_72 hR rfl (by simp only [mm_m2, mm_m3, mm_m4, mm_m5, mm_m12, mm_m16, nI_add, mm_a1, mm_a2, mm_a3, mm_a5, mm_a12, sp_e]) (by simp only [mm_len, sp_e]; omega) ?_
    refine hr_iconst (1) X dX6_gained_73 (by decide) ?_
    refine hr_icmp_ne 156 X dX6_gained_74 (by decide) (fun c74 => ?_) (fun c74 => ?_)
    · have hk2 : sg 6 e = 2 := by
        rcases hk with q | q | q
        · exact absurd q c13
        · exact absurd q c74
        · exact q
      obtain ⟨hp2, hr2⟩ := i62 hk2
      refine hr_iload_n X dX6_gained_156 rfl ?_
      refine hr_aload_n X dX6_gained_157 rfl (Or.inr ⟨_, rfl⟩) ?_
      refine hr_aload_n X dX6_gained_158 rfl (Or.inr ⟨_, rfl⟩) ?_
      refine mm_getA X kF6_29 dX6_gained_159 hR 8 rfl ?_
      refine hr_iload_n X dX6_gained_162 rfl ?_
      refine mm_iald (e) X dX6_gained_163 hR rfl (by simp only [mm_m2, mm_m3, mm_m4, mm_m5, mm_m12, mm_m16, nI_add, mm_a1, mm_a2, mm_a3, mm_a5, mm_a12, sp_e]) (by simp only [mm_len, sp_e]; omega) ?_
      refine hr_iload_n X dX6_gained_164 rfl ?_
      refine hr_callV X kC6_174 dX6_gained_165 (c_X6_common cA hR (sg 8 e) j wc hj hw (by omega)) hR.1 rfl rfl rfl rfl (Nat.le_of_ble_eq_true rfl) ⟨⟨(Nat.le_of_ble_eq_true rfl), (Nat.le_of_ble_eq_true rfl)⟩, (Nat.le_of_ble_eq_true rfl), (Nat.le_of_ble_eq_true rfl)⟩ (fun v M165 hp165 => ?_)
      obtain ⟨ta1, hR, rfl, hta⟩ := hp165
      refine hr_imul X dX6_gained_168 ?_
      refine hr_aload_n X dX6_gained_169 rfl (Or.inr ⟨_, rfl⟩) ?_
      refine mm_getA X kF6_29 dX6_gained_170 hR 8 rfl ?_
      refine hr_iload_n X dX6_gained_173 rfl ?_
      refine mm_iald (e) X dX6_gained_174 hR rfl (by simp only [mm_m2, mm_m3, mm_m4, mm_m5, mm_m12, mm_m16, nI_add, mm_a1, mm_a2, mm_a3, mm_a5, mm_a12, sp_e]) (by simp only [mm_len, sp_e]; omega) ?_
      refine hr_callS X kC6_103 dX6_gained_175 (c_X6_lengthOf cA (M := _) (sg 8 e)) rfl rfl rfl (Nat.le_of_ble_eq_true rfl) ⟨⟨(Nat.le_of_ble_eq_true rfl), (Nat.le_of_ble_eq_true rfl)⟩, (Nat.le_of_ble_eq_true rfl), (Nat.le_of_ble_eq_true rfl)⟩ (fun v M175 hp => ?_)
      obtain ⟨rfl, rfl⟩ := hp
      refine hr_idiv X dX6_gained_178 (sp_row_len0 hr2) ?_
      exact hr_iret X dX6_gained_179 (Nat.le_of_ble_eq_true rfl) (Nat.le_of_ble_eq_true rfl) ⟨_, hR, by rw [sp_gain, if_neg c13, if_neg c74], hta⟩
    · have hk1 : sg 6 e = 1 := c74
      obtain ⟨hp1, hr1⟩ := i61 hk1
      obtain ⟨b, hb, hrb⟩ := sp_in_nat (b := 31) (by decide) hr1
      obtain ⟨ha1, ha2, ha3, ha4⟩ := sp_and32 r hr b (by omega)
      have eb : nN (sg 8 e) = b := by rw [hrb]; exact nI_clamp (by omega)
      have e1 : nN (sg 19 j &&& sg 8 e) = r &&& b := by rw [hsr, hrb, ha1]; exact nI_clamp (by omega)
      have e2 : nN (sg 19 j &&& (sg 8 e ^^^ -1)) = r - (r &&& b) := by rw [hsr, hrb, ha2]; exact nI_clamp (by omega)
      refine hr_aload_n X dX6_gained_77 rfl (Or.inr ⟨_, rfl⟩) ?_
      refine mm_getA X kF6_29 dX6_gained_78 hR 8 rfl ?_
      refine hr_iload_n X dX6_gained_81 rfl ?_
      refine mm_iald (e) X dX6_gained_82 hR rfl (by simp only [mm_m2, mm_m3, mm_m4, mm_m5, mm_m12, mm_m16, nI_add, mm_a1, mm_a2, mm_a3, mm_a5, mm_a12, sp_e]) (by simp only [mm_len, sp_e]; omega) ?_
      refine hr_istore X dX6_gained_83 (Nat.le_of_ble_eq_true rfl) ?_
      refine hr_aload_n X dX6_gained_85 rfl (Or.inr ⟨_, rfl⟩) ?_
      refine mm_getA X kF6_62 dX6_gained_86 hR 19 rfl ?_
      refine hr_iload_n X dX6_gained_89 rfl ?_
      refine mm_iald (j) X dX6_gained_90 hR rfl (by simp only [mm_m2, mm_m3, mm_m4, mm_m5, mm_m12, mm_m16, nI_add, mm_a1, mm_a2, mm_a3, mm_a5, mm_a12, sp_e]) (by simp only [mm_len, sp_e]; omega) ?_
      refine hr_iload X dX6_gained_91 rfl ?_
      refine hr_iand X dX6_gained_93 ?_
      rw [show sg 19 j &&& sg 8 e = nI (r &&& b) by rw [hsr, hrb, ha1]]
      refine hr_callS X kC6_171 dX6_gained_94 (c_X6_bits cA (M := M) (r &&& b) ha3) rfl rfl rfl (Nat.le_of_ble_eq_true rfl) ⟨⟨(Nat.le_of_ble_eq_true rfl), (Nat.le_of_ble_eq_true rfl)⟩, (Nat.le_of_ble_eq_true rfl), (Nat.le_of_ble_eq_true rfl)⟩ (fun v M94 hp => ?_)
      obtain ⟨rfl, rfl⟩ := hp
      refine hr_aload_n X dX6_gained_97 rfl (Or.inr ⟨_, rfl⟩) ?_
      refine mm_getA X kF6_62 dX6_gained_98 hR 19 rfl ?_
      refine hr_iload_n X dX6_gained_101 rfl ?_
      refine mm_iald (j) X dX6_gained_102 hR rfl (by simp only [mm_m2, mm_m3, mm_m4, mm_m5, mm_m12, mm_m16, nI_add, mm_a1, mm_a2, mm_a3, mm_a5, mm_a12, sp_e]) (by simp only [mm_len, sp_e]; omega) ?_
      refine hr_iload X dX6_gained_103 rfl ?_
      refine hr_iconst (-1) X dX6_gained_105 (by decide) ?_
      refine hr_ixor X dX6_gained_106 ?_
      refine hr_iand X dX6_gained_107 ?_
      rw [show sg 19 j &&& (sg 8 e ^^^ -1) = nI (r - (r &&& b)) by rw [hsr, hrb, ha2]]
      refine hr_callS X kC6_171 dX6_gained_108 (c_X6_bits cA (M := M) (r - (r &&& b)) ha4) rfl rfl rfl (Nat.le_of_ble_eq_true rfl) ⟨⟨(Nat.le_of_ble_eq_true rfl), (Nat.le_of_ble_eq_true rfl)⟩, (Nat.le_of_ble_eq_true rfl), (Nat.le_of_ble_eq_true rfl)⟩ (fun v M108 hp => ?_)
      obtain ⟨rfl, rfl⟩ := hp
      refine hr_isub X dX6_gained_111 ?_
      refine hr_istore X dX6_gained_112 (Nat.le_of_ble_eq_true rfl) ?_
      refine hr_iload X dX6_gained_114 rfl ?_
      refine hr_if_ne 136 X dX6_gained_116 (by decide) (fun c116 => ?_) (fun c116 => ?_)
      · refine hr_iload X dX6_gained_136 rfl ?_
        refine hr_if_le 154 X dX6_gained_138 (by decide) (fun c138 => ?_) (fun c138 => ?_)
        · have hz : sp_gain sg e j = 0 := by
            rw [sp_gain, if_neg c13, if_pos hk1, sp_cho, if_neg c116, e1, e2, if_neg (Int32.not_lt.mpr c138)]
          refine hr_iconst (0) X dX6_gained_154 (by decide) ?_
          exact hr_iret X dX6_gained_155 (Nat.le_of_ble_eq_true rfl) (Nat.le_of_ble_eq_true rfl) ⟨_, hR, by rw [hz], fun _ _ => rfl⟩
        · have hb0 : b ≠ 0 := fun q => c116 (by rw [hrb, q]; rfl)
          have hz : sp_gain sg e j = sg 7 e * (nI (sp_pop (r &&& b)) - nI (sp_pop (r - (r &&& b)))) / nI (sp_pop b) := by
            rw [sp_gain, if_neg c13, if_pos hk1, sp_cho, if_neg c116, e1, e2, if_pos (Int32.not_le.mp c138), eb]
          refine hr_iload_n X dX6_gained_141 rfl ?_
          refine hr_iload X dX6_gained_142 rfl ?_
          refine hr_imul X dX6_gained_144 ?_
          refine hr_iload X dX6_gained_145 rfl ?_
          rw [hrb]
          refine hr_callS X kC6_171 dX6_gained_147 (c_X6_bits cA (M := M) b (by omega)) rfl rfl rfl (Nat.le_of_ble_eq_true rfl) ⟨⟨(Nat.le_of_ble_eq_true rfl), (Nat.le_of_ble_eq_true rfl)⟩, (Nat.le_of_ble_eq_true rfl), (Nat.le_of_ble_eq_true rfl)⟩ (fun v M147 hp => ?_)
          obtain ⟨rfl, rfl⟩ := hp
          refine hr_idiv X dX6_gained_150 (sp_pop_0 b (by omega) hb0) ?_
          refine hr_goto 155 X dX6_gained_151 (by decide) ?_
          exact hr_iret X dX6_gained_155 (Nat.le_of_ble_eq_true rfl) (Nat.le_of_ble_eq_true rfl) ⟨_, hR, by rw [hz], fun _ _ => rfl⟩
      · refine hr_aload_n X dX6_gained_119 rfl (Or.inr ⟨_, rfl⟩) ?_
        refine mm_getA X kF6_62 dX6_gained_120 hR 19 rfl ?_
        refine hr_iload_n X dX6_gained_123 rfl ?_
        refine mm_iald (j) X dX6_gained_124 hR rfl (by simp only [mm_m2, mm_m3, mm_m4, mm_m5, mm_m12, mm_m16, nI_add, mm_a1, mm_a2, mm_a3, mm_a5, mm_a12, sp_e]) (by simp only [mm_len, sp_e]; omega) ?_
        refine hr_if_ne 132 X dX6_gained_125 (by decide) (fun c125 => ?_) (fun c125 => ?_)
        · have hz : sp_gain sg e j = 0 := by simp [sp_gain, hk1, sp_cho, c116, c125]
          refine hr_iconst (0) X dX6_gained_132 (by decide) ?_
          refine hr_goto 155 X dX6_gained_133 (by decide) ?_
          exact hr_iret X dX6_gained_155 (Nat.le_of_ble_eq_true rfl) (Nat.le_of_ble_eq_true rfl) ⟨_, hR, by rw [hz], fun _ _ => rfl⟩
        · have hz : sp_gain sg e j = sg 7 e := by simp [sp_gain, hk1, sp_cho, c116, c125]
          refine hr_iload_n X dX6_gained_128 rfl ?_
          refine hr_goto 155 X dX6_gained_129 (by decide) ?_
          exact hr_iret X dX6_gained_155 (Nat.le_of_ble_eq_true rfl) (Nat.le_of_ble_eq_true rfl) ⟨_, hR, by rw [hz], fun _ _ => rfl⟩
  · refine hr_aload_n X dX6_gained_16 rfl (Or.inr ⟨_, rfl⟩) ?_
    refine mm_getA X kF6_59 dX6_gained_17 hR 18 rfl ?_
    refine hr_iload_n X dX6_gained_20 rfl ?_
    refine mm_iald (j) X dX6_gained_21 hR rfl (by simp only [mm_m2, mm_m3, mm_m4, mm_m5, mm_m12, mm_m16, nI_add, mm_a1, mm_a2, mm_a3, mm_a5, mm_a12, sp_e]) (by simp only [mm_len, sp_e]; omega) ?_
    refine hr_aload_n X dX6_gained_22 rfl (Or.inr ⟨_, rfl⟩) ?_
    refine mm_getA X kF6_29 dX6_gained_23 hR 8 rfl ?_
    refine hr_iload_n X dX6_gained_26 rfl ?_
    refine mm_iald (e) X dX6_gained_27 hR rfl (by simp only [mm_m2, mm_m3, mm_m4, mm_m5, mm_m12, mm_m16, nI_add, mm_a1, mm_a2, mm_a3, mm_a5, mm_a12, sp_e]) (by simp only [mm_len, sp_e]; omega) ?_
    refine hr_isub X dX6_gained_28 ?_
    refine hr_istore X dX6_gained_29 (Nat.le_of_ble_eq_true rfl) ?_
    refine hr_aload_n X dX6_gained_31 rfl (Or.inr ⟨_, rfl⟩) ?_
    refine mm_getA X kF6_56 dX6_gained_32 hR 17 rfl ?_
    refine hr_iload_n X dX6_gained_35 rfl ?_
    refine mm_zald (j) X dX6_gained_36 hR rfl (by simp only [mm_m2, mm_m3, mm_m4, mm_m5, mm_m12, mm_m16, nI_add, mm_a1, mm_a2, mm_a3, mm_a5, mm_a12, sp_e]) (by simp only [mm_len, sp_e]; omega) ?_
    refine hr_if_eq 65 X dX6_gained_37 (by decide) (fun c37 => ?_) (fun c37 => ?_)
    · have hz : sp_gain sg e j = 0 := by simp [sp_gain, c13, c37]
      refine hr_iconst (0) X dX6_gained_65 (by decide) ?_
      exact hr_iret X dX6_gained_66 (Nat.le_of_ble_eq_true rfl) (Nat.le_of_ble_eq_true rfl) ⟨_, hR, by rw [hz], fun _ _ => rfl⟩
    · refine hr_iload X dX6_gained_40 rfl ?_
      refine hr_aload_n X dX6_gained_42 rfl (Or.inr ⟨_, rfl⟩) ?_
      refine mm_getA X kF6_32 dX6_gained_43 hR 9 rfl ?_
      refine hr_iload_n X dX6_gained_46 rfl ?_
      refine mm_iald (e) X dX6_gained_47 hR rfl (by simp only [mm_m2, mm_m3, mm_m4, mm_m5, mm_m12, mm_m16, nI_add, mm_a1, mm_a2, mm_a3, mm_a5, mm_a12, sp_e]) (by simp only [mm_len, sp_e]; omega) ?_
      refine hr_ineg X dX6_gained_48 ?_
      refine hr_aload_n X dX6_gained_49 rfl (Or.inr ⟨_, rfl⟩) ?_
      refine mm_getA X kF6_32 dX6_gained_50 hR 9 rfl ?_
      refine hr_iload_n X dX6_gained_53 rfl ?_
      refine mm_iald (e) X dX6_gained_54 hR rfl (by simp only [mm_m2, mm_m3, mm_m4, mm_m5, mm_m12, mm_m16, nI_add, mm_a1, mm_a2, mm_a3, mm_a5, mm_a12, sp_e]) (by simp only [mm_len, sp_e]; omega) ?_
      refine hr_callS X kC6_87 dX6_gained_55 (c_X6_in cA (M := M) (sg 18 j - sg 8 e) (-(sg 9 e)) (sg 9 e)) rfl rfl rfl (Nat.le_of_ble_eq_true rfl) ⟨⟨(Nat.le_of_ble_eq_true rfl), (Nat.le_of_ble_eq_true rfl)⟩, (Nat.le_of_ble_eq_true rfl), (Nat.le_of_ble_eq_true rfl)⟩ (fun v M55 hp => ?_)
      obtain ⟨rfl, rfl⟩ := hp
      refine hr_if_eq 65 X dX6_gained_58 (by decide) (fun c58 => ?_) (fun c58 => ?_)
      · rw [hm_bI_eq] at c58
        have hz : sp_gain sg e j = 0 := by simp [sp_gain, c13, c58]
        refine hr_iconst (0) X dX6_gained_65 (by decide) ?_
        exact hr_iret X dX6_gained_66 (Nat.le_of_ble_eq_true rfl) (Nat.le_of_ble_eq_true rfl) ⟨_, hR, by rw [hz], fun _ _ => rfl⟩
      · rw [hm_bI_ne] at c58
        have hz : sp_gain sg e j = sg 7 e := by simp [sp_gain, c13, c37, c58]
        refine hr_iload_n X dX6_gained_61 rfl ?_
        refine hr_goto 66 X dX6_gained_62 (by decide) ?_
        exact hr_iret X dX6_gained_66 (Nat.le_of_ble_eq_true rfl) (Nat.le_of_ble_eq_true rfl) ⟨_, hR, by rw [hz], fun _ _ => rfl⟩
