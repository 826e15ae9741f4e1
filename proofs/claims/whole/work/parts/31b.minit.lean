set_option maxHeartbeats 4000000 in
set_option maxRecDepth 100000 in
theorem c_X6_init (cA : Nat → ClassId) {mo : Nat} {M : hm_M} (hmo : M mo = some (.inr (6, mm_fi 2 (fun _ => 0)))) : hm_Met cA yX6_init cX6_init 2 none r_X6_init [.ref mo] M (fun r9 M' => ∃ ad : Nat → Nat, mm_R cA (sp_S0 4 320) (fun _ _ => 0) ad mo M M' ∧ r9 = none ∧ ∀ j, mm_ar j = true → M (ad j) = none) := by
  refine hm_met 1 (by decide +kernel) (fun w h => by simp only [List.mem_cons, List.not_mem_nil, or_false] at h; rcases h with rfl <;> rfl) rfl (fun C X => ?_)
  show hm_W C 0 0 _ M 0 [some (.ref mo), none] []
  refine hr_aload_n X dX6_init_0 rfl (Or.inr ⟨_, rfl⟩) ?_
  refine hr_objInit X dX6_init_1 kO6_1 kO_i kO_c rfl ⟨(Nat.le_of_ble_eq_true rfl), (Nat.le_of_ble_eq_true rfl)⟩ ?_
  have hI2 : mm_I cA 2 (fun _ => 0) mo M M := ⟨hmo, fun j h1 h2 => absurd (show 2 ≤ j by simp only [mm_ar, Bool.and_eq_true, decide_eq_true_eq] at h1; omega) (by omega), fun i j h1 _ h3 => absurd (show 2 ≤ i by simp only [mm_ar, Bool.and_eq_true, decide_eq_true_eq] at h1; omega) (by omega), fun _ _ _ => rfl⟩
  refine hr_aload_n X dX6_init_4 rfl (Or.inr ⟨_, rfl⟩) ?_
  refine hr_bipush (64) X dX6_init_5 (by decide) ?_
  refine mm_newZ X dX6_init_7 kF6_7 dX6_init_9 rfl hI2 rfl ⟨by decide, by decide⟩ (fun _ => ⟨rfl, rfl⟩) ⟨(Nat.le_of_ble_eq_true rfl), (Nat.le_of_ble_eq_true rfl)⟩ (fun M7 ad7 hI3 => ?_)
  refine hr_aload_n X dX6_init_12 rfl (Or.inr ⟨_, rfl⟩) ?_
  refine hr_bipush (64) X dX6_init_13 (by decide) ?_
  refine mm_newI X dX6_init_15 kF6_13 dX6_init_17 rfl hI3 rfl ⟨by decide, by decide⟩ (fun _ => ⟨rfl, rfl⟩) ⟨(Nat.le_of_ble_eq_true rfl), (Nat.le_of_ble_eq_true rfl)⟩ (fun M15 ad15 hI4 => ?_)
  refine hr_aload_n X dX6_init_20 rfl (Or.inr ⟨_, rfl⟩) ?_
  refine hr_bipush (64) X dX6_init_21 (by decide) ?_
  refine mm_newI X dX6_init_23 kF6_17 dX6_init_25 rfl hI4 rfl ⟨by decide, by decide⟩ (fun _ => ⟨rfl, rfl⟩) ⟨(Nat.le_of_ble_eq_true rfl), (Nat.le_of_ble_eq_true rfl)⟩ (fun M23 ad23 hI5 => ?_)
  refine hr_aload_n X dX6_init_28 rfl (Or.inr ⟨_, rfl⟩) ?_
  refine hr_iconst (4) X dX6_init_29 (by decide) ?_
  refine mm_newI X dX6_init_30 kF6_20 dX6_init_32 rfl hI5 rfl ⟨by decide, by decide⟩ (fun _ => ⟨rfl, rfl⟩) ⟨(Nat.le_of_ble_eq_true rfl), (Nat.le_of_ble_eq_true rfl)⟩ (fun M30 ad30 hI6 => ?_)
  refine hr_aload_n X dX6_init_35 rfl (Or.inr ⟨_, rfl⟩) ?_
  refine hr_sipush (320) X dX6_init_36 (by decide) ?_
  refine mm_newI X dX6_init_39 kF6_23 dX6_init_41 rfl hI6 rfl ⟨by decide, by decide⟩ (fun _ => ⟨rfl, rfl⟩) ⟨(Nat.le_of_ble_eq_true rfl), (Nat.le_of_ble_eq_true rfl)⟩ (fun M39 ad39 hI7 => ?_)
  refine hr_aload_n X dX6_init_44 rfl (Or.inr ⟨_, rfl⟩) ?_
  refine hr_sipush (320) X dX6_init_45 (by decide) ?_
  refine mm_newI X dX6_init_48 kF6_26 dX6_init_50 rfl hI7 rfl ⟨by decide, by decide⟩ (fun _ => ⟨rfl, rfl⟩) ⟨(Nat.le_of_ble_eq_true rfl), (Nat.le_of_ble_eq_true rfl)⟩ (fun M48 ad48 hI8 => ?_)
  refine hr_aload_n X dX6_init_53 rfl (Or.inr ⟨_, rfl⟩) ?_
  refine hr_sipush (320) X dX6_init_54 (by decide) ?_
  refine mm_newI X dX6_init_57 kF6_29 dX6_init_59 rfl hI8 rfl ⟨by decide, by decide⟩ (fun _ => ⟨rfl, rfl⟩) ⟨(Nat.le_of_ble_eq_true rfl), (Nat.le_of_ble_eq_true rfl)⟩ (fun M57 ad57 hI9 => ?_)
  refine hr_aload_n X dX6_init_62 rfl (Or.inr ⟨_, rfl⟩) ?_
  refine hr_sipush (320) X dX6_init_63 (by decide) ?_
  refine mm_newI X dX6_init_66 kF6_32 dX6_init_68 rfl hI9 rfl ⟨by decide, by decide⟩ (fun _ => ⟨rfl, rfl⟩) ⟨(Nat.le_of_ble_eq_true rfl), (Nat.le_of_ble_eq_true rfl)⟩ (fun M66 ad66 hI10 => ?_)
  refine hr_aload_n X dX6_init_71 rfl (Or.inr ⟨_, rfl⟩) ?_
  refine hr_bipush (16) X dX6_init_72 (by decide) ?_
  refine mm_newI X dX6_init_74 kF6_35 dX6_init_76 rfl hI10 rfl ⟨by decide, by decide⟩ (fun _ => ⟨rfl, rfl⟩) ⟨(Nat.le_of_ble_eq_true rfl), (Nat.le_of_ble_eq_true rfl)⟩ (fun M74 ad74 hI11 => ?_)
  refine hr_aload_n X dX6_init_79 rfl (Or.inr ⟨_, rfl⟩) ?_
  refine hr_bipush (16) X dX6_init_80 (by decide) ?_
  refine mm_newZ X dX6_init_82 kF6_38 dX6_init_84 rfl hI11 rfl ⟨by decide, by decide⟩ (fun _ => ⟨rfl, rfl⟩) ⟨(Nat.le_of_ble_eq_true rfl), (Nat.le_of_ble_eq_true rfl)⟩ (fun M82 ad82 hI12 => ?_)
  refine hr_aload_n X dX6_init_87 rfl (Or.inr ⟨_, rfl⟩) ?_
  refine hr_iconst (4) X dX6_init_88 (by decide) ?_
  refine mm_newI X dX6_init_89 kF6_41 dX6_init_91 rfl hI12 rfl ⟨by decide, by decide⟩ (fun _ => ⟨rfl, rfl⟩) ⟨(Nat.le_of_ble_eq_true rfl), (Nat.le_of_ble_eq_true rfl)⟩ (fun M89 ad89 hI13 => ?_)
  refine hr_aload_n X dX6_init_94 rfl (Or.inr ⟨_, rfl⟩) ?_
  refine hr_bipush (48) X dX6_init_95 (by decide) ?_
  refine mm_newI X dX6_init_97 kF6_44 dX6_init_99 rfl hI13 rfl ⟨by decide, by decide⟩ (fun _ => ⟨rfl, rfl⟩) ⟨(Nat.le_of_ble_eq_true rfl), (Nat.le_of_ble_eq_true rfl)⟩ (fun M97 ad97 hI14 => ?_)
  refine hr_aload_n X dX6_init_102 rfl (Or.inr ⟨_, rfl⟩) ?_
  refine hr_bipush (48) X dX6_init_103 (by decide) ?_
  refine mm_newI X dX6_init_105 kF6_47 dX6_init_107 rfl hI14 rfl ⟨by decide, by decide⟩ (fun _ => ⟨rfl, rfl⟩) ⟨(Nat.le_of_ble_eq_true rfl), (Nat.le_of_ble_eq_true rfl)⟩ (fun M105 ad105 hI15 => ?_)
  refine hr_aload_n X dX6_init_110 rfl (Or.inr ⟨_, rfl⟩) ?_
  refine hr_bipush (48) X dX6_init_111 (by decide) ?_
  refine mm_newI X dX6_init_113 kF6_50 dX6_init_115 rfl hI15 rfl ⟨by decide, by decide⟩ (fun _ => ⟨rfl, rfl⟩) ⟨(Nat.le_of_ble_eq_true rfl), (Nat.le_of_ble_eq_true rfl)⟩ (fun M113 ad113 hI16 => ?_)
  refine hr_aload_n X dX6_init_118 rfl (Or.inr ⟨_, rfl⟩) ?_
  refine hr_bipush (48) X dX6_init_119 (by decide) ?_
  refine mm_newI X dX6_init_121 kF6_53 dX6_init_123 rfl hI16 rfl ⟨by decide, by decide⟩ (fun _ => ⟨rfl, rfl⟩) ⟨(Nat.le_of_ble_eq_true rfl), (Nat.le_of_ble_eq_true rfl)⟩ (fun M121 ad121 hI17 => ?_)
  refine hr_aload_n X dX6_init_126 rfl (Or.inr ⟨_, rfl⟩) ?_
  refine hr_sipush (240) X dX6_init_127 (by decide) ?_
  refine mm_newZ X dX6_init_130 kF6_56 dX6_init_132 rfl hI17 rfl ⟨by decide, by decide⟩ (fun _ => ⟨rfl, rfl⟩) ⟨(Nat.le_of_ble_eq_true rfl), (Nat.le_of_ble_eq_true rfl)⟩ (fun M130 ad130 hI18 => ?_)
  refine hr_aload_n X dX6_init_135 rfl (Or.inr ⟨_, rfl⟩) ?_
  refine hr_sipush (240) X dX6_init_136 (by decide) ?_
  refine mm_newI X dX6_init_139 kF6_59 dX6_init_141 rfl hI18 rfl ⟨by decide, by decide⟩ (fun _ => ⟨rfl, rfl⟩) ⟨(Nat.le_of_ble_eq_true rfl), (Nat.le_of_ble_eq_true rfl)⟩ (fun M139 ad139 hI19 => ?_)
  refine hr_aload_n X dX6_init_144 rfl (Or.inr ⟨_, rfl⟩) ?_
  refine hr_sipush (240) X dX6_init_145 (by decide) ?_
  refine mm_newI X dX6_init_148 kF6_62 dX6_init_150 rfl hI19 rfl ⟨by decide, by decide⟩ (fun _ => ⟨rfl, rfl⟩) ⟨(Nat.le_of_ble_eq_true rfl), (Nat.le_of_ble_eq_true rfl)⟩ (fun M148 ad148 hI20 => ?_)
  refine hr_aload_n X dX6_init_153 rfl (Or.inr ⟨_, rfl⟩) ?_
  refine hr_sipush (240) X dX6_init_154 (by decide) ?_
  refine mm_newI X dX6_init_157 kF6_65 dX6_init_159 rfl hI20 rfl ⟨by decide, by decide⟩ (fun _ => ⟨rfl, rfl⟩) ⟨(Nat.le_of_ble_eq_true rfl), (Nat.le_of_ble_eq_true rfl)⟩ (fun M157 ad157 hI21 => ?_)
  refine hr_aload_n X dX6_init_162 rfl (Or.inr ⟨_, rfl⟩) ?_
  refine hr_sipush (2880) X dX6_init_163 (by decide) ?_
  refine mm_newI X dX6_init_166 kF6_68 dX6_init_168 rfl hI21 rfl ⟨by decide, by decide⟩ (fun _ => ⟨rfl, rfl⟩) ⟨(Nat.le_of_ble_eq_true rfl), (Nat.le_of_ble_eq_true rfl)⟩ (fun M166 ad166 hI22 => ?_)
  refine hr_aload_n X dX6_init_171 rfl (Or.inr ⟨_, rfl⟩) ?_
  refine hr_bipush (13) X dX6_init_172 (by decide) ?_
  refine mm_newI X dX6_init_174 kF6_71 dX6_init_176 rfl hI22 rfl ⟨by decide, by decide⟩ (fun _ => ⟨rfl, rfl⟩) ⟨(Nat.le_of_ble_eq_true rfl), (Nat.le_of_ble_eq_true rfl)⟩ (fun M174 ad174 hI23 => ?_)
  refine hr_aload_n X dX6_init_179 rfl (Or.inr ⟨_, rfl⟩) ?_
  refine hr_bipush (48) X dX6_init_180 (by decide) ?_
  refine mm_newI X dX6_init_182 kF6_74 dX6_init_184 rfl hI23 rfl ⟨by decide, by decide⟩ (fun _ => ⟨rfl, rfl⟩) ⟨(Nat.le_of_ble_eq_true rfl), (Nat.le_of_ble_eq_true rfl)⟩ (fun M182 ad182 hI24 => ?_)
  refine hr_aload_n X dX6_init_187 rfl (Or.inr ⟨_, rfl⟩) ?_
  refine hr_bipush (50) X dX6_init_188 (by decide) ?_
  refine mm_newI X dX6_init_190 kF6_77 dX6_init_192 rfl hI24 rfl ⟨by decide, by decide⟩ (fun _ => ⟨rfl, rfl⟩) ⟨(Nat.le_of_ble_eq_true rfl), (Nat.le_of_ble_eq_true rfl)⟩ (fun M190 ad190 hI25 => ?_)
  have hI26 := hI25.skip
  refine hr_aload_n X dX6_init_195 rfl (Or.inr ⟨_, rfl⟩) ?_
  refine hr_bipush (50) X dX6_init_196 (by decide) ?_
  refine mm_newI X dX6_init_198 kF6_80 dX6_init_200 rfl hI26 rfl ⟨by decide, by decide⟩ (fun _ => ⟨rfl, rfl⟩) ⟨(Nat.le_of_ble_eq_true rfl), (Nat.le_of_ble_eq_true rfl)⟩ (fun M198 ad198 hI27 => ?_)
  have hR := hI27.done
  have hfr : ∀ j, mm_ar j = true → M (ad198 j) = none := fun j hj => (hI27.2.1 j hj (by simp only [mm_ar, Bool.and_eq_true, decide_eq_true_eq] at hj; omega)).2
  refine hr_widen (k2 := r_X6_init.cells) (n2 := r_X6_init.slots) (Nat.le_of_ble_eq_true rfl) (Nat.le_of_ble_eq_true rfl) ?_
  refine hr_iconst (0) X dX6_init_203 (by decide) ?_
  refine hr_istore_n X dX6_init_204 (Nat.le_of_ble_eq_true rfl) ?_
  have lp205 : ∀ (f : Nat) (n : Nat) (M2 : hm_M), mm_R cA (sp_S0 n 0) (fun _ _ => 0) ad198 mo M M2 → n ≤ 4 → 4 < n + f → hm_W C r_X6_init.cells r_X6_init.slots (hm_T C (fun r9 M' => ∃ ad : Nat → Nat, mm_R cA (sp_S0 4 320) (fun _ _ => 0) ad mo M M' ∧ r9 = none ∧ ∀ j, mm_ar j = true → M (ad j) = none) r_X6_init.cells r_X6_init.slots) M2 205 [some (.ref mo), some (.int (nI n))] [] := by
    intro f
    induction f with
    | zero => intro n M2 hR h1 h2; exact absurd h2 (by omega)
    | succ f ih =>
      intro n M2 hR h1 h2
      refine hr_iload_n X dX6_init_205 rfl ?_
      refine hr_iconst (4) X dX6_init_206 (by decide) ?_
      refine hr_icmp_ge 224 X dX6_init_207 (by decide) (fun c207 => ?_) (fun c207 => ?_)
      · have hz : n = 4 := by have := (nI_leI (a := 4) (by decide) (by omega)).mp c207; omega
        subst hz
        refine hr_iconst (0) X dX6_init_224 (by decide) ?_
        refine hr_istore_n X dX6_init_225 (Nat.le_of_ble_eq_true rfl) ?_
        have lp226 : ∀ (f : Nat) (n : Nat) (M2 : hm_M), mm_R cA (sp_S0 4 n) (fun _ _ => 0) ad198 mo M M2 → n ≤ 320 → 320 < n + f → hm_W C r_X6_init.cells r_X6_init.slots (hm_T C (fun r9 M' => ∃ ad : Nat → Nat, mm_R cA (sp_S0 4 320) (fun _ _ => 0) ad mo M M' ∧ r9 = none ∧ ∀ j, mm_ar j = true → M (ad j) = none) r_X6_init.cells r_X6_init.slots) M2 226 [some (.ref mo), some (.int (nI n))] [] := by
          intro f
          induction f with
          | zero => intro n M2 hR h3 h4; exact absurd h4 (by omega)
          | succ f ih226 =>
            intro n M2 hR h3 h4
            refine hr_iload_n X dX6_init_226 rfl ?_
            refine hr_sipush (320) X dX6_init_227 (by decide) ?_
            refine hr_icmp_ge 246 X dX6_init_230 (by decide) (fun c230 => ?_) (fun c230 => ?_)
            · have hz : n = 320 := by have := (nI_leI (a := 320) (by decide) (by omega)).mp c230; omega
              subst hz
              exact hr_vret X dX6_init_246 (Nat.le_of_ble_eq_true rfl) (Nat.le_of_ble_eq_true rfl) ⟨_, hR, rfl, hfr⟩
            · have hn : n < 320 := by
                rcases Nat.lt_or_ge n 320 with q | q
                · exact q
                · exact absurd (nI_le (by omega) (by omega)) c230
              refine hr_aload_n X dX6_init_233 rfl (Or.inr ⟨_, rfl⟩) ?_
              refine mm_getA X kF6_23 dX6_init_234 hR 6 rfl ?_
              refine hr_iload_n X dX6_init_237 rfl ?_
              refine hr_iconst (4) X dX6_init_238 (by decide) ?_
              refine mm_iast (n) X dX6_init_239 hR rfl rfl (by simp only [mm_len, sp_e]; omega) (fun M239 hR => ?_)
              rw [sp_S0_k] at hR
              refine hr_iinc (1) X dX6_init_240 rfl (by decide) ?_
              refine hr_goto 226 X dX6_init_243 (by decide) ?_
              rw [mm_a1]
              exact ih226 (n + 1) _ hR (by omega) (by omega)
        exact lp226 321 0 _ hR (by decide) (by decide)
      · have hn : n < 4 := by
          rcases Nat.lt_or_ge n 4 with q | q
          · exact q
          · exact absurd (nI_le (by omega) (by omega)) c207
        refine hr_aload_n X dX6_init_210 rfl (Or.inr ⟨_, rfl⟩) ?_
        refine mm_getA X kF6_41 dX6_init_211 hR 12 rfl ?_
        refine hr_iload_n X dX6_init_214 rfl ?_
        refine hr_bipush (100) X dX6_init_215 (by decide) ?_
        refine mm_iast (n) X dX6_init_217 hR rfl rfl (by simp only [mm_len, sp_e]; omega) (fun M217 hR => ?_)
        rw [sp_S0_q] at hR
        refine hr_iinc (1) X dX6_init_218 rfl (by decide) ?_
        refine hr_goto 205 X dX6_init_221 (by decide) ?_
        rw [mm_a1]
        exact ih (n + 1) _ hR (by omega) (by omega)
  exact lp205 5 0 _ hR (by decide) (by decide)
