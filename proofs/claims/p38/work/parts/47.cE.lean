/-! the longest common row, by rows of lengths in the row to work in -/
theorem hm_up_id {M : hm_M} {a : Nat} {e : va_E} (h : M a = some e) : hm_up M a e = M := funext fun x => by
  by_cases q : x = a
  · rw [q, hm_up_s, h]
  · rw [hm_up_n q]
theorem hm_up_up {M : hm_M} {a : Nat} {e e' : va_E} : hm_up (hm_up M a e) a e' = hm_up M a e' := funext fun x => by
  by_cases q : x = a
  · rw [q, hm_up_s, hm_up_s]
  · rw [hm_up_n q, hm_up_n q, hm_up_n q]
theorem hm_up_o {M : hm_M} {a x : Nat} {e e1 e2 : va_E} (h1 : M x = some e1) (h2 : M a = some e2) (hn : e1 ≠ e2) : hm_up M a e x = some e1 := by
  rw [hm_up_n (fun q => hn (by rw [q, h2] at h1; exact (Option.some.inj h1).symm)), h1]
theorem upd_s {f : Nat → Int32} {k : Nat} {x : Int32} : upd f k x k = x := if_pos rfl
theorem upd_n {f : Nat → Int32} {k j : Nat} {x : Int32} (h : j ≠ k) : upd f k x j = f j := if_neg h
theorem sb_maxN {a b : Nat} (ha : a < 2 ^ 31) (hb : b < 2 ^ 31) : sb_max (nI a) (nI b) = nI (max a b) := by
  unfold sb_max
  by_cases h : a < b
  · rw [if_pos ((nI_ltI ha hb).mpr h), Nat.max_eq_right (Nat.le_of_lt h)]
  · rw [if_neg (fun q => h ((nI_ltI ha hb).mp q)), Nat.max_eq_left (Nat.not_lt.mp h)]
/-- the memory with other numbers in the row to work in -/
abbrev hc_C (cA : Nat → ClassId) (M : hm_M) (cl : Nat) (g : Nat → Int32) : hm_M := hm_up M cl (.inl (cA 0, 7, .inl g))

set_option maxHeartbeats 4000000 in
set_option maxRecDepth 100000 in
theorem c_X5_longestCommon (cA : Nat → ClassId) {M : hm_M} {v cl : Nat} {v0 v1 v2 v3 v5 v6 : Value} {g0 : Nat → Int32} (hV : M v = some (.inr (5, [v0, v1, v2, v3, .ref cl, v5, v6]))) (hC : M cl = some (.inl (cA 0, 7, .inl g0))) {b w : Nat} {sf sn ss : Int32} {m : Nat} {f : Nat → Int32} (hS : M b = some (.inr (2, [.int sf, .int sn, .int ss, .ref w, .int (nI m)]))) (hW : M w = some (.inl (cA 0, 12, .inl f))) (hm : m ≤ 12) (hcw : w ≠ cl) (rule : Int32) : hm_Met cA yX5_longestCommon cX5_longestCommon 8 (some .int) r_X5_longestCommon [.ref v, .int rule, .ref b] M (fun r9 M' => r9 = some (.int (nI (sp_D (sp_rw rule) f m (sp_len rule)))) ∧ ∃ g, M' = hc_C cA M cl g) := by
  refine hm_met 5 (by decide +kernel) (fun w h => by simp only [List.mem_cons, List.not_mem_nil, or_false] at h; rcases h with rfl | rfl | rfl <;> rfl) rfl (fun C X => ?_)
  show hm_W C 0 0 _ M 0 [some (.ref v), some (.int rule), some (.ref b), none, none, none, none, none] []
  have hl6 := sp_len_le rule
  have eV : ∀ g, hc_C cA M cl g v = some (.inr (5, [v0, v1, v2, v3, .ref cl, v5, v6])) := fun g => hm_up_o hV hC (by intro q; cases q)
  have eS : ∀ g, hc_C cA M cl g b = some (.inr (2, [.int sf, .int sn, .int ss, .ref w, .int (nI m)])) := fun g => hm_up_o hS hC (by intro q; cases q)
  have eW : ∀ g, hc_C cA M cl g w = some (.inl (cA 0, 12, .inl f)) := fun g => (hm_up_n hcw).trans hW
  have e0 : hc_C cA M cl g0 = M := hm_up_id hC
  refine hr_iload_n X dX5_longestCommon_0 rfl ?_
  refine hr_callS X kC5_282 dX5_longestCommon_1 (c_X5_rowLength cA (M := _) rule) rfl rfl rfl (Nat.le_of_ble_eq_true rfl) ⟨⟨(Nat.le_of_ble_eq_true rfl), (Nat.le_of_ble_eq_true rfl)⟩, (Nat.le_of_ble_eq_true rfl), (Nat.le_of_ble_eq_true rfl)⟩ (fun v M1 hp => ?_)
  obtain ⟨rfl, rfl⟩ := hp
  refine hr_istore_n X dX5_longestCommon_4 (Nat.le_of_ble_eq_true rfl) ?_
  refine hr_iconst (0) X dX5_longestCommon_5 (by decide) ?_
  refine hr_istore X dX5_longestCommon_6 (Nat.le_of_ble_eq_true rfl) ?_
  have lp8 : ∀ (f9 : Nat) (n : Nat) (g : Nat → Int32) (y5 y6 y7 : Option Value), n ≤ sp_len rule + 1 → sp_len rule + 1 < n + f9 → (∀ q, q < n → g q = 0) → hm_W C 0 0 (hm_T C (fun r9 M' => r9 = some (.int (nI (sp_D (sp_rw rule) f m (sp_len rule)))) ∧ ∃ g, M' = hc_C cA M cl g) r_X5_longestCommon.cells r_X5_longestCommon.slots) (hc_C cA M cl g) 8 [some (.ref v), some (.int rule), some (.ref b), some (.int (nI (sp_len rule))), some (.int (nI n)), y5, y6, y7] [] := by
    intro f9
    induction f9 with
    | zero => intro n g y5 y6 y7 h1 h2 h3; exact absurd h2 (by omega)
    | succ f9 ih =>
      intro n g y5 y6 y7 h1 h2 h3
      refine hr_iload X dX5_longestCommon_8 rfl ?_
      refine hr_iload_n X dX5_longestCommon_10 rfl ?_
      refine hr_icmp_gt 28 X dX5_longestCommon_11 (by decide) (fun c11 => ?_) (fun c11 => ?_)
      · have hn : sp_len rule < n := (nI_ltI (by omega) (by omega)).mp c11
        have h0 : ∀ q, q ≤ sp_len rule → g q = nI (sp_D (sp_rw rule) f 0 q) := fun q hq => h3 q (by omega)
        refine hr_iconst (0) X dX5_longestCommon_28 (by decide) ?_
        refine hr_istore X dX5_longestCommon_29 (Nat.le_of_ble_eq_true rfl) ?_
        have lp31 : ∀ (f9 : Nat) (i : Nat) (g : Nat → Int32) (y5 y6 y7 : Option Value), i ≤ m → m < i + f9 → (∀ q, q ≤ sp_len rule → g q = nI (sp_D (sp_rw rule) f i q)) → hm_W C 0 0 (hm_T C (fun r9 M' => r9 = some (.int (nI (sp_D (sp_rw rule) f m (sp_len rule)))) ∧ ∃ g, M' = hc_C cA M cl g) r_X5_longestCommon.cells r_X5_longestCommon.slots) (hc_C cA M cl g) 31 [some (.ref v), some (.int rule), some (.ref b), some (.int (nI (sp_len rule))), some (.int (nI i)), y5, y6, y7] [] := by
          intro f9
          induction f9 with
          | zero => intro i g y5 y6 y7 h1 h2 h3; exact absurd h2 (by omega)
          | succ f9 ih31 =>
            intro i g y5 y6 y7 h1 h2 h3
            refine hr_iload X dX5_longestCommon_31 rfl ?_
            refine hr_aload_n X dX5_longestCommon_33 rfl (Or.inr ⟨_, rfl⟩) ?_
            refine hr_get X kF5_343 dX5_longestCommon_34 (eS _) rfl ?_
            refine hr_icmp_ge 130 X dX5_longestCommon_37 (by decide) (fun c37 => ?_) (fun c37 => ?_)
            · have hi : i = m := by have := (nI_leI (by omega) (by omega)).mp c37; omega
              subst hi
              refine hr_aload_n X dX5_longestCommon_130 rfl (Or.inr ⟨_, rfl⟩) ?_
              refine hr_get X kF5_26 dX5_longestCommon_131 (eV _) rfl ?_
              refine hr_iload_n X dX5_longestCommon_134 rfl ?_
              refine hr_iald X dX5_longestCommon_135 hm_up_s (mm_in rfl (by omega) (by decide)).1 ?_
              rw [nI_clamp (by omega), h3 _ (Nat.le_refl _)]
              exact hr_iret X dX5_longestCommon_136 (Nat.le_of_ble_eq_true rfl) (Nat.le_of_ble_eq_true rfl) ⟨rfl, g, rfl⟩
            · have hn : i < m := by
                rcases Nat.lt_or_ge i m with q | q
                · exact q
                · exact absurd (nI_le q (by omega)) c37
              refine hr_iconst (0) X dX5_longestCommon_40 (by decide) ?_
              refine hr_istore X dX5_longestCommon_41 (Nat.le_of_ble_eq_true rfl) ?_
              refine hr_iconst (1) X dX5_longestCommon_43 (by decide) ?_
              refine hr_istore X dX5_longestCommon_44 (Nat.le_of_ble_eq_true rfl) ?_
              have lp46 : ∀ (f9 : Nat) (k : Nat) (g : Nat → Int32) (y7 : Option Value), k ≤ sp_len rule → sp_len rule < k + f9 → (∀ q, q ≤ k → g q = nI (sp_D (sp_rw rule) f (i + 1) q)) → (∀ q, k < q → q ≤ sp_len rule → g q = nI (sp_D (sp_rw rule) f i q)) → hm_W C 0 0 (hm_T C (fun r9 M' => r9 = some (.int (nI (sp_D (sp_rw rule) f m (sp_len rule)))) ∧ ∃ g, M' = hc_C cA M cl g) r_X5_longestCommon.cells r_X5_longestCommon.slots) (hc_C cA M cl g) 46 [some (.ref v), some (.int rule), some (.ref b), some (.int (nI (sp_len rule))), some (.int (nI i)), some (.int (nI (sp_D (sp_rw rule) f i k))), some (.int (nI (k + 1))), y7] [] := by
                intro f9
                induction f9 with
                | zero => intro k g y7 k1 k2 k3 k4; exact absurd k2 (by omega)
                | succ f9 ih46 =>
                  intro k g y7 k1 k2 k3 k4
                  refine hr_iload X dX5_longestCommon_46 rfl ?_
                  refine hr_iload_n X dX5_longestCommon_48 rfl ?_
                  refine hr_icmp_gt 124 X dX5_longestCommon_49 (by decide) (fun c49 => ?_) (fun c49 => ?_)
                  · have hk : k = sp_len rule := by have := (nI_ltI (by omega) (by omega)).mp c49; omega
                    have h5 : ∀ q, q ≤ sp_len rule → g q = nI (sp_D (sp_rw rule) f (i + 1) q) := fun q hq => k3 q (by omega)
                    refine hr_iinc (1) X dX5_longestCommon_124 rfl (by decide) ?_
                    refine hr_goto 31 X dX5_longestCommon_127 (by decide) ?_
                    rw [nI_1]
                    exact ih31 (i + 1) _ _ _ _ (by omega) (by omega) h5
                  · have hn1 : k + 1 ≤ sp_len rule := (nI_leI (by omega) (by omega)).mp (Int32.not_lt.mp c49)
                    have d1 := sp_D_le (sp_rw rule) f i (k + 1)
                    have d2 := sp_D_le (sp_rw rule) f (i + 1) k
                    refine hr_aload_n X dX5_longestCommon_52 rfl (Or.inr ⟨_, rfl⟩) ?_
                    refine hr_get X kF5_26 dX5_longestCommon_53 (eV _) rfl ?_
                    refine hr_iload X dX5_longestCommon_56 rfl ?_
                    refine hr_iald X dX5_longestCommon_58 hm_up_s (mm_in rfl (by omega) (by decide)).1 ?_
                    rw [nI_clamp (by omega), k4 (k + 1) (by omega) hn1]
                    refine hr_istore X dX5_longestCommon_59 (Nat.le_of_ble_eq_true rfl) ?_
                    refine hr_iload_n X dX5_longestCommon_61 rfl ?_
                    refine hr_iload X dX5_longestCommon_62 rfl ?_
                    refine hr_iconst (1) X dX5_longestCommon_64 (by decide) ?_
                    refine hr_isub X dX5_longestCommon_65 ?_
                    rw [nI_pred]
                    refine hr_callS X kC5_346 dX5_longestCommon_66 (c_X5_wordAt cA (M := _) rule k (by omega)) rfl rfl rfl (Nat.le_of_ble_eq_true rfl) ⟨⟨(Nat.le_of_ble_eq_true rfl), (Nat.le_of_ble_eq_true rfl)⟩, (Nat.le_of_ble_eq_true rfl), (Nat.le_of_ble_eq_true rfl)⟩ (fun v M66 hp => ?_)
                    obtain ⟨rfl, rfl⟩ := hp
                    refine hr_aload_n X dX5_longestCommon_69 rfl (Or.inr ⟨_, rfl⟩) ?_
                    refine hr_get X kF5_349 dX5_longestCommon_70 (eS _) rfl ?_
                    refine hr_iload X dX5_longestCommon_73 rfl ?_
                    refine hr_iald X dX5_longestCommon_75 (eW _) (mm_in rfl (by omega) (by decide)).1 ?_
                    rw [nI_clamp (by omega)]
                    refine hr_icmp_ne 93 X dX5_longestCommon_76 (by decide) (fun c76 => ?_) (fun c76 => ?_)
                    · have hE : sb_max (nI (sp_D (sp_rw rule) f i (k + 1))) (nI (sp_D (sp_rw rule) f (i + 1) k)) = nI (sp_D (sp_rw rule) f (i + 1) (k + 1)) := by
                        rw [sb_maxN (by omega) (by omega), sp_D_step, if_neg (show ¬ sp_rw rule k = f i from c76)]
                      refine hr_aload_n X dX5_longestCommon_93 rfl (Or.inr ⟨_, rfl⟩) ?_
                      refine hr_get X kF5_26 dX5_longestCommon_94 (eV _) rfl ?_
                      refine hr_iload X dX5_longestCommon_97 rfl ?_
                      refine hr_iload X dX5_longestCommon_99 rfl ?_
                      refine hr_aload_n X dX5_longestCommon_101 rfl (Or.inr ⟨_, rfl⟩) ?_
                      refine hr_get X kF5_26 dX5_longestCommon_102 (eV _) rfl ?_
                      refine hr_iload X dX5_longestCommon_105 rfl ?_
                      refine hr_iconst (1) X dX5_longestCommon_107 (by decide) ?_
                      refine hr_isub X dX5_longestCommon_108 ?_
                      rw [nI_pred]
                      refine hr_iald X dX5_longestCommon_109 hm_up_s (mm_in rfl (by omega) (by decide)).1 ?_
                      rw [nI_clamp (by omega), k3 k (Nat.le_refl _)]
                      refine hr_mmax X kC5_352 dX5_longestCommon_110 rfl ⟨(Nat.le_of_ble_eq_true rfl), (Nat.le_of_ble_eq_true rfl), (Nat.le_of_ble_eq_true rfl), (Nat.le_of_ble_eq_true rfl)⟩ ?_
                      rw [hE]
                      refine hr_iast X dX5_longestCommon_113 hm_up_s (mm_in rfl (by omega) (by decide)).1 ?_
                      rw [hm_up_up, nI_clamp (by omega)]
                      refine hr_iload X dX5_longestCommon_114 rfl ?_
                      refine hr_istore X dX5_longestCommon_116 (Nat.le_of_ble_eq_true rfl) ?_
                      refine hr_iinc (1) X dX5_longestCommon_118 rfl (by decide) ?_
                      refine hr_goto 46 X dX5_longestCommon_121 (by decide) ?_
                      rw [nI_1]
                      exact ih46 (k + 1) _ _ (by omega) (by omega) (fun q hq => by
                        by_cases z : q = k + 1
                        · rw [z, upd_s]
                        · rw [upd_n z]; exact k3 q (by omega)) (fun q hq hq2 => by rw [upd_n (by omega)]; exact k4 q (by omega) hq2)
                    · have hE : nI (sp_D (sp_rw rule) f i k) + 1 = nI (sp_D (sp_rw rule) f (i + 1) (k + 1)) := by
                        rw [nI_1, sp_D_step, if_pos (show sp_rw rule k = f i from c76)]
                      refine hr_aload_n X dX5_longestCommon_79 rfl (Or.inr ⟨_, rfl⟩) ?_
                      refine hr_get X kF5_26 dX5_longestCommon_80 (eV _) rfl ?_
                      refine hr_iload X dX5_longestCommon_83 rfl ?_
                      refine hr_iload X dX5_longestCommon_85 rfl ?_
                      refine hr_iconst (1) X dX5_longestCommon_87 (by decide) ?_
                      refine hr_iadd X dX5_longestCommon_88 ?_
                      rw [hE]
                      refine hr_iast X dX5_longestCommon_89 hm_up_s (mm_in rfl (by omega) (by decide)).1 ?_
                      rw [hm_up_up, nI_clamp (by omega)]
                      refine hr_goto 114 X dX5_longestCommon_90 (by decide) ?_
                      refine hr_iload X dX5_longestCommon_114 rfl ?_
                      refine hr_istore X dX5_longestCommon_116 (Nat.le_of_ble_eq_true rfl) ?_
                      refine hr_iinc (1) X dX5_longestCommon_118 rfl (by decide) ?_
                      refine hr_goto 46 X dX5_longestCommon_121 (by decide) ?_
                      rw [nI_1]
                      exact ih46 (k + 1) _ _ (by omega) (by omega) (fun q hq => by
                        by_cases z : q = k + 1
                        · rw [z, upd_s]
                        · rw [upd_n z]; exact k3 q (by omega)) (fun q hq hq2 => by rw [upd_n (by omega)]; exact k4 q (by omega) hq2)
              have z9 := lp46 (sp_len rule + 1) 0 g y7 (Nat.zero_le _) (by omega) (fun q hq => by rw [Nat.le_zero.mp hq, h3 0 (Nat.zero_le _), sp_D_0, sp_D_0]) (fun q _ hq => h3 q hq)
              rw [sp_D_0] at z9
              exact z9
        exact lp31 (m + 1) 0 g _ _ _ (Nat.zero_le _) (by omega) h0
      · have hn : n ≤ sp_len rule := (nI_leI (by omega) (by omega)).mp (Int32.not_lt.mp c11)
        refine hr_aload_n X dX5_longestCommon_14 rfl (Or.inr ⟨_, rfl⟩) ?_
        refine hr_get X kF5_26 dX5_longestCommon_15 (eV _) rfl ?_
        refine hr_iload X dX5_longestCommon_18 rfl ?_
        refine hr_iconst (0) X dX5_longestCommon_20 (by decide) ?_
        refine hr_iast X dX5_longestCommon_21 hm_up_s (mm_in rfl (by omega) (by decide)).1 ?_
        rw [hm_up_up, nI_clamp (by omega)]
        refine hr_iinc (1) X dX5_longestCommon_22 rfl (by decide) ?_
        refine hr_goto 8 X dX5_longestCommon_25 (by decide) ?_
        rw [nI_1]
        exact ih (n + 1) _ _ _ _ (by omega) (by omega) (fun q hq => by
          by_cases z : q = n
          · rw [z, upd_s]
          · rw [upd_n z]; exact h3 q (by omega))
  have z8 := lp8 (sp_len rule + 2) 0 g0 none none none (Nat.zero_le _) (by omega) (fun q hq => absurd hq (Nat.not_lt_zero q))
  rw [e0] at z8
  exact z8
set_option maxHeartbeats 4000000 in
set_option maxRecDepth 100000 in
theorem c_X5_commonWords (cA : Nat → ClassId) {M : hm_M} {v cl : Nat} {v0 v1 v2 v3 v5 v6 : Value} {g0 : Nat → Int32} (hV : M v = some (.inr (5, [v0, v1, v2, v3, .ref cl, v5, v6]))) (hC : M cl = some (.inl (cA 0, 7, .inl g0))) {b w : Nat} {sf sn ss : Int32} {m : Nat} {f : Nat → Int32} (hS : M b = some (.inr (2, [.int sf, .int sn, .int ss, .ref w, .int (nI m)]))) (hW : M w = some (.inl (cA 0, 12, .inl f))) (hm : m ≤ 12) (hcw : w ≠ cl) (rule : Int32) (anew : Bool) : hm_Met cA yX5_commonWords cX5_commonWords 4 (some .int) r_X5_commonWords [.ref v, .int rule, .ref b, .int (hm_bI anew)] M (fun r9 M' => r9 = some (.int (nI (sp_D (sp_rw rule) f m (sp_len rule)))) ∧ ∃ g, M' = hc_C cA M cl g) := by
  refine hm_met 0 (by decide +kernel) (fun w h => by simp only [List.mem_cons, List.not_mem_nil, or_false] at h; rcases h with rfl | rfl | rfl | rfl <;> rfl) rfl (fun C X => ?_)
  show hm_W C 0 0 _ M 0 [some (.ref v), some (.int rule), some (.ref b), some (.int (hm_bI anew))] []
  refine hr_iload_n X dX5_commonWords_0 rfl ?_
  refine hr_if_eq 12 X dX5_commonWords_1 (by decide) (fun c1 => ?_) (fun c1 => ?_)
  · refine hr_aload_n X dX5_commonWords_12 rfl (Or.inr ⟨_, rfl⟩) ?_
    refine hr_iload_n X dX5_commonWords_13 rfl ?_
    refine hr_aload_n X dX5_commonWords_14 rfl (Or.inr ⟨_, rfl⟩) ?_
    refine hr_callV X kC5_340 dX5_commonWords_15 (c_X5_longestCommon cA (M := M) hV hC hS hW hm hcw rule) hV rfl rfl rfl rfl (Nat.le_of_ble_eq_true rfl) ⟨⟨(Nat.le_of_ble_eq_true rfl), (Nat.le_of_ble_eq_true rfl)⟩, (Nat.le_of_ble_eq_true rfl), (Nat.le_of_ble_eq_true rfl)⟩ (fun v M15 hp15 => ?_)
    obtain ⟨rfl, g, rfl⟩ := hp15
    exact hr_iret X dX5_commonWords_18 (Nat.le_of_ble_eq_true rfl) (Nat.le_of_ble_eq_true rfl) (by first | exact ⟨rfl, g, rfl⟩ | exact ⟨rfl, g0, (hm_up_id hC).symm⟩)
  · refine hr_iload_n X dX5_commonWords_4 rfl ?_
    refine hr_aload_n X dX5_commonWords_5 rfl (Or.inr ⟨_, rfl⟩) ?_
    refine hr_callS X kC5_336 dX5_commonWords_6 (c_X5_longestKept cA (M := M) hS hW hm rule) rfl rfl rfl (Nat.le_of_ble_eq_true rfl) ⟨⟨(Nat.le_of_ble_eq_true rfl), (Nat.le_of_ble_eq_true rfl)⟩, (Nat.le_of_ble_eq_true rfl), (Nat.le_of_ble_eq_true rfl)⟩ (fun v M6 hp => ?_)
    obtain ⟨rfl, rfl⟩ := hp
    refine hr_goto 18 X dX5_commonWords_9 (by decide) ?_
    exact hr_iret X dX5_commonWords_18 (Nat.le_of_ble_eq_true rfl) (Nat.le_of_ble_eq_true rfl) (by first | exact ⟨rfl, g, rfl⟩ | exact ⟨rfl, g0, (hm_up_id hC).symm⟩)
