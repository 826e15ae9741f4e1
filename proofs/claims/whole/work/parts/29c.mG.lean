set_option maxHeartbeats 4000000 in
set_option maxRecDepth 100000 in
theorem c_X6_fingerprints (cA : Nat → ClassId) {sg ta : mm_S} {ad : Nat → Nat} {mo : Nat} {M0 M : hm_M} (hR : mm_R cA sg ta ad mo M0 M) (hI : sp_I sg) (p s : Int32) : hm_Met cA yX6_fingerprints cX6_fingerprints 3 (some .int) r_X6_fingerprints [.ref mo, .int p, .int s] M (mm_P cA ad mo M0 (sp_w (sp_both sg p s)) (nI (sp_prs sg (sp_k p s)).length) (sg)) := by
  refine hm_met 0 (by decide +kernel) (fun w h => by simp only [List.mem_cons, List.not_mem_nil, or_false] at h; rcases h with rfl | rfl | rfl <;> rfl) rfl (fun C X => ?_)
  show hm_W C 0 0 _ M 0 [some (.ref mo), some (.int p), some (.int s)] []
  refine hr_aload_n X dX6_fingerprints_0 rfl (Or.inr ⟨_, rfl⟩) ?_
  refine hr_iload_n X dX6_fingerprints_1 rfl ?_
  refine hr_iload_n X dX6_fingerprints_2 rfl ?_
  refine hr_callV X kC6_209 dX6_fingerprints_3 (c_X6_noAnswer cA hR p s) hR.1 rfl rfl rfl rfl (Nat.le_of_ble_eq_true rfl) ⟨⟨(Nat.le_of_ble_eq_true rfl), (Nat.le_of_ble_eq_true rfl)⟩, (Nat.le_of_ble_eq_true rfl), (Nat.le_of_ble_eq_true rfl)⟩ (fun v M3 hp3 => ?_)
  obtain ⟨hR, rfl⟩ := hp3
  refine hr_if_eq 11 X dX6_fingerprints_6 (by decide) (fun c6 => ?_) (fun c6 => ?_)
  · rw [hm_bz] at c6
    have hc0 := sp_w_0.mp c6
    obtain ⟨a, b, ha, hb, hb4, rfl, rfl, e1, e2⟩ := sp_both_nat hI hc0
    have ek : sp_k (nI a) (nI b) = 12 * b + a := by rw [sp_k, e1, e2]
    refine hr_aload_n X dX6_fingerprints_11 rfl (Or.inr ⟨_, rfl⟩) ?_
    refine hr_bipush (12) X dX6_fingerprints_12 (by decide) ?_
    refine hr_iload_n X dX6_fingerprints_14 rfl ?_
    refine hr_imul X dX6_fingerprints_15 ?_
    refine hr_iload_n X dX6_fingerprints_16 rfl ?_
    refine hr_iadd X dX6_fingerprints_17 ?_
    rw [(show (12 * nI b + nI a : Int32) = nI (12 * b + a) by rw [mm_m12, nI_add])]
    refine hr_callV X kC6_224 dX6_fingerprints_18 (c_X6_lay cA hR hI (12 * b + a) (by omega)) hR.1 rfl rfl rfl rfl (Nat.le_of_ble_eq_true rfl) ⟨⟨(Nat.le_of_ble_eq_true rfl), (Nat.le_of_ble_eq_true rfl)⟩, (Nat.le_of_ble_eq_true rfl), (Nat.le_of_ble_eq_true rfl)⟩ (fun v M18 hp18 => ?_)
    obtain ⟨ta1, hR, rfl, hpl, hta1⟩ := hp18
    refine hr_aload_n X dX6_fingerprints_21 rfl (Or.inr ⟨_, rfl⟩) ?_
    refine mm_getS X kF6_215 dX6_fingerprints_22 hR 25 rfl ?_
    exact hr_iret X dX6_fingerprints_25 (Nat.le_of_ble_eq_true rfl) (Nat.le_of_ble_eq_true rfl) ⟨_, _, hR, rfl, by rw [hta1 0 (by decide) (by decide)]; exact mm_up_s, fun _ => by rw [ek]; exact hpl.1⟩
  · rw [hm_bz] at c6
    refine hr_iconst (0) X dX6_fingerprints_9 (by decide) ?_
    exact hr_iret X dX6_fingerprints_10 (Nat.le_of_ble_eq_true rfl) (Nat.le_of_ble_eq_true rfl) ⟨_, _, hR, rfl, mm_up_s, fun q => absurd q c6⟩
set_option maxHeartbeats 4000000 in
set_option maxRecDepth 100000 in
theorem c_X6_withPrint (cA : Nat → ClassId) {sg ta : mm_S} {ad : Nat → Nat} {mo : Nat} {M0 M : hm_M} (hR : mm_R cA sg ta ad mo M0 M) (hI : sp_I sg) (s pr : Int32) : hm_Met cA yX6_withPrint cX6_withPrint 5 (some .int) r_X6_withPrint [.ref mo, .int s, .int pr] M (mm_P cA ad mo M0 (sp_w (sp_isS sg s)) (sp_wp sg (nN s) pr 12) (sg)) := by
  refine hm_met 2 (by decide +kernel) (fun w h => by simp only [List.mem_cons, List.not_mem_nil, or_false] at h; rcases h with rfl | rfl | rfl <;> rfl) rfl (fun C X => ?_)
  show hm_W C 0 0 _ M 0 [some (.ref mo), some (.int s), some (.int pr), none, none] []
  refine hr_aload_n X dX6_withPrint_0 rfl (Or.inr ⟨_, rfl⟩) ?_
  refine hr_iload_n X dX6_withPrint_1 rfl ?_
  refine hr_callV X kC6_165 dX6_withPrint_2 (c_X6_noSheet cA hR s) hR.1 rfl rfl rfl rfl (Nat.le_of_ble_eq_true rfl) ⟨⟨(Nat.le_of_ble_eq_true rfl), (Nat.le_of_ble_eq_true rfl)⟩, (Nat.le_of_ble_eq_true rfl), (Nat.le_of_ble_eq_true rfl)⟩ (fun v M2 hp2 => ?_)
  obtain ⟨hR, rfl⟩ := hp2
  refine hr_if_eq 10 X dX6_withPrint_5 (by decide) (fun c5 => ?_) (fun c5 => ?_)
  · rw [hm_bz] at c5
    have hc := sp_w_0.mp c5
    obtain ⟨a, ha, ha4, rfl⟩ := sp_isS_nat hI hc
    have e1 : nN (nI a) = a := nI_clamp (by omega)
    refine hr_iconst (0) X dX6_withPrint_10 (by decide) ?_
    refine hr_istore_n X dX6_withPrint_11 (Nat.le_of_ble_eq_true rfl) ?_
    refine hr_iconst (0) X dX6_withPrint_12 (by decide) ?_
    refine hr_istore X dX6_withPrint_13 (Nat.le_of_ble_eq_true rfl) ?_
    have lp15 : ∀ (f : Nat) (n : Nat) (M : hm_M) (ta2 : mm_S), mm_R cA sg ta2 ad mo M0 M → ta2 0 0 = sp_w (sp_isS sg (nI a)) → n ≤ 12 → 12 < n + f → hm_W C (0 + r_X6_noSheet.cells) (0 + r_X6_noSheet.slots) (hm_T C (mm_P cA ad mo M0 (sp_w (sp_isS sg (nI a))) (sp_wp sg (nN (nI a)) pr 12) (sg)) r_X6_withPrint.cells r_X6_withPrint.slots) M 15 [some (.ref mo), some (.int (nI a)), some (.int pr), some (.int (sp_wp sg a pr n)), some (.int (nI n))] [] := by
      intro f
      induction f with
      | zero => intro n M ta2 hR hta h1 h2; exact absurd h2 (by omega)
      | succ f ih =>
        intro n M ta2 hR hta h1 h2
        refine hr_iload X dX6_withPrint_15 rfl ?_
        refine hr_bipush (12) X dX6_withPrint_17 (by decide) ?_
        refine hr_icmp_ge 58 X dX6_withPrint_19 (by decide) (fun c19 => ?_) (fun c19 => ?_)
        · have hz : n = 12 := by have := (nI_leI (a := 12) (by decide) (by omega)).mp c19; omega
          subst hz
          refine hr_iload_n X dX6_withPrint_58 rfl ?_
          exact hr_iret X dX6_withPrint_59 (Nat.le_of_ble_eq_true rfl) (Nat.le_of_ble_eq_true rfl) ⟨_, _, hR, rfl, hta, fun _ => by rw [e1]⟩
        · have hn : n < 12 := by
            rcases Nat.lt_or_ge n 12 with q | q
            · exact q
            · exact absurd (nI_le (by omega) (by omega)) c19
          refine hr_aload_n X dX6_withPrint_22 rfl (Or.inr ⟨_, rfl⟩) ?_
          refine hr_bipush (12) X dX6_withPrint_23 (by decide) ?_
          refine hr_iload_n X dX6_withPrint_25 rfl ?_
          refine hr_imul X dX6_withPrint_26 ?_
          refine hr_iload X dX6_withPrint_27 rfl ?_
          refine hr_iadd X dX6_withPrint_29 ?_
          rw [show (12 * nI a + nI n : Int32) = nI (12 * a + n) by rw [mm_m12, nI_add]]
          refine hr_callV X kC6_224 dX6_withPrint_30 (c_X6_lay cA hR hI (12 * a + n) (by omega)) hR.1 rfl rfl rfl rfl (Nat.le_of_ble_eq_true rfl) ⟨⟨(Nat.le_of_ble_eq_true rfl), (Nat.le_of_ble_eq_true rfl)⟩, (Nat.le_of_ble_eq_true rfl), (Nat.le_of_ble_eq_true rfl)⟩ (fun v M30 hp30 => ?_)
          obtain ⟨ta1, hR, rfl, hpl, hta1⟩ := hp30
          have hta : ta1 0 0 = sp_w (sp_isS sg (nI a)) := by rw [hta1 0 (by decide) (by decide)]; exact hta
          have hlen := sp_prs_len hI (k := 12 * a + n) (by omega)
          have J50 : hm_W C (0 + r_X6_noSheet.cells) (0 + r_X6_noSheet.slots) (hm_T C (mm_P cA ad mo M0 (sp_w (sp_isS sg (nI a))) (sp_wp sg (nN (nI a)) pr 12) (sg)) r_X6_withPrint.cells r_X6_withPrint.slots) M30 50 [some (.ref mo), some (.int (nI a)), some (.int pr), some (.int (sp_wp sg a pr n)), some (.int (nI n))] [.int (if pr ∈ sp_prs sg (12 * a + n) then 1 <<< (nI n &&& 31) else 0), .int (sp_wp sg a pr n)] := by
            refine hr_ior X dX6_withPrint_50 ?_
            refine hr_istore_n X dX6_withPrint_51 (Nat.le_of_ble_eq_true rfl) ?_
            refine hr_iinc (1) X dX6_withPrint_52 rfl (by decide) ?_
            refine hr_goto 15 X dX6_withPrint_55 (by decide) ?_
            rw [mm_a1]
            exact ih (n + 1) _ _ hR hta (by omega) (by omega)
          refine hr_iload_n X dX6_withPrint_33 rfl ?_
          refine hr_aload_n X dX6_withPrint_34 rfl (Or.inr ⟨_, rfl⟩) ?_
          refine hr_iload_n X dX6_withPrint_35 rfl ?_
          refine hr_callV X kC6_221 dX6_withPrint_36 (c_X6_isPrint cA hR pr (sp_prs sg (12 * a + n)) hpl hlen) hR.1 rfl rfl rfl rfl (Nat.le_of_ble_eq_true rfl) ⟨⟨(Nat.le_of_ble_eq_true rfl), (Nat.le_of_ble_eq_true rfl)⟩, (Nat.le_of_ble_eq_true rfl), (Nat.le_of_ble_eq_true rfl)⟩ (fun v M36 hp => ?_)
          obtain ⟨rfl, rfl⟩ := hp
          refine hr_if_eq 49 X dX6_withPrint_39 (by decide) (fun c39 => ?_) (fun c39 => ?_)
          · rw [hm_bI_eq] at c39
            have hz : (if pr ∈ sp_prs sg (12 * a + n) then (1 : Int32) <<< (nI n &&& 31) else 0) = 0 := if_neg (of_decide_eq_false c39)
            refine hr_iconst (0) X dX6_withPrint_49 (by decide) ?_
            exact hr_eq (by rw [hz] <;> rfl) J50
          · rw [hm_bI_ne] at c39
            have hz : (if pr ∈ sp_prs sg (12 * a + n) then (1 : Int32) <<< (nI n &&& 31) else 0) = 1 <<< (nI n &&& 31) := if_pos (of_decide_eq_true c39)
            refine hr_iconst (1) X dX6_withPrint_42 (by decide) ?_
            refine hr_iload X dX6_withPrint_43 rfl ?_
            refine hr_ishl X dX6_withPrint_45 ?_
            refine hr_goto 50 X dX6_withPrint_46 (by decide) ?_
            exact hr_eq (by rw [hz] <;> rfl) J50
    exact lp15 13 0 _ _ hR mm_up_s (by decide) (by decide)
  · rw [hm_bz] at c5
    refine hr_iconst (0) X dX6_withPrint_8 (by decide) ?_
    exact hr_iret X dX6_withPrint_9 (Nat.le_of_ble_eq_true rfl) (Nat.le_of_ble_eq_true rfl) ⟨_, _, hR, rfl, mm_up_s, fun q => absurd q c5⟩
set_option maxHeartbeats 4000000 in
set_option maxRecDepth 100000 in
theorem c_X6_alike (cA : Nat → ClassId) {sg ta0 : mm_S} {ad : Nat → Nat} {mo : Nat} {M0 M : hm_M} (hR : mm_R cA sg ta0 ad mo M0 M) (hI : sp_I sg) (a b : Nat) (ha : a < 48) (hb : b < 48) : hm_Met cA yX6_alike cX6_alike 6 (some .int) r_X6_alike [.ref mo, .int (nI a), .int (nI b)] M (fun r9 M' => ∃ ta' : mm_S, mm_R cA sg ta' ad mo M0 M' ∧ r9 = some (.int (sp_alk sg a b)) ∧ ta' 0 = ta0 0) := by
  refine hm_met 3 (by decide +kernel) (fun w h => by simp only [List.mem_cons, List.not_mem_nil, or_false] at h; rcases h with rfl | rfl | rfl <;> rfl) rfl (fun C X => ?_)
  show hm_W C 0 0 _ M 0 [some (.ref mo), some (.int (nI a)), some (.int (nI b)), none, none, none] []
  have hla := sp_prs_len hI ha
  have hlb := sp_prs_len hI hb
  refine hr_aload_n X dX6_alike_0 rfl (Or.inr ⟨_, rfl⟩) ?_
  refine hr_iload_n X dX6_alike_1 rfl ?_
  refine hr_callV X kC6_224 dX6_alike_2 (c_X6_lay cA hR hI a ha) hR.1 rfl rfl rfl rfl (Nat.le_of_ble_eq_true rfl) ⟨⟨(Nat.le_of_ble_eq_true rfl), (Nat.le_of_ble_eq_true rfl)⟩, (Nat.le_of_ble_eq_true rfl), (Nat.le_of_ble_eq_true rfl)⟩ (fun v M2 hp2 => ?_)
  obtain ⟨ta1, hR, rfl, hpl, hta1⟩ := hp2
  refine hr_aload_n X dX6_alike_5 rfl (Or.inr ⟨_, rfl⟩) ?_
  refine mm_getS X kF6_215 dX6_alike_6 hR 25 rfl ?_
  rw [hpl.1]
  refine hr_istore_n X dX6_alike_9 (Nat.le_of_ble_eq_true rfl) ?_
  refine hr_iconst (0) X dX6_alike_10 (by decide) ?_
  refine hr_istore X dX6_alike_11 (Nat.le_of_ble_eq_true rfl) ?_
  have lp13 : ∀ (f : Nat) (n : Nat) (M : hm_M) (ta2 : mm_S), mm_R cA sg ta2 ad mo M0 M → ta2 0 = ta0 0 → mm_pl ta2 (sp_prs sg a) → (∀ q, q < n → ta2 26 q = (sp_prs sg a).getD q 0) → n ≤ (sp_prs sg a).length → (sp_prs sg a).length < n + f → hm_W C 0 0 (hm_T C (fun r9 M' => ∃ ta' : mm_S, mm_R cA sg ta' ad mo M0 M' ∧ r9 = some (.int (sp_alk sg a b)) ∧ ta' 0 = ta0 0) r_X6_alike.cells r_X6_alike.slots) M 13 [some (.ref mo), some (.int (nI a)), some (.int (nI b)), some (.int (nI (sp_prs sg a).length)), some (.int (nI n)), none] [] := by
    intro f
    induction f with
    | zero => intro n M ta2 hR hta hpl h3 h1 h2; exact absurd h2 (by omega)
    | succ f ih =>
      intro n M ta2 hR hta hpl h3 h1 h2
      refine hr_iload X dX6_alike_13 rfl ?_
      refine hr_iload_n X dX6_alike_15 rfl ?_
      refine hr_icmp_ge 39 X dX6_alike_16 (by decide) (fun c16 => ?_) (fun c16 => ?_)
      · have hz : n = (sp_prs sg a).length := by have := (nI_leI (by omega) (by omega)).mp c16; omega
        subst hz
        refine hr_aload_n X dX6_alike_39 rfl (Or.inr ⟨_, rfl⟩) ?_
        refine hr_iload_n X dX6_alike_40 rfl ?_
        refine hr_callV X kC6_224 dX6_alike_41 (c_X6_lay cA hR hI b hb) hR.1 rfl rfl rfl rfl (Nat.le_of_ble_eq_true rfl) ⟨⟨(Nat.le_of_ble_eq_true rfl), (Nat.le_of_ble_eq_true rfl)⟩, (Nat.le_of_ble_eq_true rfl), (Nat.le_of_ble_eq_true rfl)⟩ (fun v M41 hp41 => ?_)
        obtain ⟨ta3, hR, rfl, hpl3, hta3⟩ := hp41
        have h3 : (∀ q, q < (sp_prs sg a).length → ta3 26 q = (sp_prs sg a).getD q 0) := fun q hq => by rw [hta3 26 (by decide) (by decide)]; exact h3 q hq
        have hta : ta3 0 = ta0 0 := (hta3 0 (by decide) (by decide)).trans hta
        refine hr_iconst (0) X dX6_alike_44 (by decide) ?_
        refine hr_istore X dX6_alike_45 (Nat.le_of_ble_eq_true rfl) ?_
        refine hr_iconst (0) X dX6_alike_47 (by decide) ?_
        refine hr_istore X dX6_alike_48 (Nat.le_of_ble_eq_true rfl) ?_
        have lp50 : ∀ (f : Nat) (n : Nat), n ≤ (sp_prs sg a).length → (sp_prs sg a).length < n + f → hm_W C 0 0 (hm_T C (fun r9 M' => ∃ ta' : mm_S, mm_R cA sg ta' ad mo M0 M' ∧ r9 = some (.int (sp_alk sg a b)) ∧ ta' 0 = ta0 0) r_X6_alike.cells r_X6_alike.slots) M41 50 [some (.ref mo), some (.int (nI a)), some (.int (nI b)), some (.int (nI (sp_prs sg a).length)), some (.int (sp_cmn (sp_prs sg a) (sp_prs sg b) n)), some (.int (nI n))] [] := by
          intro f
          induction f with
          | zero => intro n h4 h5; exact absurd h5 (by omega)
          | succ f ih50 =>
            intro n h4 h5
            refine hr_iload X dX6_alike_50 rfl ?_
            refine hr_iload_n X dX6_alike_52 rfl ?_
            refine hr_icmp_ge 86 X dX6_alike_53 (by decide) (fun c53 => ?_) (fun c53 => ?_)
            · have hz : n = (sp_prs sg a).length := by have := (nI_leI (by omega) (by omega)).mp c53; omega
              subst hz
              have J102 : hm_W C 0 0 (hm_T C (fun r9 M' => ∃ ta' : mm_S, mm_R cA sg ta' ad mo M0 M' ∧ r9 = some (.int (sp_alk sg a b)) ∧ ta' 0 = ta0 0) r_X6_alike.cells r_X6_alike.slots) M41 102 [some (.ref mo), some (.int (nI a)), some (.int (nI b)), some (.int (nI (sp_prs sg a).length)), some (.int (sp_cmn (sp_prs sg a) (sp_prs sg b) (sp_prs sg a).length)), some (.int (nI (sp_prs sg a).length))] [.int (nI (sp_lst (sp_prs sg a) (sp_prs sg b)))] := by
                refine hr_istore X dX6_alike_102 (Nat.le_of_ble_eq_true rfl) ?_
                refine hr_iload X dX6_alike_104 rfl ?_
                refine hr_if_ne 113 X dX6_alike_106 (by decide) (fun c106 => ?_) (fun c106 => ?_)
                · have hz : sp_alk sg a b = 1000 * (sp_cmn (sp_prs sg a) (sp_prs sg b) (sp_prs sg a).length) + 100 * (sp_cmn (sp_prs sg a) (sp_prs sg b) (sp_prs sg a).length) / nI (sp_lst (sp_prs sg a) (sp_prs sg b)) := by rw [sp_alk, sp_alike, if_neg c106]
                  refine hr_sipush (1000) X dX6_alike_113 (by decide) ?_
                  refine hr_iload X dX6_alike_116 rfl ?_
                  refine hr_imul X dX6_alike_118 ?_
                  refine hr_bipush (100) X dX6_alike_119 (by decide) ?_
                  refine hr_iload X dX6_alike_121 rfl ?_
                  refine hr_imul X dX6_alike_123 ?_
                  refine hr_iload X dX6_alike_124 rfl ?_
                  refine hr_idiv X dX6_alike_126 c106 ?_
                  refine hr_iadd X dX6_alike_127 ?_
                  exact hr_iret X dX6_alike_128 (Nat.le_of_ble_eq_true rfl) (Nat.le_of_ble_eq_true rfl) ⟨_, hR, by rw [hz], hta⟩
                · have hz : sp_alk sg a b = 0 := by rw [sp_alk, sp_alike, if_pos c106]
                  refine hr_iconst (0) X dX6_alike_109 (by decide) ?_
                  refine hr_goto 128 X dX6_alike_110 (by decide) ?_
                  exact hr_iret X dX6_alike_128 (Nat.le_of_ble_eq_true rfl) (Nat.le_of_ble_eq_true rfl) ⟨_, hR, by rw [hz], hta⟩
              refine hr_iload_n X dX6_alike_86 rfl ?_
              refine hr_aload_n X dX6_alike_87 rfl (Or.inr ⟨_, rfl⟩) ?_
              refine mm_getS X kF6_215 dX6_alike_88 hR 25 rfl ?_
              rw [hpl3.1]
              refine hr_icmp_ge 98 X dX6_alike_91 (by decide) (fun c91 => ?_) (fun c91 => ?_)
              · have hz : nI (sp_lst (sp_prs sg a) (sp_prs sg b)) = ta3 25 0 := by rw [sp_lst, if_neg (Nat.not_lt.mpr ((nI_leI (by omega) (by omega)).mp c91)), hpl3.1]
                refine hr_aload_n X dX6_alike_98 rfl (Or.inr ⟨_, rfl⟩) ?_
                refine mm_getS X kF6_215 dX6_alike_99 hR 25 rfl ?_
                exact hr_eq (by rw [hz] <;> rfl) J102
              · have hz : nI (sp_lst (sp_prs sg a) (sp_prs sg b)) = nI (sp_prs sg a).length := by
                  rw [sp_lst, if_pos]
                  rcases Nat.lt_or_ge (sp_prs sg a).length (sp_prs sg b).length with q | q
                  · exact q
                  · exact absurd (nI_le q (by omega)) c91
                refine hr_iload_n X dX6_alike_94 rfl ?_
                refine hr_goto 102 X dX6_alike_95 (by decide) ?_
                exact hr_eq (by rw [hz] <;> rfl) J102
            · have hn : n < (sp_prs sg a).length := by
                rcases Nat.lt_or_ge n (sp_prs sg a).length with q | q
                · exact q
                · exact absurd (nI_le (by omega) (by omega)) c53
              have J77 : hm_W C 0 0 (hm_T C (fun r9 M' => ∃ ta' : mm_S, mm_R cA sg ta' ad mo M0 M' ∧ r9 = some (.int (sp_alk sg a b)) ∧ ta' 0 = ta0 0) r_X6_alike.cells r_X6_alike.slots) M41 77 [some (.ref mo), some (.int (nI a)), some (.int (nI b)), some (.int (nI (sp_prs sg a).length)), some (.int (sp_cmn (sp_prs sg a) (sp_prs sg b) n)), some (.int (nI n))] [.int (if (sp_prs sg a).getD n 0 ∈ sp_prs sg b then 1 else 0), .int (sp_cmn (sp_prs sg a) (sp_prs sg b) n)] := by
                refine hr_iadd X dX6_alike_77 ?_
                refine hr_istore X dX6_alike_78 (Nat.le_of_ble_eq_true rfl) ?_
                refine hr_iinc (1) X dX6_alike_80 rfl (by decide) ?_
                refine hr_goto 50 X dX6_alike_83 (by decide) ?_
                rw [mm_a1]
                exact ih50 (n + 1) (by omega) (by omega)
              refine hr_iload X dX6_alike_56 rfl ?_
              refine hr_aload_n X dX6_alike_58 rfl (Or.inr ⟨_, rfl⟩) ?_
              refine hr_aload_n X dX6_alike_59 rfl (Or.inr ⟨_, rfl⟩) ?_
              refine mm_getA X kF6_80 dX6_alike_60 hR 26 rfl ?_
              refine hr_iload X dX6_alike_63 rfl ?_
              refine mm_ialdT (n) X dX6_alike_65 hR rfl rfl (by simp only [mm_len, sp_e]; omega) ?_
              rw [h3 n hn]
              refine hr_callV X kC6_221 dX6_alike_66 (c_X6_isPrint cA hR ((sp_prs sg a).getD n 0) (sp_prs sg b) hpl3 hlb) hR.1 rfl rfl rfl rfl (Nat.le_of_ble_eq_true rfl) ⟨⟨(Nat.le_of_ble_eq_true rfl), (Nat.le_of_ble_eq_true rfl)⟩, (Nat.le_of_ble_eq_true rfl), (Nat.le_of_ble_eq_true rfl)⟩ (fun v M66 hp => ?_)
              obtain ⟨rfl, rfl⟩ := hp
              refine hr_if_eq 76 X dX6_alike_69 (by decide) (fun c69 => ?_) (fun c69 => ?_)
              · rw [hm_bI_eq] at c69
                have hz : (if (sp_prs sg a).getD n 0 ∈ sp_prs sg b then (1 : Int32) else 0) = 0 := if_neg (of_decide_eq_false c69)
                refine hr_iconst (0) X dX6_alike_76 (by decide) ?_
                exact hr_eq (by rw [hz] <;> rfl) J77
              · rw [hm_bI_ne] at c69
                have hz : (if (sp_prs sg a).getD n 0 ∈ sp_prs sg b then (1 : Int32) else 0) = 1 := if_pos (of_decide_eq_true c69)
                refine hr_iconst (1) X dX6_alike_72 (by decide) ?_
                refine hr_goto 77 X dX6_alike_73 (by decide) ?_
                exact hr_eq (by rw [hz] <;> rfl) J77
        exact lp50 ((sp_prs sg a).length + 1) 0 (Nat.zero_le _) (by omega)
      · have hn : n < (sp_prs sg a).length := by
          rcases Nat.lt_or_ge n (sp_prs sg a).length with q | q
          · exact q
          · exact absurd (nI_le (by omega) (by omega)) c16
        refine hr_aload_n X dX6_alike_19 rfl (Or.inr ⟨_, rfl⟩) ?_
        refine mm_getA X kF6_80 dX6_alike_20 hR 26 rfl ?_
        refine hr_iload X dX6_alike_23 rfl ?_
        refine hr_aload_n X dX6_alike_25 rfl (Or.inr ⟨_, rfl⟩) ?_
        refine mm_getA X kF6_77 dX6_alike_26 hR 24 rfl ?_
        refine hr_iload X dX6_alike_29 rfl ?_
        refine mm_ialdT (n) X dX6_alike_31 hR rfl rfl (by simp only [mm_len, sp_e]; omega) ?_
        refine mm_iastT (n) X dX6_alike_32 hR rfl rfl (by simp only [mm_len, sp_e]; omega) (fun M32 hR => ?_)
        refine hr_iinc (1) X dX6_alike_33 rfl (by decide) ?_
        refine hr_goto 13 X dX6_alike_36 (by decide) ?_
        rw [mm_a1]
        exact ih (n + 1) _ _ hR ((mm_up_j (by decide)).trans hta) ⟨by rw [mm_up_j (by decide)]; exact hpl.1, fun i hi => by rw [mm_up_j (by decide)]; exact hpl.2 i hi⟩ (fun q hq => by
          by_cases e : q = n
          · subst e; rw [mm_up_s]; exact hpl.2 q hn
          · rw [mm_up_x e]; exact h3 q (by omega)) (by omega) (by omega)
  exact lp13 ((sp_prs sg a).length + 1) 0 _ _ hR (hta1 0 (by decide) (by decide)) hpl (fun q hq => absurd hq (Nat.not_lt_zero q)) (Nat.zero_le _) (by omega)
set_option maxHeartbeats 4000000 in
set_option maxRecDepth 100000 in
theorem c_X6_isPair (cA : Nat → ClassId) {sg ta0 : mm_S} {ad : Nat → Nat} {mo : Nat} {M0 M : hm_M} (hR : mm_R cA sg ta0 ad mo M0 M) (hI : sp_I sg) (s a b : Nat) (hs : s < 4) (ha : a < 12) (hb : b < 12) : hm_Met cA yX6_isPair cX6_isPair 5 (some .boolean) r_X6_isPair [.ref mo, .int (nI s), .int (nI a), .int (nI b)] M (fun r9 M' => ∃ ta' : mm_S, mm_R cA sg ta' ad mo M0 M' ∧ r9 = some (.int (hm_bI (sp_pairB sg (12 * s + a) (12 * s + b)))) ∧ ta' 0 = ta0 0) := by
  refine hm_met 1 (by decide +kernel) (fun w h => by simp only [List.mem_cons, List.not_mem_nil, or_false] at h; rcases h with rfl | rfl | rfl | rfl <;> rfl) rfl (fun C X => ?_)
  show hm_W C 0 0 _ M 0 [some (.ref mo), some (.int (nI s)), some (.int (nI a)), some (.int (nI b)), none] []
  refine hr_aload_n X dX6_isPair_0 rfl (Or.inr ⟨_, rfl⟩) ?_
  refine hr_bipush (12) X dX6_isPair_1 (by decide) ?_
  refine hr_iload_n X dX6_isPair_3 rfl ?_
  refine hr_imul X dX6_isPair_4 ?_
  refine hr_iload_n X dX6_isPair_5 rfl ?_
  refine hr_iadd X dX6_isPair_6 ?_
  rw [show (12 * nI s + nI a : Int32) = nI (12 * s + a) by rw [mm_m12, nI_add]]
  refine hr_bipush (12) X dX6_isPair_7 (by decide) ?_
  refine hr_iload_n X dX6_isPair_9 rfl ?_
  refine hr_imul X dX6_isPair_10 ?_
  refine hr_iload_n X dX6_isPair_11 rfl ?_
  refine hr_iadd X dX6_isPair_12 ?_
  rw [show (12 * nI s + nI b : Int32) = nI (12 * s + b) by rw [mm_m12, nI_add]]
  refine hr_callV X kC6_227 dX6_isPair_13 (c_X6_alike cA hR hI (12 * s + a) (12 * s + b) (by omega) (by omega)) hR.1 rfl rfl rfl rfl (Nat.le_of_ble_eq_true rfl) ⟨⟨(Nat.le_of_ble_eq_true rfl), (Nat.le_of_ble_eq_true rfl)⟩, (Nat.le_of_ble_eq_true rfl), (Nat.le_of_ble_eq_true rfl)⟩ (fun v M13 hp13 => ?_)
  obtain ⟨ta1, hR, rfl, hta1⟩ := hp13
  refine hr_istore X dX6_isPair_16 (Nat.le_of_ble_eq_true rfl) ?_
  refine hr_iload X dX6_isPair_18 rfl ?_
  refine hr_sipush (1000) X dX6_isPair_20 (by decide) ?_
  refine hr_idiv X dX6_isPair_23 (by decide) ?_
  refine hr_iconst (2) X dX6_isPair_24 (by decide) ?_
  refine hr_icmp_lt 43 X dX6_isPair_25 (by decide) (fun c25 => ?_) (fun c25 => ?_)
  · have hz : sp_pairB sg (12 * s + a) (12 * s + b) = false := by rw [sp_pairB, decide_eq_true c25]; rfl
    refine hr_iconst (0) X dX6_isPair_43 (by decide) ?_
    exact hr_zret X dX6_isPair_44 (by rfl) (Nat.le_of_ble_eq_true rfl) (Nat.le_of_ble_eq_true rfl) ⟨_, hR, by rw [hz] <;> rfl, hta1⟩
  · refine hr_iload X dX6_isPair_28 rfl ?_
    refine hr_sipush (1000) X dX6_isPair_30 (by decide) ?_
    refine hr_irem X dX6_isPair_33 (by decide) ?_
    refine hr_bipush (60) X dX6_isPair_34 (by decide) ?_
    refine hr_icmp_lt 43 X dX6_isPair_36 (by decide) (fun c36 => ?_) (fun c36 => ?_)
    · have hz : sp_pairB sg (12 * s + a) (12 * s + b) = false := by rw [sp_pairB, sp_m1000, decide_eq_true c36]; simp
      refine hr_iconst (0) X dX6_isPair_43 (by decide) ?_
      exact hr_zret X dX6_isPair_44 (by rfl) (Nat.le_of_ble_eq_true rfl) (Nat.le_of_ble_eq_true rfl) ⟨_, hR, by rw [hz] <;> rfl, hta1⟩
    · have hz : sp_pairB sg (12 * s + a) (12 * s + b) = true := by rw [sp_pairB, sp_m1000, decide_eq_false c25, decide_eq_false c36]; rfl
      refine hr_iconst (1) X dX6_isPair_39 (by decide) ?_
      refine hr_goto 44 X dX6_isPair_40 (by decide) ?_
      exact hr_zret X dX6_isPair_44 (by rfl) (Nat.le_of_ble_eq_true rfl) (Nat.le_of_ble_eq_true rfl) ⟨_, hR, by rw [hz] <;> rfl, hta1⟩
set_option maxHeartbeats 4000000 in
set_option maxRecDepth 100000 in
theorem c_X6_pairsOf (cA : Nat → ClassId) {sg ta0 : mm_S} {ad : Nat → Nat} {mo : Nat} {M0 M : hm_M} (hR : mm_R cA sg ta0 ad mo M0 M) (hI : sp_I sg) (s : Nat) (hs : s < 4) : hm_Met cA yX6_pairsOf cX6_pairsOf 4 (some .int) r_X6_pairsOf [.ref mo, .int (nI s)] M (fun r9 M' => ∃ ta' : mm_S, mm_R cA sg ta' ad mo M0 M' ∧ r9 = some (.int (sp_prN sg s 144)) ∧ ta' 0 = ta0 0) := by
  refine hm_met 2 (by decide +kernel) (fun w h => by simp only [List.mem_cons, List.not_mem_nil, or_false] at h; rcases h with rfl | rfl <;> rfl) rfl (fun C X => ?_)
  show hm_W C 0 0 _ M 0 [some (.ref mo), some (.int (nI s)), none, none] []
  refine hr_iconst (0) X dX6_pairsOf_0 (by decide) ?_
  refine hr_istore_n X dX6_pairsOf_1 (Nat.le_of_ble_eq_true rfl) ?_
  refine hr_iconst (0) X dX6_pairsOf_2 (by decide) ?_
  refine hr_istore_n X dX6_pairsOf_3 (Nat.le_of_ble_eq_true rfl) ?_
  have lp4 : ∀ (f : Nat) (n : Nat) (M : hm_M) (ta : mm_S), mm_R cA sg ta ad mo M0 M → ta 0 = ta0 0 → n ≤ 144 → 144 < n + f → hm_W C 0 0 (hm_T C (fun r9 M' => ∃ ta' : mm_S, mm_R cA sg ta' ad mo M0 M' ∧ r9 = some (.int (sp_prN sg s 144)) ∧ ta' 0 = ta0 0) r_X6_pairsOf.cells r_X6_pairsOf.slots) M 4 [some (.ref mo), some (.int (nI s)), some (.int (sp_prN sg s n)), some (.int (nI n))] [] := by
    intro f
    induction f with
    | zero => intro n M ta hR hta h1 h2; exact absurd h2 (by omega)
    | succ f ih =>
      intro n M ta hR hta h1 h2
      refine hr_iload_n X dX6_pairsOf_4 rfl ?_
      refine hr_sipush (144) X dX6_pairsOf_5 (by decide) ?_
      refine hr_icmp_ge 52 X dX6_pairsOf_8 (by decide) (fun c8 => ?_) (fun c8 => ?_)
      · have hz : n = 144 := by have := (nI_leI (a := 144) (by decide) (by omega)).mp c8; omega
        subst hz
        refine hr_iload_n X dX6_pairsOf_52 rfl ?_
        exact hr_iret X dX6_pairsOf_53 (Nat.le_of_ble_eq_true rfl) (Nat.le_of_ble_eq_true rfl) ⟨_, hR, rfl, hta⟩
      · have hn : n < 144 := by
          rcases Nat.lt_or_ge n 144 with q | q
          · exact q
          · exact absurd (nI_le (by omega) (by omega)) c8
        have J44 : ∀ (M : hm_M) (ta : mm_S), mm_R cA sg ta ad mo M0 M → ta 0 = ta0 0 → hm_W C 0 0 (hm_T C (fun r9 M' => ∃ ta' : mm_S, mm_R cA sg ta' ad mo M0 M' ∧ r9 = some (.int (sp_prN sg s 144)) ∧ ta' 0 = ta0 0) r_X6_pairsOf.cells r_X6_pairsOf.slots) M 44 [some (.ref mo), some (.int (nI s)), some (.int (sp_prN sg s n)), some (.int (nI n))] [.int (if sp_pk sg s n = true then 1 else 0), .int (sp_prN sg s n)] := by
          intro M ta hR hta
          refine hr_iadd X dX6_pairsOf_44 ?_
          refine hr_istore_n X dX6_pairsOf_45 (Nat.le_of_ble_eq_true rfl) ?_
          refine hr_iinc (1) X dX6_pairsOf_46 rfl (by decide) ?_
          refine hr_goto 4 X dX6_pairsOf_49 (by decide) ?_
          rw [mm_a1]
          exact ih (n + 1) _ _ hR hta (by omega) (by omega)
        refine hr_iload_n X dX6_pairsOf_11 rfl ?_
        refine hr_iload_n X dX6_pairsOf_12 rfl ?_
        refine hr_bipush (12) X dX6_pairsOf_13 (by decide) ?_
        refine hr_idiv X dX6_pairsOf_15 (by decide) ?_
        refine hr_iload_n X dX6_pairsOf_16 rfl ?_
        refine hr_bipush (12) X dX6_pairsOf_17 (by decide) ?_
        refine hr_irem X dX6_pairsOf_19 (by decide) ?_
        refine hr_icmp_ge 43 X dX6_pairsOf_20 (by decide) (fun c20 => ?_) (fun c20 => ?_)
        · rw [mm_r12 (by omega), mm_d12 (by omega)] at c20
          have hge := (nI_leI (by omega) (by omega)).mp c20
          have hz : (if sp_pk sg s n = true then (1 : Int32) else 0) = 0 := if_neg (by rw [sp_pk, decide_eq_false (by omega)]; simp)
          refine hr_iconst (0) X dX6_pairsOf_43 (by decide) ?_
          exact hr_eq (by rw [hz] <;> rfl) (J44 _ _ hR hta)
        · rw [mm_r12 (by omega), mm_d12 (by omega)] at c20
          have hlt : n / 12 < n % 12 := by
            rcases Nat.lt_or_ge (n / 12) (n % 12) with q | q
            · exact q
            · exact absurd (nI_le q (by omega)) c20
          refine hr_aload_n X dX6_pairsOf_23 rfl (Or.inr ⟨_, rfl⟩) ?_
          refine hr_iload_n X dX6_pairsOf_24 rfl ?_
          refine hr_iload_n X dX6_pairsOf_25 rfl ?_
          refine hr_bipush (12) X dX6_pairsOf_26 (by decide) ?_
          refine hr_idiv X dX6_pairsOf_28 (by decide) ?_
          rw [mm_d12 (by omega)]
          refine hr_iload_n X dX6_pairsOf_29 rfl ?_
          refine hr_bipush (12) X dX6_pairsOf_30 (by decide) ?_
          refine hr_irem X dX6_pairsOf_32 (by decide) ?_
          rw [mm_r12 (by omega)]
          refine hr_callV X kC6_230 dX6_pairsOf_33 (c_X6_isPair cA hR hI s (n / 12) (n % 12) hs (by omega) (by omega)) hR.1 rfl rfl rfl rfl (Nat.le_of_ble_eq_true rfl) ⟨⟨(Nat.le_of_ble_eq_true rfl), (Nat.le_of_ble_eq_true rfl)⟩, (Nat.le_of_ble_eq_true rfl), (Nat.le_of_ble_eq_true rfl)⟩ (fun v M33 hp33 => ?_)
          obtain ⟨ta1, hR, rfl, hta1⟩ := hp33
          have hta : ta1 0 = ta0 0 := hta1.trans hta
          refine hr_if_eq 43 X dX6_pairsOf_36 (by decide) (fun c36 => ?_) (fun c36 => ?_)
          · rw [hm_bI_eq] at c36
            have hz : (if sp_pk sg s n = true then (1 : Int32) else 0) = 0 := if_neg (by rw [sp_pk, c36]; simp)
            refine hr_iconst (0) X dX6_pairsOf_43 (by decide) ?_
            exact hr_eq (by rw [hz] <;> rfl) (J44 _ _ hR hta)
          · rw [hm_bI_ne] at c36
            have hz : (if sp_pk sg s n = true then (1 : Int32) else 0) = 1 := if_pos (by rw [sp_pk, c36, decide_eq_true hlt]; rfl)
            refine hr_iconst (1) X dX6_pairsOf_39 (by decide) ?_
            refine hr_goto 44 X dX6_pairsOf_40 (by decide) ?_
            exact hr_eq (by rw [hz] <;> rfl) (J44 _ _ hR hta)
  exact lp4 145 0 _ _ hR rfl (by decide) (by decide)
set_option maxHeartbeats 4000000 in
set_option maxRecDepth 100000 in
theorem c_X6_pairs (cA : Nat → ClassId) {sg ta : mm_S} {ad : Nat → Nat} {mo : Nat} {M0 M : hm_M} (hR : mm_R cA sg ta ad mo M0 M) (hI : sp_I sg) (s : Int32) : hm_Met cA yX6_pairs cX6_pairs 2 (some .int) r_X6_pairs [.ref mo, .int s] M (mm_P cA ad mo M0 (sp_w (sp_isS sg s)) (sp_prN sg (nN s) 144) (sg)) := by
  refine hm_met 0 (by decide +kernel) (fun w h => by simp only [List.mem_cons, List.not_mem_nil, or_false] at h; rcases h with rfl | rfl <;> rfl) rfl (fun C X => ?_)
  show hm_W C 0 0 _ M 0 [some (.ref mo), some (.int s)] []
  refine hr_aload_n X dX6_pairs_0 rfl (Or.inr ⟨_, rfl⟩) ?_
  refine hr_iload_n X dX6_pairs_1 rfl ?_
  refine hr_callV X kC6_165 dX6_pairs_2 (c_X6_noSheet cA hR s) hR.1 rfl rfl rfl rfl (Nat.le_of_ble_eq_true rfl) ⟨⟨(Nat.le_of_ble_eq_true rfl), (Nat.le_of_ble_eq_true rfl)⟩, (Nat.le_of_ble_eq_true rfl), (Nat.le_of_ble_eq_true rfl)⟩ (fun v M2 hp2 => ?_)
  obtain ⟨hR, rfl⟩ := hp2
  refine hr_if_eq 12 X dX6_pairs_5 (by decide) (fun c5 => ?_) (fun c5 => ?_)
  · rw [hm_bz] at c5
    have hc := sp_w_0.mp c5
    obtain ⟨a, ha, ha4, rfl⟩ := sp_isS_nat hI hc
    have e1 : nN (nI a) = a := nI_clamp (by omega)
    have hx9 : ∀ q : sp_w (sp_isS sg (nI a)) = 0, sp_prN sg a 144 = sp_prN sg (nN (nI a)) 144 := fun _ => by rw [e1]
    refine hr_aload_n X dX6_pairs_12 rfl (Or.inr ⟨_, rfl⟩) ?_
    refine hr_iload_n X dX6_pairs_13 rfl ?_
    refine hr_callV X kC6_233 dX6_pairs_14 (c_X6_pairsOf cA hR hI a ha4) hR.1 rfl rfl rfl rfl (Nat.le_of_ble_eq_true rfl) ⟨⟨(Nat.le_of_ble_eq_true rfl), (Nat.le_of_ble_eq_true rfl)⟩, (Nat.le_of_ble_eq_true rfl), (Nat.le_of_ble_eq_true rfl)⟩ (fun v M14 hp14 => ?_)
    obtain ⟨ta1, hR, rfl, hta1⟩ := hp14
    exact hr_iret X dX6_pairs_17 (Nat.le_of_ble_eq_true rfl) (Nat.le_of_ble_eq_true rfl) (by first
        | exact ⟨_, _, hR, rfl, by rw [hta1]; exact mm_up_s, hx9⟩
        | exact ⟨_, _, hR, rfl, mm_up_s, hx9⟩)
  · rw [hm_bz] at c5
    have hx9 : ∀ q : sp_w (sp_isS sg s) = 0, (0 : Int32) = sp_prN sg (nN s) 144 := fun q => absurd q c5
    have hta1 : mm_up ta 0 0 (sp_w (sp_isS sg s)) 0 = mm_up ta 0 0 (sp_w (sp_isS sg s)) 0 := rfl
    refine hr_iconst (0) X dX6_pairs_8 (by decide) ?_
    refine hr_goto 17 X dX6_pairs_9 (by decide) ?_
    exact hr_iret X dX6_pairs_17 (Nat.le_of_ble_eq_true rfl) (Nat.le_of_ble_eq_true rfl) (by first
        | exact ⟨_, _, hR, rfl, by rw [hta1]; exact mm_up_s, hx9⟩
        | exact ⟨_, _, hR, rfl, mm_up_s, hx9⟩)
set_option maxHeartbeats 4000000 in
set_option maxRecDepth 100000 in
theorem c_X6_pairsAnew (cA : Nat → ClassId) {sg ta : mm_S} {ad : Nat → Nat} {mo : Nat} {M0 M : hm_M} (hR : mm_R cA sg ta ad mo M0 M) (hI : sp_I sg) (s : Int32) : hm_Met cA yX6_pairsAnew cX6_pairsAnew 2 (some .int) r_X6_pairsAnew [.ref mo, .int s] M (mm_P cA ad mo M0 (sp_w (sp_isS sg s)) (sp_prN sg (nN s) 144) (sg)) := by
  refine hm_met 0 (by decide +kernel) (fun w h => by simp only [List.mem_cons, List.not_mem_nil, or_false] at h; rcases h with rfl | rfl <;> rfl) rfl (fun C X => ?_)
  show hm_W C 0 0 _ M 0 [some (.ref mo), some (.int s)] []
  refine hr_aload_n X dX6_pairsAnew_0 rfl (Or.inr ⟨_, rfl⟩) ?_
  refine hr_iload_n X dX6_pairsAnew_1 rfl ?_
  refine hr_callV X kC6_236 dX6_pairsAnew_2 (c_X6_pairs cA hR hI s) hR.1 rfl rfl rfl rfl (Nat.le_of_ble_eq_true rfl) ⟨⟨(Nat.le_of_ble_eq_true rfl), (Nat.le_of_ble_eq_true rfl)⟩, (Nat.le_of_ble_eq_true rfl), (Nat.le_of_ble_eq_true rfl)⟩ (fun v M2 hp2 => ?_)
  obtain ⟨ta1, x, hR, rfl, h0, hx⟩ := hp2
  exact hr_iret X dX6_pairsAnew_5 (Nat.le_of_ble_eq_true rfl) (Nat.le_of_ble_eq_true rfl) ⟨_, _, hR, rfl, h0, hx⟩
