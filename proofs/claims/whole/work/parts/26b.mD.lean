set_option maxHeartbeats 4000000 in
set_option maxRecDepth 100000 in
theorem c_X6_dueOf (cA : Nat → ClassId) {sg ta0 : mm_S} {ad : Nat → Nat} {mo : Nat} {M0 M : hm_M} (hR : mm_R cA sg ta0 ad mo M0 M) (hI : sp_I sg) (k v : Nat) (hk : k < 48) (hs : k / 12 < sp_n sg) (hv : sg 14 k = nI v) (hvt : sp_th sg (k / 12) v) : hm_Met cA yX6_dueOf cX6_dueOf 5 (some .int) r_X6_dueOf [.ref mo, .int (nI k)] M (mm_W cA ad mo M0 (sp_due sg k) sg ta0) := by
  refine hm_met 3 (by decide +kernel) (fun w h => by simp only [List.mem_cons, List.not_mem_nil, or_false] at h; rcases h with rfl | rfl <;> rfl) rfl (fun C X => ?_)
  show hm_W C 0 0 _ M 0 [some (.ref mo), some (.int (nI k)), none, none, none] []
  have hv16 := hvt.1
  have ev : nN (sg 14 k) = v := by rw [hv]; exact nI_clamp (by omega)
  have hs4 : k / 12 < 4 := by omega
  refine hr_iconst (0) X dX6_dueOf_0 (by decide) ?_
  refine hr_istore_n X dX6_dueOf_1 (Nat.le_of_ble_eq_true rfl) ?_
  refine hr_iconst (0) X dX6_dueOf_2 (by decide) ?_
  refine hr_istore_n X dX6_dueOf_3 (Nat.le_of_ble_eq_true rfl) ?_
  have lp4 : ∀ (f : Nat) (t : Nat) (y : Option Value) (M : hm_M) (ta : mm_S), mm_R cA sg ta ad mo M0 M → (∀ q, q ≠ 22 → ta q = ta0 q) → t ≤ 5 → 5 < t + f → hm_W C 0 0 (hm_T C (mm_W cA ad mo M0 (sp_due sg k) sg ta0) r_X6_dueOf.cells r_X6_dueOf.slots) M 4 [some (.ref mo), some (.int (nI k)), some (.int (sp_is (sp_dueT sg k) t)), some (.int (nI t)), y] [] := by
    intro f
    induction f with
    | zero => intro t y M ta hR hta h1 h2; exact absurd h2 (by omega)
    | succ f ih =>
      intro t y M ta hR hta h1 h2
      refine hr_iload_n X dX6_dueOf_4 rfl ?_
      refine hr_iconst (5) X dX6_dueOf_5 (by decide) ?_
      refine hr_icmp_ge 56 X dX6_dueOf_6 (by decide) (fun c6 => ?_) (fun c6 => ?_)
      · have hz : t = 5 := by have := (nI_leI (a := 5) (by decide) (by omega)).mp c6; omega
        subst hz
        refine hr_iload_n X dX6_dueOf_56 rfl ?_
        exact hr_iret X dX6_dueOf_57 (Nat.le_of_ble_eq_true rfl) (Nat.le_of_ble_eq_true rfl) ⟨_, hR, rfl, hta⟩
      · have ht : t < 5 := by
          rcases Nat.lt_or_ge t 5 with q | q
          · exact q
          · exact absurd (nI_le q (by omega)) c6
        refine hr_aload_n X dX6_dueOf_9 rfl (Or.inr ⟨_, rfl⟩) ?_
        refine hr_iload_n X dX6_dueOf_10 rfl ?_
        refine hr_bipush (12) X dX6_dueOf_11 (by decide) ?_
        refine hr_idiv X dX6_dueOf_13 (by decide) ?_
        rw [mm_d12 (by omega)]
        refine hr_aload_n X dX6_dueOf_14 rfl (Or.inr ⟨_, rfl⟩) ?_
        refine mm_getA X kF6_47 dX6_dueOf_15 hR 14 rfl ?_
        refine hr_iload_n X dX6_dueOf_18 rfl ?_
        refine mm_iald (k) X dX6_dueOf_19 hR rfl (by simp only [mm_m2, mm_m3, mm_m4, mm_m5, mm_m12, mm_m16, nI_add, mm_a1, mm_a2, mm_a3, mm_a5, mm_a12, sp_e]) (by simp only [mm_len, sp_e]; omega) ?_
        rw [hv]
        refine hr_iload_n X dX6_dueOf_20 rfl ?_
        refine hr_callV X kC6_146 dX6_dueOf_21 (c_X6_has cA hR hI (k / 12) v t hs hvt ht) hR.1 rfl rfl rfl rfl (Nat.le_of_ble_eq_true rfl) ⟨⟨(Nat.le_of_ble_eq_true rfl), (Nat.le_of_ble_eq_true rfl)⟩, (Nat.le_of_ble_eq_true rfl), (Nat.le_of_ble_eq_true rfl)⟩ (fun v M21 hp => ?_)
        obtain ⟨rfl, rfl⟩ := hp
        refine hr_istore X dX6_dueOf_24 (Nat.le_of_ble_eq_true rfl) ?_
        have J48 : ∀ (M : hm_M) (ta : mm_S), mm_R cA sg ta ad mo M0 M → (∀ q, q ≠ 22 → ta q = ta0 q) → hm_W C 0 0 (hm_T C (mm_W cA ad mo M0 (sp_due sg k) sg ta0) r_X6_dueOf.cells r_X6_dueOf.slots) M 48 [some (.ref mo), some (.int (nI k)), some (.int (sp_is (sp_dueT sg k) t)), some (.int (nI t)), some (.int (sp_o (Option.map (fun u => sp_e (k / 12) u t) (sp_has sg (k / 12) v t))))] [.int (sp_dueT sg k t), .int (sp_is (sp_dueT sg k) t)] := by
          intro M ta hR hta
          refine hr_iadd X dX6_dueOf_48 ?_
          refine hr_istore_n X dX6_dueOf_49 (Nat.le_of_ble_eq_true rfl) ?_
          refine hr_iinc (1) X dX6_dueOf_50 rfl (by decide) ?_
          refine hr_goto 4 X dX6_dueOf_53 (by decide) ?_
          rw [mm_a1]
          exact ih (t + 1) _ _ _ hR hta (by omega) (by omega)
        refine hr_iload_n X dX6_dueOf_26 rfl ?_
        refine hr_iload X dX6_dueOf_27 rfl ?_
        refine hr_iconst (-1) X dX6_dueOf_29 (by decide) ?_
        refine hr_icmp_ne 37 X dX6_dueOf_30 (by decide) (fun c30 => ?_) (fun c30 => ?_)
        · obtain ⟨w, hw⟩ := sp_o_some c30
          obtain ⟨u, hq, -⟩ := Option.map_eq_some_iff.mp hw
          have hu16 := (sp_has_some hI hs hvt hq).1.1
          have hqs := sp_has_some hI hs hvt hq
          have hz : sp_dueT sg k t = sp_gain sg (sp_e (k / 12) u t) (5 * k + t) := by rw [sp_dueT, ev, hq]
          have he : sp_e (k / 12) u t < 320 := by simp only [sp_e]; omega
          refine hr_aload_n X dX6_dueOf_37 rfl (Or.inr ⟨_, rfl⟩) ?_
          refine hr_iload X dX6_dueOf_38 rfl ?_
          refine hr_iconst (5) X dX6_dueOf_40 (by decide) ?_
          refine hr_iload_n X dX6_dueOf_41 rfl ?_
          refine hr_imul X dX6_dueOf_42 ?_
          refine hr_iload_n X dX6_dueOf_43 rfl ?_
          refine hr_iadd X dX6_dueOf_44 ?_
          rw [hq, show (5 * nI k + nI t : Int32) = nI (5 * k + t) by rw [mm_m5, nI_add]]
          refine hr_callV X kC6_177 dX6_dueOf_45 (c_X6_gained cA hR hI (sp_e (k / 12) u t) (5 * k + t) he (by omega) (sp_k012 hI hs4 hu16 ht hqs.2.2.1 hqs.2.2.2)) hR.1 rfl rfl rfl rfl (Nat.le_of_ble_eq_true rfl) ⟨⟨(Nat.le_of_ble_eq_true rfl), (Nat.le_of_ble_eq_true rfl)⟩, (Nat.le_of_ble_eq_true rfl), (Nat.le_of_ble_eq_true rfl)⟩ (fun v M45 hp45 => ?_)
          obtain ⟨ta1, hR, rfl, hta1⟩ := hp45
          have hta : ∀ q, q ≠ 22 → ta1 q = ta0 q := fun q hq => (hta1 q hq).trans (hta q hq)
          rw [← hq]
          exact hr_eq (by rw [hz] <;> rfl) (J48 _ _ hR hta)
        · have hq : sp_has sg (k / 12) v t = none := Option.map_eq_none_iff.mp (sp_o_none (fun u h => by
            obtain ⟨w, h1, rfl⟩ := Option.map_eq_some_iff.mp h
            have := (sp_has_some hI hs hvt h1).1.1
            simp only [sp_e]
            omega) c30)
          have hz : sp_dueT sg k t = 0 := by rw [sp_dueT, ev, hq]
          refine hr_iconst (0) X dX6_dueOf_33 (by decide) ?_
          refine hr_goto 48 X dX6_dueOf_34 (by decide) ?_
          exact hr_eq (by rw [hz] <;> rfl) (J48 _ _ hR hta)
  exact lp4 6 0 none _ _ hR (fun _ _ => rfl) (by decide) (by decide)
set_option maxHeartbeats 4000000 in
set_option maxRecDepth 100000 in
theorem c_X6_isNamed (cA : Nat → ClassId) {sg ta : mm_S} {ad : Nat → Nat} {mo : Nat} {M0 M : hm_M} (hR : mm_R cA sg ta ad mo M0 M) (hI : sp_I sg) (s v t : Int32) : hm_Met cA yX6_isNamed cX6_isNamed 4 (some .boolean) r_X6_isNamed [.ref mo, .int s, .int v, .int t] M (hm_pu (some (.int (hm_bI (sp_isV sg s v && sp_in t 0 4)))) M) := by
  refine hm_met 0 (by decide +kernel) (fun w h => by simp only [List.mem_cons, List.not_mem_nil, or_false] at h; rcases h with rfl | rfl | rfl | rfl <;> rfl) rfl (fun C X => ?_)
  show hm_W C 0 0 _ M 0 [some (.ref mo), some (.int s), some (.int v), some (.int t)] []
  refine hr_aload_n X dX6_isNamed_0 rfl (Or.inr ⟨_, rfl⟩) ?_
  refine hr_iload_n X dX6_isNamed_1 rfl ?_
  refine hr_iload_n X dX6_isNamed_2 rfl ?_
  refine hr_callV X kC6_149 dX6_isNamed_3 (c_X6_isVersion cA hR hI s v) hR.1 rfl rfl rfl rfl (Nat.le_of_ble_eq_true rfl) ⟨⟨(Nat.le_of_ble_eq_true rfl), (Nat.le_of_ble_eq_true rfl)⟩, (Nat.le_of_ble_eq_true rfl), (Nat.le_of_ble_eq_true rfl)⟩ (fun v M3 hp => ?_)
  obtain ⟨rfl, rfl⟩ := hp
  refine hr_if_eq 20 X dX6_isNamed_6 (by decide) (fun c6 => ?_) (fun c6 => ?_)
  · rw [hm_bI_eq] at c6
    refine hr_iconst (0) X dX6_isNamed_20 (by decide) ?_
    exact hr_zret X dX6_isNamed_21 (by rfl) (Nat.le_of_ble_eq_true rfl) (Nat.le_of_ble_eq_true rfl) ⟨by simp [hm_bI, *], rfl⟩
  · rw [hm_bI_ne] at c6
    refine hr_iload_n X dX6_isNamed_9 rfl ?_
    refine hr_callS X kC6_130 dX6_isNamed_10 (c_X6_isTask cA (M := M) t) rfl rfl rfl (Nat.le_of_ble_eq_true rfl) ⟨⟨(Nat.le_of_ble_eq_true rfl), (Nat.le_of_ble_eq_true rfl)⟩, (Nat.le_of_ble_eq_true rfl), (Nat.le_of_ble_eq_true rfl)⟩ (fun v M10 hp => ?_)
    obtain ⟨rfl, rfl⟩ := hp
    refine hr_if_eq 20 X dX6_isNamed_13 (by decide) (fun c13 => ?_) (fun c13 => ?_)
    · rw [hm_bI_eq] at c13
      refine hr_iconst (0) X dX6_isNamed_20 (by decide) ?_
      exact hr_zret X dX6_isNamed_21 (by rfl) (Nat.le_of_ble_eq_true rfl) (Nat.le_of_ble_eq_true rfl) ⟨by simp [hm_bI, *], rfl⟩
    · rw [hm_bI_ne] at c13
      refine hr_iconst (1) X dX6_isNamed_16 (by decide) ?_
      refine hr_goto 21 X dX6_isNamed_17 (by decide) ?_
      exact hr_zret X dX6_isNamed_21 (by rfl) (Nat.le_of_ble_eq_true rfl) (Nat.le_of_ble_eq_true rfl) ⟨by simp [hm_bI, *], rfl⟩
set_option maxHeartbeats 4000000 in
set_option maxRecDepth 100000 in
theorem c_X6_mended (cA : Nat → ClassId) {sg ta : mm_S} {ad : Nat → Nat} {mo : Nat} {M0 M : hm_M} (hR : mm_R cA sg ta ad mo M0 M) (hI : sp_I sg) (s v t : Nat) (hs : s < sp_n sg) (hv : sp_th sg s v) (ht : t < 5) (kind : Int32) : hm_Met cA yX6_mended cX6_mended 6 (some .int) r_X6_mended [.ref mo, .int (nI s), .int (nI v), .int (nI t), .int kind] M (hm_pu (some (.int (sp_o ((sp_men sg s v t kind).map (fun u => sp_e s u t))))) M) := by
  refine hm_met 1 (by decide +kernel) (fun w h => by simp only [List.mem_cons, List.not_mem_nil, or_false] at h; rcases h with rfl | rfl | rfl | rfl | rfl <;> rfl) rfl (fun C X => ?_)
  show hm_W C 0 0 _ M 0 [some (.ref mo), some (.int (nI s)), some (.int (nI v)), some (.int (nI t)), some (.int kind), none] []
  have hs4 : s < 4 := by have := hI.i1.2; omega
  refine hr_aload_n X dX6_mended_0 rfl (Or.inr ⟨_, rfl⟩) ?_
  refine hr_iload_n X dX6_mended_1 rfl ?_
  refine hr_iload_n X dX6_mended_2 rfl ?_
  refine hr_iload_n X dX6_mended_3 rfl ?_
  refine hr_callV X kC6_146 dX6_mended_4 (c_X6_has cA hR hI s v t hs hv ht) hR.1 rfl rfl rfl rfl (Nat.le_of_ble_eq_true rfl) ⟨⟨(Nat.le_of_ble_eq_true rfl), (Nat.le_of_ble_eq_true rfl)⟩, (Nat.le_of_ble_eq_true rfl), (Nat.le_of_ble_eq_true rfl)⟩ (fun v M4 hp => ?_)
  obtain ⟨rfl, rfl⟩ := hp
  refine hr_istore X dX6_mended_7 (Nat.le_of_ble_eq_true rfl) ?_
  refine hr_iload X dX6_mended_9 rfl ?_
  refine hr_iconst (-1) X dX6_mended_11 (by decide) ?_
  refine hr_icmp_eq 27 X dX6_mended_12 (by decide) (fun c12 => ?_) (fun c12 => ?_)
  · have hq : sp_has sg s v t = none := Option.map_eq_none_iff.mp (sp_o_none (fun u h => by
      obtain ⟨w, h1, rfl⟩ := Option.map_eq_some_iff.mp h
      have := (sp_has_some hI hs hv h1).1.1
      simp only [sp_e]
      omega) c12)
    have hz : sp_men sg s v t kind = none := by simp [sp_men, hq]
    refine hr_iconst (-1) X dX6_mended_27 (by decide) ?_
    refine hr_goto 33 X dX6_mended_28 (by decide) ?_
    exact hr_iret X dX6_mended_33 (Nat.le_of_ble_eq_true rfl) (Nat.le_of_ble_eq_true rfl) ⟨by simp [hz, hq, sp_o], rfl⟩
  · obtain ⟨w, hw⟩ := sp_o_some c12
    obtain ⟨u, hq, -⟩ := Option.map_eq_some_iff.mp hw
    have hu16 := (sp_has_some hI hs hv hq).1.1
    refine hr_aload_n X dX6_mended_15 rfl (Or.inr ⟨_, rfl⟩) ?_
    refine mm_getA X kF6_23 dX6_mended_16 hR 6 rfl ?_
    refine hr_iload X dX6_mended_19 rfl ?_
    refine mm_iald (sp_e s u t) X dX6_mended_21 hR rfl (by rw [hq]; rfl) (by simp only [mm_len, sp_e]; omega) ?_
    refine hr_iload X dX6_mended_22 rfl ?_
    refine hr_icmp_eq 31 X dX6_mended_24 (by decide) (fun c24 => ?_) (fun c24 => ?_)
    · have hz : sp_men sg s v t kind = some u := by simp [sp_men, hq, c24]
      refine hr_iload X dX6_mended_31 rfl ?_
      exact hr_iret X dX6_mended_33 (Nat.le_of_ble_eq_true rfl) (Nat.le_of_ble_eq_true rfl) ⟨by simp [hz, hq, sp_o], rfl⟩
    · have hz : sp_men sg s v t kind = none := by simp [sp_men, hq, c24]
      refine hr_iconst (-1) X dX6_mended_27 (by decide) ?_
      refine hr_goto 33 X dX6_mended_28 (by decide) ?_
      exact hr_iret X dX6_mended_33 (Nat.le_of_ble_eq_true rfl) (Nat.le_of_ble_eq_true rfl) ⟨by simp [hz, hq, sp_o], rfl⟩
set_option maxHeartbeats 4000000 in
set_option maxRecDepth 100000 in
theorem c_X6_mend (cA : Nat → ClassId) {sg ta0 : mm_S} {ad : Nat → Nat} {mo : Nat} {M0 M : hm_M} (hR : mm_R cA sg ta0 ad mo M0 M) (hI : sp_I sg) (s e : Nat) (hs : s < sp_n sg) (hs4 : s < 4) (he : e < 320) (rule slack : Int32) (hok : sp_okR sg e rule slack) : hm_Met cA yX6_mend cX6_mend 8 (some .int) r_X6_mend [.ref mo, .int (nI s), .int (nI e), .int rule, .int slack] M (fun r9 M' => ∃ ta' : mm_S, mm_R cA (sp_mend sg s e rule slack) ta' ad mo M0 M' ∧ r9 = some (.int (sp_mendN sg s e rule slack)) ∧ ta' 0 = ta0 0) := by
  refine hm_met 3 (by decide +kernel) (fun w h => by simp only [List.mem_cons, List.not_mem_nil, or_false] at h; rcases h with rfl | rfl | rfl | rfl | rfl <;> rfl) rfl (fun C X => ?_)
  show hm_W C 0 0 _ M 0 [some (.ref mo), some (.int (nI s)), some (.int (nI e)), some (.int rule), some (.int slack), none, none, none] []
  have hI1 : sp_I (sp_rul sg e rule slack) := hI.rul hok
  refine hr_bipush (12) X dX6_mend_0 (by decide) ?_
  refine hr_iload_n X dX6_mend_2 rfl ?_
  refine hr_imul X dX6_mend_3 ?_
  refine hr_istore X dX6_mend_4 (Nat.le_of_ble_eq_true rfl) ?_
  have lp6 : ∀ (f : Nat) (p : Nat) (M : hm_M) (ta : mm_S), mm_R cA sg ta ad mo M0 M → ta 0 = ta0 0 → p ≤ 12 → 12 < p + f → (∀ q, q < p → ta 23 (12 * s + q) = if sg 13 (12 * s + q) = 2 then sp_due sg (12 * s + q) else 0) → hm_W C 0 0 (hm_T C (fun r9 M' => ∃ ta' : mm_S, mm_R cA (sp_mend sg s e rule slack) ta' ad mo M0 M' ∧ r9 = some (.int (sp_mendN sg s e rule slack)) ∧ ta' 0 = ta0 0) r_X6_mend.cells r_X6_mend.slots) M 6 [some (.ref mo), some (.int (nI s)), some (.int (nI e)), some (.int rule), some (.int slack), some (.int (nI (12 * s + p))), none, none] [] := by
    intro f
    induction f with
    | zero => intro p M ta hR hta h1 h2 h3; exact absurd h2 (by omega)
    | succ f ih =>
      intro p M ta hR hta h1 h2 h3
      refine hr_iload X dX6_mend_6 rfl ?_
      refine hr_bipush (12) X dX6_mend_8 (by decide) ?_
      refine hr_iload_n X dX6_mend_10 rfl ?_
      refine hr_imul X dX6_mend_11 ?_
      refine hr_bipush (12) X dX6_mend_12 (by decide) ?_
      refine hr_iadd X dX6_mend_14 ?_
      refine hr_icmp_ge 52 X dX6_mend_15 (by decide) (fun c15 => ?_) (fun c15 => ?_)
      · simp only [mm_m12, mm_a12] at c15
        have hz : p = 12 := by have := (nI_leI (by omega) (by omega)).mp c15; omega
        subst hz
        refine hr_aload_n X dX6_mend_52 rfl (Or.inr ⟨_, rfl⟩) ?_
        refine mm_getA X kF6_29 dX6_mend_53 hR 8 rfl ?_
        refine hr_iload_n X dX6_mend_56 rfl ?_
        refine hr_iload_n X dX6_mend_57 rfl ?_
        refine mm_iast (e) X dX6_mend_58 hR rfl rfl (by simp only [mm_len, sp_e]; omega) (fun M58 hR => ?_)
        refine hr_aload_n X dX6_mend_59 rfl (Or.inr ⟨_, rfl⟩) ?_
        refine mm_getA X kF6_32 dX6_mend_60 hR 9 rfl ?_
        refine hr_iload_n X dX6_mend_63 rfl ?_
        refine hr_iload X dX6_mend_64 rfl ?_
        refine mm_iast (e) X dX6_mend_66 hR rfl rfl (by simp only [mm_len, sp_e]; omega) (fun M66 hR => ?_)
        refine hr_iconst (0) X dX6_mend_67 (by decide) ?_
        refine hr_istore X dX6_mend_68 (Nat.le_of_ble_eq_true rfl) ?_
        refine hr_bipush (12) X dX6_mend_70 (by decide) ?_
        refine hr_iload_n X dX6_mend_72 rfl ?_
        refine hr_imul X dX6_mend_73 ?_
        refine hr_istore X dX6_mend_74 (Nat.le_of_ble_eq_true rfl) ?_
        have lp76 : ∀ (f : Nat) (p : Nat) (y : Option Value) (M : hm_M) (ta : mm_S), mm_R cA (sp_mdS sg (sp_rul sg e rule slack) s p) ta ad mo M0 M → ta 0 = ta0 0 → p ≤ 12 → 12 < p + f → (∀ q, q < 12 → ta 23 (12 * s + q) = if sg 13 (12 * s + q) = 2 then sp_due sg (12 * s + q) else 0) → hm_W C 0 0 (hm_T C (fun r9 M' => ∃ ta' : mm_S, mm_R cA (sp_mend sg s e rule slack) ta' ad mo M0 M' ∧ r9 = some (.int (sp_mendN sg s e rule slack)) ∧ ta' 0 = ta0 0) r_X6_mend.cells r_X6_mend.slots) M 76 [some (.ref mo), some (.int (nI s)), some (.int (nI e)), some (.int rule), some (.int slack), some (.int (sp_mdN sg (sp_rul sg e rule slack) s p)), some (.int (nI (12 * s + p))), y] [] := by
          intro f
          induction f with
          | zero => intro p y M ta hR hta h4 h5 h3; exact absurd h5 (by omega)
          | succ f ih76 =>
            intro p y M ta hR hta h4 h5 h3
            refine hr_iload X dX6_mend_76 rfl ?_
            refine hr_bipush (12) X dX6_mend_78 (by decide) ?_
            refine hr_iload_n X dX6_mend_80 rfl ?_
            refine hr_imul X dX6_mend_81 ?_
            refine hr_bipush (12) X dX6_mend_82 (by decide) ?_
            refine hr_iadd X dX6_mend_84 ?_
            refine hr_icmp_ge 190 X dX6_mend_85 (by decide) (fun c85 => ?_) (fun c85 => ?_)
            · simp only [mm_m12, mm_a12] at c85
              have hz : p = 12 := by have := (nI_leI (by omega) (by omega)).mp c85; omega
              subst hz
              refine hr_iload X dX6_mend_190 rfl ?_
              exact hr_iret X dX6_mend_192 (Nat.le_of_ble_eq_true rfl) (Nat.le_of_ble_eq_true rfl) ⟨_, hR, rfl, hta⟩
            · simp only [mm_m12, mm_a12] at c85
              have hp : p < 12 := by
                rcases Nat.lt_or_ge p 12 with q | q
                · exact q
                · exact absurd (nI_le (by omega) (by omega)) c85
              have e13 : sp_mdS sg (sp_rul sg e rule slack) s p 13 = sg 13 := sp_mdS_j p 13 (by decide) (by decide)
              have hIp : sp_I (sp_mdS sg (sp_rul sg e rule slack) s p) := hI1.congr (fun j a b _ => sp_mdS_j p j a b)
              have hdue : sp_due (sp_mdS sg (sp_rul sg e rule slack) s p) (12 * s + p) = sp_due (sp_rul sg e rule slack) (12 * s + p) := sp_due_congr (fun j a b _ => sp_mdS_j p j a b) _
              have K : ∀ (y : Option Value) (M : hm_M) (ta : mm_S), mm_R cA (sp_mdS sg (sp_rul sg e rule slack) s (p + 1)) ta ad mo M0 M → ta 0 = ta0 0 → (∀ q, q < 12 → ta 23 (12 * s + q) = if sg 13 (12 * s + q) = 2 then sp_due sg (12 * s + q) else 0) → hm_W C 0 0 (hm_T C (fun r9 M' => ∃ ta' : mm_S, mm_R cA (sp_mend sg s e rule slack) ta' ad mo M0 M' ∧ r9 = some (.int (sp_mendN sg s e rule slack)) ∧ ta' 0 = ta0 0) r_X6_mend.cells r_X6_mend.slots) M 184 [some (.ref mo), some (.int (nI s)), some (.int (nI e)), some (.int rule), some (.int slack), some (.int (sp_mdN sg (sp_rul sg e rule slack) s (p + 1))), some (.int (nI (12 * s + p))), y] [] := by
                intro y M ta hR hta h3
                refine hr_iinc (1) X dX6_mend_184 rfl (by decide) ?_
                refine hr_goto 76 X dX6_mend_187 (by decide) ?_
                rw [mm_a1]
                exact ih76 (p + 1) _ _ _ hR hta (by omega) (by omega) h3
              refine hr_aload_n X dX6_mend_88 rfl (Or.inr ⟨_, rfl⟩) ?_
              refine mm_getA X kF6_44 dX6_mend_89 hR 13 rfl ?_
              refine hr_iload X dX6_mend_92 rfl ?_
              refine mm_iald (12 * s + p) X dX6_mend_94 hR rfl rfl (by simp only [mm_len, sp_e]; omega) ?_
              refine hr_iconst (2) X dX6_mend_95 (by decide) ?_
              refine hr_icmp_ne 184 X dX6_mend_96 (by decide) (fun c96 => ?_) (fun c96 => ?_)
              · rw [e13] at c96
                have hz : sp_chg sg (sp_rul sg e rule slack) (12 * s + p) = false := by simp [sp_chg, c96]
                have k1 : sp_mdS sg (sp_rul sg e rule slack) s (p + 1) = sp_mdS sg (sp_rul sg e rule slack) s p := by rw [sp_mdS, if_neg (by rw [hz]; decide)]
                have k2 : sp_mdN sg (sp_rul sg e rule slack) s (p + 1) = sp_mdN sg (sp_rul sg e rule slack) s p := by show sp_mdN sg (sp_rul sg e rule slack) s p + (if sp_chg sg (sp_rul sg e rule slack) (12 * s + p) = true then 1 else 0) = _; rw [hz]; exact Int32.add_zero _
                have hK := K y M ta (by rw [k1]; exact hR) hta h3
                rw [k2] at hK
                exact hK
              · rw [e13] at c96
                obtain ⟨hks, v, hv, hvt⟩ := sp_handed hIp (k := 12 * s + p) (by omega) (by rw [e13, c96]; decide)
                refine hr_aload_n X dX6_mend_99 rfl (Or.inr ⟨_, rfl⟩) ?_
                refine hr_iload X dX6_mend_100 rfl ?_
                refine hr_callV X kC6_180 dX6_mend_102 (c_X6_dueOf cA hR hIp (12 * s + p) v (by omega) hks hv hvt) hR.1 rfl rfl rfl rfl (Nat.le_of_ble_eq_true rfl) ⟨⟨(Nat.le_of_ble_eq_true rfl), (Nat.le_of_ble_eq_true rfl)⟩, (Nat.le_of_ble_eq_true rfl), (Nat.le_of_ble_eq_true rfl)⟩ (fun v M102 hp102 => ?_)
                obtain ⟨ta1, hR, rfl, hta1⟩ := hp102
                rw [hdue]
                have hta : ta1 0 = ta0 0 := (hta1 0 (by decide)).trans hta
                have h3 : (∀ q, q < 12 → ta1 23 (12 * s + q) = if sg 13 (12 * s + q) = 2 then sp_due sg (12 * s + q) else 0) := fun q hq => by rw [hta1 23 (by decide)]; exact h3 q hq
                refine hr_aload_n X dX6_mend_105 rfl (Or.inr ⟨_, rfl⟩) ?_
                refine mm_getA X kF6_74 dX6_mend_106 hR 23 rfl ?_
                refine hr_iload X dX6_mend_109 rfl ?_
                refine mm_ialdT (12 * s + p) X dX6_mend_111 hR rfl rfl (by simp only [mm_len, sp_e]; omega) ?_
                rw [h3 p hp, if_pos c96]
                refine hr_icmp_eq 184 X dX6_mend_112 (by decide) (fun c112 => ?_) (fun c112 => ?_)
                · have hz : sp_chg sg (sp_rul sg e rule slack) (12 * s + p) = false := by simp [sp_chg, c112]
                  have k1 : sp_mdS sg (sp_rul sg e rule slack) s (p + 1) = sp_mdS sg (sp_rul sg e rule slack) s p := by rw [sp_mdS, if_neg (by rw [hz]; decide)]
                  have k2 : sp_mdN sg (sp_rul sg e rule slack) s (p + 1) = sp_mdN sg (sp_rul sg e rule slack) s p := by show sp_mdN sg (sp_rul sg e rule slack) s p + (if sp_chg sg (sp_rul sg e rule slack) (12 * s + p) = true then 1 else 0) = _; rw [hz]; exact Int32.add_zero _
                  have hK := K y _ ta1 (by rw [k1]; exact hR) hta h3
                  rw [k2] at hK
                  exact hK
                · have hz : sp_chg sg (sp_rul sg e rule slack) (12 * s + p) = true := by simp [sp_chg, c96, c112]
                  have e11 : sp_mdS sg (sp_rul sg e rule slack) s p 11 (4 * s + p / 3) = sp_cls sg (12 * s + p) := by
                    rw [sp_mdS_j p 11 (by decide) (by decide), sp_cls, show (12 * s + p) / 12 = s by omega, show (12 * s + p) % 12 / 3 = p / 3 by omega]
                    rfl
                  have k1 : sp_mdS sg (sp_rul sg e rule slack) s (p + 1) = mm_up (mm_up (sp_mdS sg (sp_rul sg e rule slack) s p) 16 (12 * s + p) (sp_mdS sg (sp_rul sg e rule slack) s p 16 (12 * s + p) + (if sp_cls sg (12 * s + p) = 0 then 0 else 1))) 15 (12 * s + p) (if sp_cls sg (12 * s + p) = 0 then sp_due (sp_rul sg e rule slack) (12 * s + p) else sp_mdS sg (sp_rul sg e rule slack) s p 15 (12 * s + p)) := by rw [sp_mdS, if_pos hz]
                  have k2 : sp_mdN sg (sp_rul sg e rule slack) s (p + 1) = sp_mdN sg (sp_rul sg e rule slack) s p + 1 := by show sp_mdN sg (sp_rul sg e rule slack) s p + (if sp_chg sg (sp_rul sg e rule slack) (12 * s + p) = true then 1 else 0) = _; rw [hz]; rfl
                  refine hr_iinc (1) X dX6_mend_115 rfl (by decide) ?_
                  refine hr_aload_n X dX6_mend_118 rfl (Or.inr ⟨_, rfl⟩) ?_
                  refine mm_getA X kF6_38 dX6_mend_119 hR 11 rfl ?_
                  refine hr_iconst (4) X dX6_mend_122 (by decide) ?_
                  refine hr_iload_n X dX6_mend_123 rfl ?_
                  refine hr_imul X dX6_mend_124 ?_
                  refine hr_iload X dX6_mend_125 rfl ?_
                  refine hr_bipush (12) X dX6_mend_127 (by decide) ?_
                  refine hr_irem X dX6_mend_129 (by decide) ?_
                  refine hr_iconst (3) X dX6_mend_130 (by decide) ?_
                  refine hr_idiv X dX6_mend_131 (by decide) ?_
                  refine hr_iadd X dX6_mend_132 ?_
                  refine mm_zald (4 * s + p / 3) X dX6_mend_133 hR rfl (by rw [mm_r12 (by omega), mm_d3 (by omega), mm_m4, nI_add]; congr 1; omega) (by simp only [mm_len, sp_e]; omega) ?_
                  rw [e11]
                  refine hr_istore X dX6_mend_134 (Nat.le_of_ble_eq_true rfl) ?_
                  refine hr_aload_n X dX6_mend_136 rfl (Or.inr ⟨_, rfl⟩) ?_
                  refine mm_getA X kF6_53 dX6_mend_137 hR 16 rfl ?_
                  refine hr_iload X dX6_mend_140 rfl ?_
                  refine hr_dup2 X dX6_mend_142 rfl rfl ?_
                  refine mm_iald (12 * s + p) X dX6_mend_143 hR rfl rfl (by simp only [mm_len, sp_e]; omega) ?_
                  have J154 : hm_W C 0 0 (hm_T C (fun r9 M' => ∃ ta' : mm_S, mm_R cA (sp_mend sg s e rule slack) ta' ad mo M0 M' ∧ r9 = some (.int (sp_mendN sg s e rule slack)) ∧ ta' 0 = ta0 0) r_X6_mend.cells r_X6_mend.slots) M102 154 [some (.ref mo), some (.int (nI s)), some (.int (nI e)), some (.int rule), some (.int slack), some (.int (sp_mdN sg (sp_rul sg e rule slack) s p + 1)), some (.int (nI (12 * s + p))), some (.int (sp_cls sg (12 * s + p)))] [.int (if sp_cls sg (12 * s + p) = 0 then 0 else 1), .int (sp_mdS sg (sp_rul sg e rule slack) s p 16 (12 * s + p)), .int (nI (12 * s + p)), .ref (ad 16)] := by
                    refine hr_iadd X dX6_mend_154 ?_
                    refine mm_iast (12 * s + p) X dX6_mend_155 hR rfl rfl (by simp only [mm_len, sp_e]; omega) (fun M155 hR => ?_)
                    refine hr_aload_n X dX6_mend_156 rfl (Or.inr ⟨_, rfl⟩) ?_
                    refine mm_getA X kF6_50 dX6_mend_157 hR 15 rfl ?_
                    refine hr_iload X dX6_mend_160 rfl ?_
                    have J183 : ∀ (M : hm_M) (ta : mm_S), mm_R cA (mm_up (sp_mdS sg (sp_rul sg e rule slack) s p) 16 (12 * s + p) (sp_mdS sg (sp_rul sg e rule slack) s p 16 (12 * s + p) + (if sp_cls sg (12 * s + p) = 0 then 0 else 1))) ta ad mo M0 M → ta 0 = ta0 0 → (∀ q, q < 12 → ta 23 (12 * s + q) = if sg 13 (12 * s + q) = 2 then sp_due sg (12 * s + q) else 0) → hm_W C 0 0 (hm_T C (fun r9 M' => ∃ ta' : mm_S, mm_R cA (sp_mend sg s e rule slack) ta' ad mo M0 M' ∧ r9 = some (.int (sp_mendN sg s e rule slack)) ∧ ta' 0 = ta0 0) r_X6_mend.cells r_X6_mend.slots) M 183 [some (.ref mo), some (.int (nI s)), some (.int (nI e)), some (.int rule), some (.int slack), some (.int (sp_mdN sg (sp_rul sg e rule slack) s p + 1)), some (.int (nI (12 * s + p))), some (.int (sp_cls sg (12 * s + p)))] [.int (if sp_cls sg (12 * s + p) = 0 then sp_due (sp_rul sg e rule slack) (12 * s + p) else sp_mdS sg (sp_rul sg e rule slack) s p 15 (12 * s + p)), .int (nI (12 * s + p)), .ref (ad 15)] := by
                      intro M ta hR hta h3
                      refine mm_iast (12 * s + p) X dX6_mend_183 hR rfl rfl (by simp only [mm_len, sp_e]; omega) (fun M183 hR => ?_)
                      rw [← k2]
                      exact K _ _ _ (by rw [k1]; exact hR) hta h3
                    refine hr_iload X dX6_mend_162 rfl ?_
                    refine hr_if_eq 177 X dX6_mend_164 (by decide) (fun c164 => ?_) (fun c164 => ?_)
                    · have hz9 : (if sp_cls sg (12 * s + p) = 0 then sp_due (sp_rul sg e rule slack) (12 * s + p) else sp_mdS sg (sp_rul sg e rule slack) s p 15 (12 * s + p)) = sp_due (sp_rul sg e rule slack) (12 * s + p) := if_pos c164
                      have hIq : sp_I (mm_up (sp_mdS sg (sp_rul sg e rule slack) s p) 16 (12 * s + p) (sp_mdS sg (sp_rul sg e rule slack) s p 16 (12 * s + p) + (if sp_cls sg (12 * s + p) = 0 then 0 else 1))) := hIp.congr (fun j _ b _ => mm_up_j b)
                      have hdq : sp_due (mm_up (sp_mdS sg (sp_rul sg e rule slack) s p) 16 (12 * s + p) (sp_mdS sg (sp_rul sg e rule slack) s p 16 (12 * s + p) + (if sp_cls sg (12 * s + p) = 0 then 0 else 1))) (12 * s + p) = sp_due (sp_rul sg e rule slack) (12 * s + p) := (sp_due_congr (fun j _ b _ => mm_up_j b) _).trans hdue
                      refine hr_aload_n X dX6_mend_177 rfl (Or.inr ⟨_, rfl⟩) ?_
                      refine hr_iload X dX6_mend_178 rfl ?_
                      refine hr_callV X kC6_180 dX6_mend_180 (c_X6_dueOf cA hR hIq (12 * s + p) v (by omega) hks hv hvt) hR.1 rfl rfl rfl rfl (Nat.le_of_ble_eq_true rfl) ⟨⟨(Nat.le_of_ble_eq_true rfl), (Nat.le_of_ble_eq_true rfl)⟩, (Nat.le_of_ble_eq_true rfl), (Nat.le_of_ble_eq_true rfl)⟩ (fun v M180 hp180 => ?_)
                      obtain ⟨ta2, hR, rfl, hta2⟩ := hp180
                      rw [hdq]
                      have hta : ta2 0 = ta0 0 := (hta2 0 (by decide)).trans hta
                      have h3 : (∀ q, q < 12 → ta2 23 (12 * s + q) = if sg 13 (12 * s + q) = 2 then sp_due sg (12 * s + q) else 0) := fun q hq => by rw [hta2 23 (by decide)]; exact h3 q hq
                      exact hr_eq (by rw [hz9] <;> rfl) (J183 _ _ hR hta h3)
                    · have hz9 : (if sp_cls sg (12 * s + p) = 0 then sp_due (sp_rul sg e rule slack) (12 * s + p) else sp_mdS sg (sp_rul sg e rule slack) s p 15 (12 * s + p)) = sp_mdS sg (sp_rul sg e rule slack) s p 15 (12 * s + p) := if_neg c164
                      refine hr_aload_n X dX6_mend_167 rfl (Or.inr ⟨_, rfl⟩) ?_
                      refine mm_getA X kF6_50 dX6_mend_168 hR 15 rfl ?_
                      refine hr_iload X dX6_mend_171 rfl ?_
                      refine mm_iald (12 * s + p) X dX6_mend_173 hR rfl rfl (by simp only [mm_len, sp_e]; omega) ?_
                      refine hr_goto 183 X dX6_mend_174 (by decide) ?_
                      exact hr_eq (by rw [hz9] <;> rfl) (J183 _ _ hR hta h3)
                  refine hr_iload X dX6_mend_144 rfl ?_
                  refine hr_if_eq 153 X dX6_mend_146 (by decide) (fun c146 => ?_) (fun c146 => ?_)
                  · refine hr_iconst (0) X dX6_mend_153 (by decide) ?_
                    exact hr_eq (by simp [c146]) J154
                  · refine hr_iconst (1) X dX6_mend_149 (by decide) ?_
                    refine hr_goto 154 X dX6_mend_150 (by decide) ?_
                    exact hr_eq (by simp [c146]) J154
        rw [mm_m12]
        exact lp76 13 0 none _ _ hR hta (by decide) (by decide) h3
      · simp only [mm_m12, mm_a12] at c15
        have hp : p < 12 := by
          rcases Nat.lt_or_ge p 12 with q | q
          · exact q
          · exact absurd (nI_le (by omega) (by omega)) c15
        refine hr_aload_n X dX6_mend_18 rfl (Or.inr ⟨_, rfl⟩) ?_
        refine mm_getA X kF6_74 dX6_mend_19 hR 23 rfl ?_
        refine hr_iload X dX6_mend_22 rfl ?_
        have J45 : ∀ (M : hm_M) (ta : mm_S), mm_R cA sg ta ad mo M0 M → ta 0 = ta0 0 → (∀ q, q < p → ta 23 (12 * s + q) = if sg 13 (12 * s + q) = 2 then sp_due sg (12 * s + q) else 0) → hm_W C 0 0 (hm_T C (fun r9 M' => ∃ ta' : mm_S, mm_R cA (sp_mend sg s e rule slack) ta' ad mo M0 M' ∧ r9 = some (.int (sp_mendN sg s e rule slack)) ∧ ta' 0 = ta0 0) r_X6_mend.cells r_X6_mend.slots) M 45 [some (.ref mo), some (.int (nI s)), some (.int (nI e)), some (.int rule), some (.int slack), some (.int (nI (12 * s + p))), none, none] [.int (if sg 13 (12 * s + p) = 2 then sp_due sg (12 * s + p) else 0), .int (nI (12 * s + p)), .ref (ad 23)] := by
          intro M ta hR hta h3
          refine mm_iastT (12 * s + p) X dX6_mend_45 hR rfl rfl (by simp only [mm_len, sp_e]; omega) (fun M45 hR => ?_)
          have hta := (mm_up_j (sg := ta) (j := 23) (x := 12 * s + p) (v := if sg 13 (12 * s + p) = 2 then sp_due sg (12 * s + p) else 0) (j' := 0) (by decide)).trans hta
          have h3 : ∀ q, q < p + 1 → mm_up ta 23 (12 * s + p) (if sg 13 (12 * s + p) = 2 then sp_due sg (12 * s + p) else 0) 23 (12 * s + q) = if sg 13 (12 * s + q) = 2 then sp_due sg (12 * s + q) else 0 := fun q hq => by
            by_cases e9 : q = p
            · subst e9
              exact mm_up_s
            · rw [mm_up_x (by omega)]
              exact h3 q (by omega)
          refine hr_iinc (1) X dX6_mend_46 rfl (by decide) ?_
          refine hr_goto 6 X dX6_mend_49 (by decide) ?_
          rw [mm_a1]
          exact ih (p + 1) _ _ hR hta (by omega) (by omega) h3
        refine hr_aload_n X dX6_mend_24 rfl (Or.inr ⟨_, rfl⟩) ?_
        refine mm_getA X kF6_44 dX6_mend_25 hR 13 rfl ?_
        refine hr_iload X dX6_mend_28 rfl ?_
        refine mm_iald (12 * s + p) X dX6_mend_30 hR rfl (by simp only [mm_m2, mm_m3, mm_m4, mm_m5, mm_m12, mm_m16, nI_add, mm_a1, mm_a2, mm_a3, mm_a5, mm_a12, sp_e]) (by simp only [mm_len, sp_e]; omega) ?_
        refine hr_iconst (2) X dX6_mend_31 (by decide) ?_
        refine hr_icmp_ne 44 X dX6_mend_32 (by decide) (fun c32 => ?_) (fun c32 => ?_)
        · have hz : (if sg 13 (12 * s + p) = 2 then sp_due sg (12 * s + p) else 0) = 0 := if_neg c32
          refine hr_iconst (0) X dX6_mend_44 (by decide) ?_
          exact hr_eq (by rw [hz] <;> rfl) (J45 _ _ hR hta h3)
        · have hz : (if sg 13 (12 * s + p) = 2 then sp_due sg (12 * s + p) else 0) = sp_due sg (12 * s + p) := if_pos c32
          obtain ⟨hks, v, hv, hvt⟩ := sp_handed hI (k := 12 * s + p) (by omega) (by rw [c32]; decide)
          refine hr_aload_n X dX6_mend_35 rfl (Or.inr ⟨_, rfl⟩) ?_
          refine hr_iload X dX6_mend_36 rfl ?_
          refine hr_callV X kC6_180 dX6_mend_38 (c_X6_dueOf cA hR hI (12 * s + p) v (by omega) hks hv hvt) hR.1 rfl rfl rfl rfl (Nat.le_of_ble_eq_true rfl) ⟨⟨(Nat.le_of_ble_eq_true rfl), (Nat.le_of_ble_eq_true rfl)⟩, (Nat.le_of_ble_eq_true rfl), (Nat.le_of_ble_eq_true rfl)⟩ (fun v M38 hp38 => ?_)
          obtain ⟨ta1, hR, rfl, hta1⟩ := hp38
          have hta : ta1 0 = ta0 0 := (hta1 0 (by decide)).trans hta
          have h3 : (∀ q, q < p → ta1 23 (12 * s + q) = if sg 13 (12 * s + q) = 2 then sp_due sg (12 * s + q) else 0) := fun q hq => by rw [hta1 23 (by decide)]; exact h3 q hq
          refine hr_goto 45 X dX6_mend_41 (by decide) ?_
          exact hr_eq (by rw [hz] <;> rfl) (J45 _ _ hR hta h3)
  rw [mm_m12]
  exact lp6 13 0 _ _ hR rfl (by decide) (by decide) (fun q hq => absurd hq (Nat.not_lt_zero q))
