theorem sp_o_none {o : Option Nat} (hb : ∀ u, o = some u → u < 2 ^ 31) (h : sp_o o = -1) : o = none := by
  cases o with
  | none => rfl
  | some u => exact absurd h (nI_m1 (hb u rfl))
theorem sp_o_some {o : Option Nat} (h : ¬ sp_o o = -1) : ∃ u, o = some u := by
  cases o with
  | none => exact absurd rfl h
  | some u => exact ⟨u, rfl⟩
set_option maxHeartbeats 4000000 in
set_option maxRecDepth 100000 in
theorem c_X6_thrown (cA : Nat → ClassId) {sg ta : mm_S} {ad : Nat → Nat} {mo : Nat} {M0 M : hm_M} (hR : mm_R cA sg ta ad mo M0 M)  : hm_Met cA yX6_thrown cX6_thrown 1 (some .int) r_X6_thrown [.ref mo] M (hm_pu (some (.int (ta 0 0))) M) := by
  refine hm_met 0 (by decide +kernel) (fun w h => by simp only [List.mem_cons, List.not_mem_nil, or_false] at h; rcases h with rfl <;> rfl) rfl (fun C X => ?_)
  show hm_W C 0 0 _ M 0 [some (.ref mo)] []
  refine hr_aload_n X dX6_thrown_0 rfl (Or.inr ⟨_, rfl⟩) ?_
  refine mm_getS X kF6_83 dX6_thrown_1 hR 0 rfl ?_
  exact hr_iret X dX6_thrown_4 (Nat.le_of_ble_eq_true rfl) (Nat.le_of_ble_eq_true rfl) ⟨rfl, rfl⟩
set_option maxHeartbeats 4000000 in
set_option maxRecDepth 100000 in
theorem c_X6_isSheet (cA : Nat → ClassId) {sg ta : mm_S} {ad : Nat → Nat} {mo : Nat} {M0 M : hm_M} (hR : mm_R cA sg ta ad mo M0 M) (s : Int32) : hm_Met cA yX6_isSheet cX6_isSheet 2 (some .boolean) r_X6_isSheet [.ref mo, .int s] M (hm_pu (some (.int (hm_bI (sp_isS sg s)))) M) := by
  refine hm_met 0 (by decide +kernel) (fun w h => by simp only [List.mem_cons, List.not_mem_nil, or_false] at h; rcases h with rfl | rfl <;> rfl) rfl (fun C X => ?_)
  show hm_W C 0 0 _ M 0 [some (.ref mo), some (.int s)] []
  refine hr_iload_n X dX6_isSheet_0 rfl ?_
  refine hr_iconst (0) X dX6_isSheet_1 (by decide) ?_
  refine hr_aload_n X dX6_isSheet_2 rfl (Or.inr ⟨_, rfl⟩) ?_
  refine mm_getS X kF6_91 dX6_isSheet_3 hR 1 rfl ?_
  refine hr_iconst (1) X dX6_isSheet_6 (by decide) ?_
  refine hr_isub X dX6_isSheet_7 ?_
  refine hr_callS X kC6_87 dX6_isSheet_8 (c_X6_in cA (M := M) s 0 (sg 1 0 - 1)) rfl rfl rfl (Nat.le_of_ble_eq_true rfl) ⟨⟨(Nat.le_of_ble_eq_true rfl), (Nat.le_of_ble_eq_true rfl)⟩, (Nat.le_of_ble_eq_true rfl), (Nat.le_of_ble_eq_true rfl)⟩ (fun v M8 hp => ?_)
  obtain ⟨rfl, rfl⟩ := hp
  exact hr_zret X dX6_isSheet_11 (hm_bIz _) (Nat.le_of_ble_eq_true rfl) (Nat.le_of_ble_eq_true rfl) ⟨rfl, rfl⟩
set_option maxHeartbeats 4000000 in
set_option maxRecDepth 100000 in
theorem c_X6_isVersion (cA : Nat → ClassId) {sg ta : mm_S} {ad : Nat → Nat} {mo : Nat} {M0 M : hm_M} (hR : mm_R cA sg ta ad mo M0 M) (hI : sp_I sg) (s v : Int32) : hm_Met cA yX6_isVersion cX6_isVersion 3 (some .boolean) r_X6_isVersion [.ref mo, .int s, .int v] M (hm_pu (some (.int (hm_bI (sp_isV sg s v)))) M) := by
  refine hm_met 0 (by decide +kernel) (fun w h => by simp only [List.mem_cons, List.not_mem_nil, or_false] at h; rcases h with rfl | rfl | rfl <;> rfl) rfl (fun C X => ?_)
  show hm_W C 0 0 _ M 0 [some (.ref mo), some (.int s), some (.int v)] []
  refine hr_aload_n X dX6_isVersion_0 rfl (Or.inr ⟨_, rfl⟩) ?_
  refine hr_iload_n X dX6_isVersion_1 rfl ?_
  refine hr_callV X kC6_94 dX6_isVersion_2 (c_X6_isSheet cA hR s) hR.1 rfl rfl rfl rfl (Nat.le_of_ble_eq_true rfl) ⟨⟨(Nat.le_of_ble_eq_true rfl), (Nat.le_of_ble_eq_true rfl)⟩, (Nat.le_of_ble_eq_true rfl), (Nat.le_of_ble_eq_true rfl)⟩ (fun v M2 hp => ?_)
  obtain ⟨rfl, rfl⟩ := hp
  refine hr_if_eq 36 X dX6_isVersion_5 (by decide) (fun c5 => ?_) (fun c5 => ?_)
  · rw [hm_bI_eq] at c5
    refine hr_iconst (0) X dX6_isVersion_36 (by decide) ?_
    exact hr_zret X dX6_isVersion_37 (by rfl) (Nat.le_of_ble_eq_true rfl) (Nat.le_of_ble_eq_true rfl) ⟨by simp [sp_isV, hm_bI, *], rfl⟩
  · rw [hm_bI_ne] at c5
    refine hr_iload_n X dX6_isVersion_8 rfl ?_
    refine hr_iconst (0) X dX6_isVersion_9 (by decide) ?_
    refine hr_bipush (15) X dX6_isVersion_10 (by decide) ?_
    refine hr_callS X kC6_87 dX6_isVersion_12 (c_X6_in cA (M := M) v 0 15) rfl rfl rfl (Nat.le_of_ble_eq_true rfl) ⟨⟨(Nat.le_of_ble_eq_true rfl), (Nat.le_of_ble_eq_true rfl)⟩, (Nat.le_of_ble_eq_true rfl), (Nat.le_of_ble_eq_true rfl)⟩ (fun v M12 hp => ?_)
    obtain ⟨rfl, rfl⟩ := hp
    refine hr_if_eq 36 X dX6_isVersion_15 (by decide) (fun c15 => ?_) (fun c15 => ?_)
    · rw [hm_bI_eq] at c15
      refine hr_iconst (0) X dX6_isVersion_36 (by decide) ?_
      exact hr_zret X dX6_isVersion_37 (by rfl) (Nat.le_of_ble_eq_true rfl) (Nat.le_of_ble_eq_true rfl) ⟨by simp [sp_isV, hm_bI, *], rfl⟩
    · rw [hm_bI_ne] at c15
      obtain ⟨a, ha, ha4, rfl⟩ := sp_isS_nat hI c5
      obtain ⟨b, hb, rfl⟩ := sp_in_nat (b := 15) (by decide) c15
      have e1 : (nI a).toNatClampNeg = a := nI_clamp (by omega)
      have e2 : (nI b).toNatClampNeg = b := nI_clamp (by omega)
      refine hr_aload_n X dX6_isVersion_18 rfl (Or.inr ⟨_, rfl⟩) ?_
      refine mm_getA X kF6_7 dX6_isVersion_19 hR 2 rfl ?_
      refine hr_bipush (16) X dX6_isVersion_22 (by decide) ?_
      refine hr_iload_n X dX6_isVersion_24 rfl ?_
      refine hr_imul X dX6_isVersion_25 ?_
      refine hr_iload_n X dX6_isVersion_26 rfl ?_
      refine hr_iadd X dX6_isVersion_27 ?_
      refine mm_zald (16 * a + b) X dX6_isVersion_28 hR rfl (by simp only [mm_m2, mm_m3, mm_m4, mm_m5, mm_m12, mm_m16, nI_add, mm_a1, mm_a2, mm_a3, mm_a5, mm_a12, sp_e]) (by simp only [mm_len, sp_e]; omega) ?_
      refine hr_if_eq 36 X dX6_isVersion_29 (by decide) (fun c29 => ?_) (fun c29 => ?_)
      · refine hr_iconst (0) X dX6_isVersion_36 (by decide) ?_
        exact hr_zret X dX6_isVersion_37 (by rfl) (Nat.le_of_ble_eq_true rfl) (Nat.le_of_ble_eq_true rfl) ⟨by simp [sp_isV, hm_bI, *], rfl⟩
      · refine hr_iconst (1) X dX6_isVersion_32 (by decide) ?_
        refine hr_goto 37 X dX6_isVersion_33 (by decide) ?_
        exact hr_zret X dX6_isVersion_37 (by rfl) (Nat.le_of_ble_eq_true rfl) (Nat.le_of_ble_eq_true rfl) ⟨by simp [sp_isV, hm_bI, *], rfl⟩
set_option maxHeartbeats 4000000 in
set_option maxRecDepth 100000 in
theorem c_X6_entryFor (cA : Nat → ClassId) {sg ta : mm_S} {ad : Nat → Nat} {mo : Nat} {M0 M : hm_M} (hR : mm_R cA sg ta ad mo M0 M) (hI : sp_I sg) (s v t : Nat) (hs : s < sp_n sg) (hv : sp_th sg s v) (ht : t < 5) : hm_Met cA yX6_entryFor cX6_entryFor 5 (some .int) r_X6_entryFor [.ref mo, .int (nI s), .int (nI v), .int (nI t)] M (hm_pu (some (.int (sp_o ((sp_tel sg s v t).map (fun u => sp_e s u t))))) M) := by
  refine hm_met 1 (by decide +kernel) (fun w h => by simp only [List.mem_cons, List.not_mem_nil, or_false] at h; rcases h with rfl | rfl | rfl | rfl <;> rfl) rfl (fun C X => ?_)
  show hm_W C 0 0 _ M 0 [some (.ref mo), some (.int (nI s)), some (.int (nI v)), some (.int (nI t)), none] []
  have hs4 : s < 4 := by have := hI.i1.2; omega
  refine hr_iload_n X dX6_entryFor_0 rfl ?_
  refine hr_istore X dX6_entryFor_1 (Nat.le_of_ble_eq_true rfl) ?_
  have lp3 : ∀ (f : Nat) (a : Int32), 0 < f → ((a = -1 ∧ sp_tel sg s v t = none) ∨ ∃ w, w + 1 < f ∧ a = nI w ∧ sp_th sg s w ∧ sp_tel sg s v t = sp_tel sg s w t) → hm_W C 0 0 (hm_T C (hm_pu (some (.int (sp_o ((sp_tel sg s v t).map (fun u => sp_e s u t))))) M) r_X6_entryFor.cells r_X6_entryFor.slots) M 3 [some (.ref mo), some (.int (nI s)), some (.int (nI v)), some (.int (nI t)), some (.int a)] [] := by
    intro f
    induction f with
    | zero => intro a h1 h2; exact absurd h1 (by omega)
    | succ f ih =>
      intro a h1 h2
      refine hr_iload X dX6_entryFor_3 rfl ?_
      refine hr_iconst (-1) X dX6_entryFor_5 (by decide) ?_
      refine hr_icmp_eq 46 X dX6_entryFor_6 (by decide) (fun c6 => ?_) (fun c6 => ?_)
      · refine hr_iload X dX6_entryFor_46 rfl ?_
        refine hr_iconst (-1) X dX6_entryFor_48 (by decide) ?_
        refine hr_icmp_ne 56 X dX6_entryFor_49 (by decide) (fun q => absurd c6 q) (fun _ => ?_)
        refine hr_iconst (-1) X dX6_entryFor_52 (by decide) ?_
        refine hr_goto 67 X dX6_entryFor_53 (by decide) ?_
        have hz : sp_tel sg s v t = none := by
          rcases h2 with ⟨-, q⟩ | ⟨w, -, q, hwt, -⟩
          · exact q
          · exact absurd (q.symm.trans c6) (nI_m1 (by have := hwt.1; omega))
        exact hr_iret X dX6_entryFor_67 (Nat.le_of_ble_eq_true rfl) (Nat.le_of_ble_eq_true rfl) ⟨by rw [hz]; rfl, rfl⟩
      · obtain ⟨w, hw, rfl, hwt, he⟩ := h2.resolve_left (fun q => c6 q.1)
        have hw16 := hwt.1
        refine hr_aload_n X dX6_entryFor_9 rfl (Or.inr ⟨_, rfl⟩) ?_
        refine mm_getA X kF6_23 dX6_entryFor_10 hR 6 rfl ?_
        refine hr_iconst (5) X dX6_entryFor_13 (by decide) ?_
        refine hr_bipush (16) X dX6_entryFor_14 (by decide) ?_
        refine hr_iload_n X dX6_entryFor_16 rfl ?_
        refine hr_imul X dX6_entryFor_17 ?_
        refine hr_iload X dX6_entryFor_18 rfl ?_
        refine hr_iadd X dX6_entryFor_20 ?_
        refine hr_imul X dX6_entryFor_21 ?_
        refine hr_iload_n X dX6_entryFor_22 rfl ?_
        refine hr_iadd X dX6_entryFor_23 ?_
        refine mm_iald (sp_e s w t) X dX6_entryFor_24 hR rfl (by simp only [mm_m2, mm_m3, mm_m4, mm_m5, mm_m12, mm_m16, nI_add, mm_a1, mm_a2, mm_a3, mm_a5, mm_a12, sp_e]) (by simp only [mm_len, sp_e]; omega) ?_
        refine hr_iconst (4) X dX6_entryFor_25 (by decide) ?_
        refine hr_icmp_ne 46 X dX6_entryFor_26 (by decide) (fun c26 => ?_) (fun c26 => ?_)
        · refine hr_iload X dX6_entryFor_46 rfl ?_
          refine hr_iconst (-1) X dX6_entryFor_48 (by decide) ?_
          refine hr_icmp_ne 56 X dX6_entryFor_49 (by decide) (fun c49 => ?_) (fun c49 => ?_)
          · refine hr_iconst (5) X dX6_entryFor_56 (by decide) ?_
            refine hr_bipush (16) X dX6_entryFor_57 (by decide) ?_
            refine hr_iload_n X dX6_entryFor_59 rfl ?_
            refine hr_imul X dX6_entryFor_60 ?_
            refine hr_iload X dX6_entryFor_61 rfl ?_
            refine hr_iadd X dX6_entryFor_63 ?_
            refine hr_imul X dX6_entryFor_64 ?_
            refine hr_iload_n X dX6_entryFor_65 rfl ?_
            refine hr_iadd X dX6_entryFor_66 ?_
            exact hr_iret X dX6_entryFor_67 (Nat.le_of_ble_eq_true rfl) (Nat.le_of_ble_eq_true rfl) ⟨by rw [he, sp_tel_here c26]; simp only [Option.map, sp_o, mm_m5, mm_m16, nI_add, sp_e], rfl⟩
          · exact absurd c49 (nI_m1 (by omega))
        · refine hr_aload_n X dX6_entryFor_29 rfl (Or.inr ⟨_, rfl⟩) ?_
          refine mm_getA X kF6_13 dX6_entryFor_30 hR 3 rfl ?_
          refine hr_bipush (16) X dX6_entryFor_33 (by decide) ?_
          refine hr_iload_n X dX6_entryFor_35 rfl ?_
          refine hr_imul X dX6_entryFor_36 ?_
          refine hr_iload X dX6_entryFor_37 rfl ?_
          refine hr_iadd X dX6_entryFor_39 ?_
          refine mm_iald (16 * s + w) X dX6_entryFor_40 hR rfl (by simp only [mm_m2, mm_m3, mm_m4, mm_m5, mm_m12, mm_m16, nI_add, mm_a1, mm_a2, mm_a3, mm_a5, mm_a12, sp_e]) (by simp only [mm_len, sp_e]; omega) ?_
          refine hr_istore X dX6_entryFor_41 (Nat.le_of_ble_eq_true rfl) ?_
          refine hr_goto 3 X dX6_entryFor_43 (by decide) ?_
          rcases (hI.i3 s hs).2 w hwt with ⟨hw0, h6, -⟩ | ⟨u, g, h5, h6, h7, -⟩
          · exact ih _ (by omega) (Or.inl ⟨h6, he.trans (sp_tel_root c26 h6)⟩)
          · exact ih _ (by omega) (Or.inr ⟨u, by omega, h6, h7, he.trans (sp_tel_step hI hs hwt c26 h6 h7 h5)⟩)
  exact lp3 18 (nI v) (by decide) (Or.inr ⟨v, by have := hv.1; omega, rfl, hv, rfl⟩)
set_option maxHeartbeats 4000000 in
set_option maxRecDepth 100000 in
theorem c_X6_has (cA : Nat → ClassId) {sg ta : mm_S} {ad : Nat → Nat} {mo : Nat} {M0 M : hm_M} (hR : mm_R cA sg ta ad mo M0 M) (hI : sp_I sg) (s v t : Nat) (hs : s < sp_n sg) (hv : sp_th sg s v) (ht : t < 5) : hm_Met cA yX6_has cX6_has 5 (some .int) r_X6_has [.ref mo, .int (nI s), .int (nI v), .int (nI t)] M (hm_pu (some (.int (sp_o ((sp_has sg s v t).map (fun u => sp_e s u t))))) M) := by
  refine hm_met 1 (by decide +kernel) (fun w h => by simp only [List.mem_cons, List.not_mem_nil, or_false] at h; rcases h with rfl | rfl | rfl | rfl <;> rfl) rfl (fun C X => ?_)
  show hm_W C 0 0 _ M 0 [some (.ref mo), some (.int (nI s)), some (.int (nI v)), some (.int (nI t)), none] []
  have hs4 : s < 4 := by have := hI.i1.2; omega
  refine hr_aload_n X dX6_has_0 rfl (Or.inr ⟨_, rfl⟩) ?_
  refine hr_iload_n X dX6_has_1 rfl ?_
  refine hr_iload_n X dX6_has_2 rfl ?_
  refine hr_iload_n X dX6_has_3 rfl ?_
  refine hr_callV X kC6_107 dX6_has_4 (c_X6_entryFor cA hR hI s v t hs hv ht) hR.1 rfl rfl rfl rfl (Nat.le_of_ble_eq_true rfl) ⟨⟨(Nat.le_of_ble_eq_true rfl), (Nat.le_of_ble_eq_true rfl)⟩, (Nat.le_of_ble_eq_true rfl), (Nat.le_of_ble_eq_true rfl)⟩ (fun v M4 hp => ?_)
  obtain ⟨rfl, rfl⟩ := hp
  refine hr_istore X dX6_has_7 (Nat.le_of_ble_eq_true rfl) ?_
  refine hr_iload X dX6_has_9 rfl ?_
  refine hr_iconst (-1) X dX6_has_11 (by decide) ?_
  refine hr_icmp_eq 26 X dX6_has_12 (by decide) (fun c12 => ?_) (fun c12 => ?_)
  · have hq : sp_tel sg s v t = none := Option.map_eq_none_iff.mp (sp_o_none (fun u h => by
      obtain ⟨w, h1, rfl⟩ := Option.map_eq_some_iff.mp h
      have := (sp_tel_some hI hs hv h1).1.1
      simp only [sp_e]
      omega) c12)
    have hz : sp_has sg s v t = none := by simp [sp_has, hq]
    refine hr_iconst (-1) X dX6_has_26 (by decide) ?_
    refine hr_goto 32 X dX6_has_27 (by decide) ?_
    exact hr_iret X dX6_has_32 (Nat.le_of_ble_eq_true rfl) (Nat.le_of_ble_eq_true rfl) ⟨by simp [hz, hq, sp_o], rfl⟩
  · obtain ⟨w, hw⟩ := sp_o_some c12
    obtain ⟨u, hq, -⟩ := Option.map_eq_some_iff.mp hw
    have hu16 := (sp_tel_some hI hs hv hq).1.1
    refine hr_aload_n X dX6_has_15 rfl (Or.inr ⟨_, rfl⟩) ?_
    refine mm_getA X kF6_23 dX6_has_16 hR 6 rfl ?_
    refine hr_iload X dX6_has_19 rfl ?_
    refine mm_iald (sp_e s u t) X dX6_has_21 hR rfl (by rw [hq]; rfl) (by simp only [mm_len, sp_e]; omega) ?_
    refine hr_iconst (3) X dX6_has_22 (by decide) ?_
    refine hr_icmp_ne 30 X dX6_has_23 (by decide) (fun c23 => ?_) (fun c23 => ?_)
    · have hz : sp_has sg s v t = some u := by simp [sp_has, hq, c23]
      refine hr_iload X dX6_has_30 rfl ?_
      exact hr_iret X dX6_has_32 (Nat.le_of_ble_eq_true rfl) (Nat.le_of_ble_eq_true rfl) ⟨by simp [hz, hq, sp_o], rfl⟩
    · have hz : sp_has sg s v t = none := by simp [sp_has, hq, c23]
      refine hr_iconst (-1) X dX6_has_26 (by decide) ?_
      refine hr_goto 32 X dX6_has_27 (by decide) ?_
      exact hr_iret X dX6_has_32 (Nat.le_of_ble_eq_true rfl) (Nat.le_of_ble_eq_true rfl) ⟨by simp [hz, hq, sp_o], rfl⟩
set_option maxHeartbeats 4000000 in
set_option maxRecDepth 100000 in
theorem c_X6_costOf (cA : Nat → ClassId) {sg ta : mm_S} {ad : Nat → Nat} {mo : Nat} {M0 M : hm_M} (hR : mm_R cA sg ta ad mo M0 M) (e : Nat) (he : e < 320) : hm_Met cA yX6_costOf cX6_costOf 3 (some .int) r_X6_costOf [.ref mo, .int (nI e)] M (hm_pu (some (.int (sp_cost sg e))) M) := by
  refine hm_met 1 (by decide +kernel) (fun w h => by simp only [List.mem_cons, List.not_mem_nil, or_false] at h; rcases h with rfl | rfl <;> rfl) rfl (fun C X => ?_)
  show hm_W C 0 0 _ M 0 [some (.ref mo), some (.int (nI e)), none] []
  refine hr_aload_n X dX6_costOf_0 rfl (Or.inr ⟨_, rfl⟩) ?_
  refine mm_getA X kF6_23 dX6_costOf_1 hR 6 rfl ?_
  refine hr_iload_n X dX6_costOf_4 rfl ?_
  refine mm_iald (e) X dX6_costOf_5 hR rfl (by simp only [mm_m2, mm_m3, mm_m4, mm_m5, mm_m12, mm_m16, nI_add, mm_a1, mm_a2, mm_a3, mm_a5, mm_a12, sp_e]) (by simp only [mm_len, sp_e]; omega) ?_
  refine hr_istore_n X dX6_costOf_6 (Nat.le_of_ble_eq_true rfl) ?_
  refine hr_iload_n X dX6_costOf_7 rfl ?_
  refine hr_iconst (4) X dX6_costOf_8 (by decide) ?_
  refine hr_icmp_ne 16 X dX6_costOf_9 (by decide) (fun c9 => ?_) (fun c9 => ?_)
  · refine hr_iload_n X dX6_costOf_16 rfl ?_
    refine hr_if_ne 24 X dX6_costOf_17 (by decide) (fun c17 => ?_) (fun c17 => ?_)
    · refine hr_iload_n X dX6_costOf_24 rfl ?_
      refine hr_iconst (2) X dX6_costOf_25 (by decide) ?_
      refine hr_icmp_ne 41 X dX6_costOf_26 (by decide) (fun c26 => ?_) (fun c26 => ?_)
      · refine hr_iconst (1) X dX6_costOf_41 (by decide) ?_
        exact hr_iret X dX6_costOf_42 (Nat.le_of_ble_eq_true rfl) (Nat.le_of_ble_eq_true rfl) ⟨by simp [sp_cost, *], rfl⟩
      · refine hr_aload_n X dX6_costOf_29 rfl (Or.inr ⟨_, rfl⟩) ?_
        refine mm_getA X kF6_29 dX6_costOf_30 hR 8 rfl ?_
        refine hr_iload_n X dX6_costOf_33 rfl ?_
        refine mm_iald (e) X dX6_costOf_34 hR rfl (by simp only [mm_m2, mm_m3, mm_m4, mm_m5, mm_m12, mm_m16, nI_add, mm_a1, mm_a2, mm_a3, mm_a5, mm_a12, sp_e]) (by simp only [mm_len, sp_e]; omega) ?_
        refine hr_callS X kC6_103 dX6_costOf_35 (c_X6_lengthOf cA (M := M) (sg 8 e)) rfl rfl rfl (Nat.le_of_ble_eq_true rfl) ⟨⟨(Nat.le_of_ble_eq_true rfl), (Nat.le_of_ble_eq_true rfl)⟩, (Nat.le_of_ble_eq_true rfl), (Nat.le_of_ble_eq_true rfl)⟩ (fun v M35 hp => ?_)
        obtain ⟨rfl, rfl⟩ := hp
        refine hr_goto 42 X dX6_costOf_38 (by decide) ?_
        exact hr_iret X dX6_costOf_42 (Nat.le_of_ble_eq_true rfl) (Nat.le_of_ble_eq_true rfl) ⟨by simp [sp_cost, *], rfl⟩
    · refine hr_iconst (2) X dX6_costOf_20 (by decide) ?_
      refine hr_goto 42 X dX6_costOf_21 (by decide) ?_
      exact hr_iret X dX6_costOf_42 (Nat.le_of_ble_eq_true rfl) (Nat.le_of_ble_eq_true rfl) ⟨by simp [sp_cost, *], rfl⟩
  · refine hr_iconst (0) X dX6_costOf_12 (by decide) ?_
    refine hr_goto 42 X dX6_costOf_13 (by decide) ?_
    exact hr_iret X dX6_costOf_42 (Nat.le_of_ble_eq_true rfl) (Nat.le_of_ble_eq_true rfl) ⟨by simp [sp_cost, *], rfl⟩
set_option maxHeartbeats 4000000 in
set_option maxRecDepth 100000 in
theorem c_X6_taken (cA : Nat → ClassId) {sg ta : mm_S} {ad : Nat → Nat} {mo : Nat} {M0 M : hm_M} (hR : mm_R cA sg ta ad mo M0 M) (a : Nat) (ha : a < 48) : hm_Met cA yX6_taken cX6_taken 4 (some .int) r_X6_taken [.ref mo, .int (nI a)] M (hm_pu (some (.int (sp_taken sg a))) M) := by
  refine hm_met 2 (by decide +kernel) (fun w h => by simp only [List.mem_cons, List.not_mem_nil, or_false] at h; rcases h with rfl | rfl <;> rfl) rfl (fun C X => ?_)
  show hm_W C 0 0 _ M 0 [some (.ref mo), some (.int (nI a)), none, none] []
  refine hr_iconst (0) X dX6_taken_0 (by decide) ?_
  refine hr_istore_n X dX6_taken_1 (Nat.le_of_ble_eq_true rfl) ?_
  refine hr_iconst (5) X dX6_taken_2 (by decide) ?_
  refine hr_iload_n X dX6_taken_3 rfl ?_
  refine hr_imul X dX6_taken_4 ?_
  refine hr_istore_n X dX6_taken_5 (Nat.le_of_ble_eq_true rfl) ?_
  have lp6 : ∀ (f : Nat) (t : Nat), 5 < t + f → t ≤ 5 → hm_W C 0 0 (hm_T C (hm_pu (some (.int (sp_taken sg a))) M) r_X6_taken.cells r_X6_taken.slots) M 6 [some (.ref mo), some (.int (nI a)), some (.int (sp_is (fun t => sp_tk sg (5 * a + t)) t)), some (.int (nI (5 * a + t)))] [] := by
    intro f
    induction f with
    | zero => intro t h1 h2; exact absurd h1 (by omega)
    | succ f ih =>
      intro t h1 h2
      refine hr_iload_n X dX6_taken_6 rfl ?_
      refine hr_iconst (5) X dX6_taken_7 (by decide) ?_
      refine hr_iload_n X dX6_taken_8 rfl ?_
      refine hr_imul X dX6_taken_9 ?_
      refine hr_iconst (5) X dX6_taken_10 (by decide) ?_
      refine hr_iadd X dX6_taken_11 ?_
      refine hr_icmp_ge 60 X dX6_taken_12 (by decide) (fun c12 => ?_) (fun c12 => ?_)
      · simp only [mm_m5, mm_a5] at c12
        have hz : t = 5 := by have := (nI_leI (by omega) (by omega)).mp c12; omega
        subst hz
        refine hr_iload_n X dX6_taken_60 rfl ?_
        exact hr_iret X dX6_taken_61 (Nat.le_of_ble_eq_true rfl) (Nat.le_of_ble_eq_true rfl) ⟨rfl, rfl⟩
      · simp only [mm_m5, mm_a5] at c12
        have ht : t < 5 := by
          rcases Nat.lt_or_ge t 5 with q | q
          · exact q
          · exact absurd (nI_le (by omega) (by omega)) c12
        refine hr_iload_n X dX6_taken_15 rfl ?_
        refine hr_aload_n X dX6_taken_16 rfl (Or.inr ⟨_, rfl⟩) ?_
        refine mm_getA X kF6_56 dX6_taken_17 hR 17 rfl ?_
        refine hr_iload_n X dX6_taken_20 rfl ?_
        refine mm_zald (5 * a + t) X dX6_taken_21 hR rfl (by simp only [mm_m2, mm_m3, mm_m4, mm_m5, mm_m12, mm_m16, nI_add, mm_a1, mm_a2, mm_a3, mm_a5, mm_a12, sp_e]) (by simp only [mm_len, sp_e]; omega) ?_
        have J30 : hm_W C 0 0 (hm_T C (hm_pu (some (.int (sp_taken sg a))) M) r_X6_taken.cells r_X6_taken.slots) M 30 [some (.ref mo), some (.int (nI a)), some (.int (sp_is (fun t => sp_tk sg (5 * a + t)) t)), some (.int (nI (5 * a + t)))] [.int (if sg 17 (5 * a + t) = 0 then 0 else 1), .int (sp_is (fun t => sp_tk sg (5 * a + t)) t)] := by
          refine hr_aload_n X dX6_taken_30 rfl (Or.inr ⟨_, rfl⟩) ?_
          refine mm_getA X kF6_62 dX6_taken_31 hR 19 rfl ?_
          refine hr_iload_n X dX6_taken_34 rfl ?_
          refine mm_iald (5 * a + t) X dX6_taken_35 hR rfl (by simp only [mm_m2, mm_m3, mm_m4, mm_m5, mm_m12, mm_m16, nI_add, mm_a1, mm_a2, mm_a3, mm_a5, mm_a12, sp_e]) (by simp only [mm_len, sp_e]; omega) ?_
          have J44 : hm_W C 0 0 (hm_T C (hm_pu (some (.int (sp_taken sg a))) M) r_X6_taken.cells r_X6_taken.slots) M 44 [some (.ref mo), some (.int (nI a)), some (.int (sp_is (fun t => sp_tk sg (5 * a + t)) t)), some (.int (nI (5 * a + t)))] [.int (if sg 19 (5 * a + t) = 0 then 0 else 1), .int (if sg 17 (5 * a + t) = 0 then 0 else 1), .int (sp_is (fun t => sp_tk sg (5 * a + t)) t)] := by
            
            refine hr_iadd X dX6_taken_44 ?_
            refine hr_aload_n X dX6_taken_45 rfl (Or.inr ⟨_, rfl⟩) ?_
            refine mm_getA X kF6_65 dX6_taken_46 hR 20 rfl ?_
            refine hr_iload_n X dX6_taken_49 rfl ?_
            refine mm_iald (5 * a + t) X dX6_taken_50 hR rfl (by simp only [mm_m2, mm_m3, mm_m4, mm_m5, mm_m12, mm_m16, nI_add, mm_a1, mm_a2, mm_a3, mm_a5, mm_a12, sp_e]) (by simp only [mm_len, sp_e]; omega) ?_
            refine hr_iadd X dX6_taken_51 ?_
            refine hr_iadd X dX6_taken_52 ?_
            
            refine hr_istore_n X dX6_taken_53 (Nat.le_of_ble_eq_true rfl) ?_
            refine hr_iinc (1) X dX6_taken_54 rfl (by decide) ?_
            refine hr_goto 6 X dX6_taken_57 (by decide) ?_
            rw [mm_a1]
            exact ih (t + 1) (by omega) (by omega)
          refine hr_if_ne 43 X dX6_taken_36 (by decide) (fun c36 => ?_) (fun c36 => ?_)
          · refine hr_iconst (1) X dX6_taken_43 (by decide) ?_
            first
              | (rw [if_neg c36] at J44; exact J44)
              | (rw [if_pos c36] at J44; exact J44)
          · refine hr_iconst (0) X dX6_taken_39 (by decide) ?_
            refine hr_goto 44 X dX6_taken_40 (by decide) ?_
            first
              | (rw [if_neg c36] at J44; exact J44)
              | (rw [if_pos c36] at J44; exact J44)
        refine hr_if_eq 29 X dX6_taken_22 (by decide) (fun c22 => ?_) (fun c22 => ?_)
        · refine hr_iconst (0) X dX6_taken_29 (by decide) ?_
          first
            | (rw [if_neg c22] at J30; exact J30)
            | (rw [if_pos c22] at J30; exact J30)
        · refine hr_iconst (1) X dX6_taken_25 (by decide) ?_
          refine hr_goto 30 X dX6_taken_26 (by decide) ?_
          first
            | (rw [if_neg c22] at J30; exact J30)
            | (rw [if_pos c22] at J30; exact J30)
  simp only [mm_m5]
  exact lp6 6 0 (by decide) (by decide)
set_option maxHeartbeats 4000000 in
set_option maxRecDepth 100000 in
theorem c_X6_usedBy (cA : Nat → ClassId) {sg ta : mm_S} {ad : Nat → Nat} {mo : Nat} {M0 M : hm_M} (hR : mm_R cA sg ta ad mo M0 M) (g : Int32) : hm_Met cA yX6_usedBy cX6_usedBy 4 (some .int) r_X6_usedBy [.ref mo, .int g] M (hm_pu (some (.int (sp_used sg g))) M) := by
  refine hm_met 2 (by decide +kernel) (fun w h => by simp only [List.mem_cons, List.not_mem_nil, or_false] at h; rcases h with rfl | rfl <;> rfl) rfl (fun C X => ?_)
  show hm_W C 0 0 _ M 0 [some (.ref mo), some (.int g), none, none] []
  refine hr_iconst (0) X dX6_usedBy_0 (by decide) ?_
  refine hr_istore_n X dX6_usedBy_1 (Nat.le_of_ble_eq_true rfl) ?_
  refine hr_iconst (0) X dX6_usedBy_2 (by decide) ?_
  refine hr_istore_n X dX6_usedBy_3 (Nat.le_of_ble_eq_true rfl) ?_
  have lp4 : ∀ (f : Nat) (n : Nat), 320 < n + f → n ≤ 320 → hm_W C 0 0 (hm_T C (hm_pu (some (.int (sp_used sg g))) M) r_X6_usedBy.cells r_X6_usedBy.slots) M 4 [some (.ref mo), some (.int g), some (.int (sp_is (sp_usE sg g) n)), some (.int (nI n))] [] := by
    intro f
    induction f with
    | zero => intro n h1 h2; exact absurd h1 (by omega)
    | succ f ih =>
      intro n h1 h2
      refine hr_iload_n X dX6_usedBy_4 rfl ?_
      refine hr_sipush (320) X dX6_usedBy_5 (by decide) ?_
      refine hr_icmp_ge 52 X dX6_usedBy_8 (by decide) (fun c8 => ?_) (fun c8 => ?_)
      · have hz : n = 320 := by have := (nI_leI (a := 320) (by decide) (by omega)).mp c8; omega
        subst hz
        refine hr_iconst (0) X dX6_usedBy_52 (by decide) ?_
        refine hr_istore_n X dX6_usedBy_53 (Nat.le_of_ble_eq_true rfl) ?_
        have lp54 : ∀ (f : Nat) (n : Nat), 48 < n + f → n ≤ 48 → hm_W C 0 0 (hm_T C (hm_pu (some (.int (sp_used sg g))) M) r_X6_usedBy.cells r_X6_usedBy.slots) M 54 [some (.ref mo), some (.int g), some (.int (sp_is (sp_usE sg g) 320 + sp_is (sp_usA sg g) n)), some (.int (nI n))] [] := by
          intro f
          induction f with
          | zero => intro n h3 h4; exact absurd h3 (by omega)
          | succ f ih =>
            intro n h3 h4
            refine hr_iload_n X dX6_usedBy_54 rfl ?_
            refine hr_bipush (48) X dX6_usedBy_55 (by decide) ?_
            refine hr_icmp_ge 88 X dX6_usedBy_57 (by decide) (fun c57 => ?_) (fun c57 => ?_)
            · have hz : n = 48 := by have := (nI_leI (a := 48) (by decide) (by omega)).mp c57; omega
              subst hz
              refine hr_iload_n X dX6_usedBy_88 rfl ?_
              exact hr_iret X dX6_usedBy_89 (Nat.le_of_ble_eq_true rfl) (Nat.le_of_ble_eq_true rfl) ⟨rfl, rfl⟩
            · have hn : n < 48 := by
                rcases Nat.lt_or_ge n 48 with q | q
                · exact q
                · exact absurd (nI_le q (by omega)) c57
              have J80 : hm_W C 0 0 (hm_T C (hm_pu (some (.int (sp_used sg g))) M) r_X6_usedBy.cells r_X6_usedBy.slots) M 80 [some (.ref mo), some (.int g), some (.int (sp_is (sp_usE sg g) 320 + sp_is (sp_usA sg g) n)), some (.int (nI n))] [.int (sp_usA sg g n), .int (sp_is (sp_usE sg g) 320 + sp_is (sp_usA sg g) n)] := by
                refine hr_iadd X dX6_usedBy_80 ?_
                refine hr_istore_n X dX6_usedBy_81 (Nat.le_of_ble_eq_true rfl) ?_
                refine hr_iinc (1) X dX6_usedBy_82 rfl (by decide) ?_
                refine hr_goto 54 X dX6_usedBy_85 (by decide) ?_
                rw [mm_a1, Int32.add_assoc]
                exact ih (n + 1) (by omega) (by omega)
              refine hr_iload_n X dX6_usedBy_60 rfl ?_
              refine hr_iload_n X dX6_usedBy_61 rfl ?_
              refine hr_bipush (12) X dX6_usedBy_62 (by decide) ?_
              refine hr_irem X dX6_usedBy_64 (by decide) ?_
              refine hr_iconst (3) X dX6_usedBy_65 (by decide) ?_
              refine hr_idiv X dX6_usedBy_66 (by decide) ?_
              refine hr_iload_n X dX6_usedBy_67 rfl ?_
              refine hr_icmp_ne 79 X dX6_usedBy_68 (by decide) (fun c68 => ?_) (fun c68 => ?_)
              · rw [mm_r12 (by omega), mm_d3 (by omega)] at c68
                have hz : sp_usA sg g n = 0 := by simp [sp_usA, c68]
                refine hr_iconst (0) X dX6_usedBy_79 (by decide) ?_
                rw [hz] at J80; exact J80
              · rw [mm_r12 (by omega), mm_d3 (by omega)] at c68
                have hz : sp_usA sg g n = sp_taken sg n := by simp [sp_usA, c68]
                refine hr_aload_n X dX6_usedBy_71 rfl (Or.inr ⟨_, rfl⟩) ?_
                refine hr_iload_n X dX6_usedBy_72 rfl ?_
                refine hr_callV X kC6_114 dX6_usedBy_73 (c_X6_taken cA hR n hn) hR.1 rfl rfl rfl rfl (Nat.le_of_ble_eq_true rfl) ⟨⟨(Nat.le_of_ble_eq_true rfl), (Nat.le_of_ble_eq_true rfl)⟩, (Nat.le_of_ble_eq_true rfl), (Nat.le_of_ble_eq_true rfl)⟩ (fun v M73 hp => ?_)
                obtain ⟨rfl, rfl⟩ := hp
                refine hr_goto 80 X dX6_usedBy_76 (by decide) ?_
                rw [hz] at J80; exact J80
        have h0 := lp54 49 0 (by decide) (by decide)
        rw [show sp_is (sp_usA sg g) 0 = 0 from rfl, Int32.add_zero] at h0
        exact h0
      · have hn : n < 320 := by
          rcases Nat.lt_or_ge n 320 with q | q
          · exact q
          · exact absurd (nI_le q (by omega)) c8
        refine hr_iload_n X dX6_usedBy_11 rfl ?_
        refine hr_aload_n X dX6_usedBy_12 rfl (Or.inr ⟨_, rfl⟩) ?_
        refine mm_getA X kF6_7 dX6_usedBy_13 hR 2 rfl ?_
        refine hr_iload_n X dX6_usedBy_16 rfl ?_
        refine hr_iconst (5) X dX6_usedBy_17 (by decide) ?_
        refine hr_idiv X dX6_usedBy_18 (by decide) ?_
        refine mm_zald (n / 5) X dX6_usedBy_19 hR rfl (mm_d5 (by omega)) (by simp only [mm_len, sp_e]; omega) ?_
        have J44 : hm_W C 0 0 (hm_T C (hm_pu (some (.int (sp_used sg g))) M) r_X6_usedBy.cells r_X6_usedBy.slots) M 44 [some (.ref mo), some (.int g), some (.int (sp_is (sp_usE sg g) n)), some (.int (nI n))] [.int (sp_usE sg g n), .int (sp_is (sp_usE sg g) n)] := by
          refine hr_iadd X dX6_usedBy_44 ?_
          refine hr_istore_n X dX6_usedBy_45 (Nat.le_of_ble_eq_true rfl) ?_
          refine hr_iinc (1) X dX6_usedBy_46 rfl (by decide) ?_
          refine hr_goto 4 X dX6_usedBy_49 (by decide) ?_
          rw [mm_a1]
          exact ih (n + 1) (by omega) (by omega)
        refine hr_if_eq 43 X dX6_usedBy_20 (by decide) (fun c20 => ?_) (fun c20 => ?_)
        · have hz : sp_usE sg g n = 0 := by simp [sp_usE, c20]
          refine hr_iconst (0) X dX6_usedBy_43 (by decide) ?_
          rw [hz] at J44; exact J44
        · refine hr_aload_n X dX6_usedBy_23 rfl (Or.inr ⟨_, rfl⟩) ?_
          refine mm_getA X kF6_17 dX6_usedBy_24 hR 4 rfl ?_
          refine hr_iload_n X dX6_usedBy_27 rfl ?_
          refine hr_iconst (5) X dX6_usedBy_28 (by decide) ?_
          refine hr_idiv X dX6_usedBy_29 (by decide) ?_
          refine mm_iald (n / 5) X dX6_usedBy_30 hR rfl (mm_d5 (by omega)) (by simp only [mm_len, sp_e]; omega) ?_
          refine hr_iload_n X dX6_usedBy_31 rfl ?_
          refine hr_icmp_ne 43 X dX6_usedBy_32 (by decide) (fun c32 => ?_) (fun c32 => ?_)
          · have hz : sp_usE sg g n = 0 := by simp [sp_usE, c20, c32]
            refine hr_iconst (0) X dX6_usedBy_43 (by decide) ?_
            rw [hz] at J44; exact J44
          · have hz : sp_usE sg g n = sp_cost sg n := by simp [sp_usE, c20, c32]
            refine hr_aload_n X dX6_usedBy_35 rfl (Or.inr ⟨_, rfl⟩) ?_
            refine hr_iload_n X dX6_usedBy_36 rfl ?_
            refine hr_callV X kC6_111 dX6_usedBy_37 (c_X6_costOf cA hR n hn) hR.1 rfl rfl rfl rfl (Nat.le_of_ble_eq_true rfl) ⟨⟨(Nat.le_of_ble_eq_true rfl), (Nat.le_of_ble_eq_true rfl)⟩, (Nat.le_of_ble_eq_true rfl), (Nat.le_of_ble_eq_true rfl)⟩ (fun v M37 hp => ?_)
            obtain ⟨rfl, rfl⟩ := hp
            refine hr_goto 44 X dX6_usedBy_40 (by decide) ?_
            rw [hz] at J44; exact J44
  exact lp4 321 0 (by decide) (by decide)
set_option maxHeartbeats 4000000 in
set_option maxRecDepth 100000 in
theorem c_X6_fits (cA : Nat → ClassId) {sg ta : mm_S} {ad : Nat → Nat} {mo : Nat} {M0 M : hm_M} (hR : mm_R cA sg ta ad mo M0 M) (g : Nat) (hg : g < 4) (more : Int32) : hm_Met cA yX6_fits cX6_fits 3 (some .boolean) r_X6_fits [.ref mo, .int (nI g), .int more] M (hm_pu (some (.int (hm_bI (sp_fits sg g more)))) M) := by
  refine hm_met 0 (by decide +kernel) (fun w h => by simp only [List.mem_cons, List.not_mem_nil, or_false] at h; rcases h with rfl | rfl | rfl <;> rfl) rfl (fun C X => ?_)
  show hm_W C 0 0 _ M 0 [some (.ref mo), some (.int (nI g)), some (.int more)] []
  refine hr_iload_n X dX6_fits_0 rfl ?_
  refine hr_if_le 20 X dX6_fits_1 (by decide) (fun c1 => ?_) (fun c1 => ?_)
  · refine hr_iconst (1) X dX6_fits_20 (by decide) ?_
    refine hr_goto 25 X dX6_fits_21 (by decide) ?_
    exact hr_zret X dX6_fits_25 (by rfl) (Nat.le_of_ble_eq_true rfl) (Nat.le_of_ble_eq_true rfl) ⟨by simp [sp_fits, hm_bI, *], rfl⟩
  · refine hr_aload_n X dX6_fits_4 rfl (Or.inr ⟨_, rfl⟩) ?_
    refine hr_iload_n X dX6_fits_5 rfl ?_
    refine hr_callV X kC6_117 dX6_fits_6 (c_X6_usedBy cA hR (nI g)) hR.1 rfl rfl rfl rfl (Nat.le_of_ble_eq_true rfl) ⟨⟨(Nat.le_of_ble_eq_true rfl), (Nat.le_of_ble_eq_true rfl)⟩, (Nat.le_of_ble_eq_true rfl), (Nat.le_of_ble_eq_true rfl)⟩ (fun v M6 hp => ?_)
    obtain ⟨rfl, rfl⟩ := hp
    refine hr_iload_n X dX6_fits_9 rfl ?_
    refine hr_iadd X dX6_fits_10 ?_
    refine hr_aload_n X dX6_fits_11 rfl (Or.inr ⟨_, rfl⟩) ?_
    refine mm_getA X kF6_41 dX6_fits_12 hR 12 rfl ?_
    refine hr_iload_n X dX6_fits_15 rfl ?_
    refine mm_iald (g) X dX6_fits_16 hR rfl (by simp only [mm_m2, mm_m3, mm_m4, mm_m5, mm_m12, mm_m16, nI_add, mm_a1, mm_a2, mm_a3, mm_a5, mm_a12, sp_e]) (by simp only [mm_len, sp_e]; omega) ?_
    refine hr_icmp_gt 24 X dX6_fits_17 (by decide) (fun c17 => ?_) (fun c17 => ?_)
    · have c17 := Int32.not_le.mpr c17
      refine hr_iconst (0) X dX6_fits_24 (by decide) ?_
      exact hr_zret X dX6_fits_25 (by rfl) (Nat.le_of_ble_eq_true rfl) (Nat.le_of_ble_eq_true rfl) ⟨by simp [sp_fits, hm_bI, *], rfl⟩
    · have c17 := Int32.not_lt.mp c17
      refine hr_iconst (1) X dX6_fits_20 (by decide) ?_
      refine hr_goto 25 X dX6_fits_21 (by decide) ?_
      exact hr_zret X dX6_fits_25 (by rfl) (Nat.le_of_ble_eq_true rfl) (Nat.le_of_ble_eq_true rfl) ⟨by simp [sp_fits, hm_bI, *], rfl⟩
set_option maxHeartbeats 4000000 in
set_option maxRecDepth 100000 in
theorem c_X6_canRevise (cA : Nat → ClassId) {sg ta : mm_S} {ad : Nat → Nat} {mo : Nat} {M0 M : hm_M} (hR : mm_R cA sg ta ad mo M0 M) (s g : Nat) (hs : s < 4) (hg : g < 4) (more : Int32) : hm_Met cA yX6_canRevise cX6_canRevise 4 (some .boolean) r_X6_canRevise [.ref mo, .int (nI g), .int (nI s), .int more] M (hm_pu (some (.int (hm_bI (!decide (16 ≤ sg 5 s) && sp_fits sg g more)))) M) := by
  refine hm_met 0 (by decide +kernel) (fun w h => by simp only [List.mem_cons, List.not_mem_nil, or_false] at h; rcases h with rfl | rfl | rfl | rfl <;> rfl) rfl (fun C X => ?_)
  show hm_W C 0 0 _ M 0 [some (.ref mo), some (.int (nI g)), some (.int (nI s)), some (.int more)] []
  refine hr_aload_n X dX6_canRevise_0 rfl (Or.inr ⟨_, rfl⟩) ?_
  refine mm_getA X kF6_20 dX6_canRevise_1 hR 5 rfl ?_
  refine hr_iload_n X dX6_canRevise_4 rfl ?_
  refine mm_iald (s) X dX6_canRevise_5 hR rfl (by simp only [mm_m2, mm_m3, mm_m4, mm_m5, mm_m12, mm_m16, nI_add, mm_a1, mm_a2, mm_a3, mm_a5, mm_a12, sp_e]) (by simp only [mm_len, sp_e]; omega) ?_
  refine hr_bipush (16) X dX6_canRevise_6 (by decide) ?_
  refine hr_icmp_ge 24 X dX6_canRevise_8 (by decide) (fun c8 => ?_) (fun c8 => ?_)
  · refine hr_iconst (0) X dX6_canRevise_24 (by decide) ?_
    exact hr_zret X dX6_canRevise_25 (by rfl) (Nat.le_of_ble_eq_true rfl) (Nat.le_of_ble_eq_true rfl) ⟨by simp [hm_bI, *], rfl⟩
  · refine hr_aload_n X dX6_canRevise_11 rfl (Or.inr ⟨_, rfl⟩) ?_
    refine hr_iload_n X dX6_canRevise_12 rfl ?_
    refine hr_iload_n X dX6_canRevise_13 rfl ?_
    refine hr_callV X kC6_123 dX6_canRevise_14 (c_X6_fits cA hR g hg more) hR.1 rfl rfl rfl rfl (Nat.le_of_ble_eq_true rfl) ⟨⟨(Nat.le_of_ble_eq_true rfl), (Nat.le_of_ble_eq_true rfl)⟩, (Nat.le_of_ble_eq_true rfl), (Nat.le_of_ble_eq_true rfl)⟩ (fun v M14 hp => ?_)
    obtain ⟨rfl, rfl⟩ := hp
    refine hr_if_eq 24 X dX6_canRevise_17 (by decide) (fun c17 => ?_) (fun c17 => ?_)
    · rw [hm_bI_eq] at c17
      refine hr_iconst (0) X dX6_canRevise_24 (by decide) ?_
      exact hr_zret X dX6_canRevise_25 (by rfl) (Nat.le_of_ble_eq_true rfl) (Nat.le_of_ble_eq_true rfl) ⟨by simp [hm_bI, *], rfl⟩
    · rw [hm_bI_ne] at c17
      refine hr_iconst (1) X dX6_canRevise_20 (by decide) ?_
      refine hr_goto 25 X dX6_canRevise_21 (by decide) ?_
      exact hr_zret X dX6_canRevise_25 (by rfl) (Nat.le_of_ble_eq_true rfl) (Nat.le_of_ble_eq_true rfl) ⟨by simp [hm_bI, *], rfl⟩
set_option maxHeartbeats 4000000 in
set_option maxRecDepth 100000 in
theorem c_X6_canName (cA : Nat → ClassId) {sg ta : mm_S} {ad : Nat → Nat} {mo : Nat} {M0 M : hm_M} (hR : mm_R cA sg ta ad mo M0 M) (g s t : Int32) : hm_Met cA yX6_canName cX6_canName 4 (some .boolean) r_X6_canName [.ref mo, .int g, .int s, .int t] M (hm_pu (some (.int (hm_bI (sp_name sg g s t)))) M) := by
  refine hm_met 0 (by decide +kernel) (fun w h => by simp only [List.mem_cons, List.not_mem_nil, or_false] at h; rcases h with rfl | rfl | rfl | rfl <;> rfl) rfl (fun C X => ?_)
  show hm_W C 0 0 _ M 0 [some (.ref mo), some (.int g), some (.int s), some (.int t)] []
  refine hr_iload_n X dX6_canName_0 rfl ?_
  refine hr_callS X kC6_127 dX6_canName_1 (c_X6_isClass cA (M := M) g) rfl rfl rfl (Nat.le_of_ble_eq_true rfl) ⟨⟨(Nat.le_of_ble_eq_true rfl), (Nat.le_of_ble_eq_true rfl)⟩, (Nat.le_of_ble_eq_true rfl), (Nat.le_of_ble_eq_true rfl)⟩ (fun v M1 hp => ?_)
  obtain ⟨rfl, rfl⟩ := hp
  refine hr_if_eq 26 X dX6_canName_4 (by decide) (fun c4 => ?_) (fun c4 => ?_)
  · rw [hm_bI_eq] at c4
    refine hr_iconst (0) X dX6_canName_26 (by decide) ?_
    exact hr_zret X dX6_canName_27 (by rfl) (Nat.le_of_ble_eq_true rfl) (Nat.le_of_ble_eq_true rfl) ⟨by simp [sp_name, hm_bI, *], rfl⟩
  · rw [hm_bI_ne] at c4
    refine hr_aload_n X dX6_canName_7 rfl (Or.inr ⟨_, rfl⟩) ?_
    refine hr_iload_n X dX6_canName_8 rfl ?_
    refine hr_callV X kC6_94 dX6_canName_9 (c_X6_isSheet cA hR s) hR.1 rfl rfl rfl rfl (Nat.le_of_ble_eq_true rfl) ⟨⟨(Nat.le_of_ble_eq_true rfl), (Nat.le_of_ble_eq_true rfl)⟩, (Nat.le_of_ble_eq_true rfl), (Nat.le_of_ble_eq_true rfl)⟩ (fun v M9 hp => ?_)
    obtain ⟨rfl, rfl⟩ := hp
    refine hr_if_eq 26 X dX6_canName_12 (by decide) (fun c12 => ?_) (fun c12 => ?_)
    · rw [hm_bI_eq] at c12
      refine hr_iconst (0) X dX6_canName_26 (by decide) ?_
      exact hr_zret X dX6_canName_27 (by rfl) (Nat.le_of_ble_eq_true rfl) (Nat.le_of_ble_eq_true rfl) ⟨by simp [sp_name, hm_bI, *], rfl⟩
    · rw [hm_bI_ne] at c12
      refine hr_iload_n X dX6_canName_15 rfl ?_
      refine hr_callS X kC6_130 dX6_canName_16 (c_X6_isTask cA (M := M) t) rfl rfl rfl (Nat.le_of_ble_eq_true rfl) ⟨⟨(Nat.le_of_ble_eq_true rfl), (Nat.le_of_ble_eq_true rfl)⟩, (Nat.le_of_ble_eq_true rfl), (Nat.le_of_ble_eq_true rfl)⟩ (fun v M16 hp => ?_)
      obtain ⟨rfl, rfl⟩ := hp
      refine hr_if_eq 26 X dX6_canName_19 (by decide) (fun c19 => ?_) (fun c19 => ?_)
      · rw [hm_bI_eq] at c19
        refine hr_iconst (0) X dX6_canName_26 (by decide) ?_
        exact hr_zret X dX6_canName_27 (by rfl) (Nat.le_of_ble_eq_true rfl) (Nat.le_of_ble_eq_true rfl) ⟨by simp [sp_name, hm_bI, *], rfl⟩
      · rw [hm_bI_ne] at c19
        refine hr_iconst (1) X dX6_canName_22 (by decide) ?_
        refine hr_goto 27 X dX6_canName_23 (by decide) ?_
        exact hr_zret X dX6_canName_27 (by rfl) (Nat.le_of_ble_eq_true rfl) (Nat.le_of_ble_eq_true rfl) ⟨by simp [sp_name, hm_bI, *], rfl⟩
