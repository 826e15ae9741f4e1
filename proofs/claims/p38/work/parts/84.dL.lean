/-! a new sheet: the system's method -/
set_option maxHeartbeats 4000000 in
set_option maxRecDepth 100000 in
theorem c_X3_init (cA : Nat → ClassId) {M : hm_M} {b : Nat} (hb : M b = some (.inr (3, [.null, .int 0, .null, .null, .null]))) : hm_Met cA yX3_init cX3_init 3 none r_X3_init [.ref b] M (fun v' M' => v' = none ∧ ∃ q9 q10 q11 q12 x13 q14 : Nat, ca_S cA M b q9 q10 q11 q12 x13 q14 4 M') := by
  refine hm_met 2 (by decide +kernel) (fun w h => by simp only [List.mem_cons, List.not_mem_nil, or_false] at h; rcases h with rfl <;> rfl) rfl (fun C X => ?_)
  show hm_W C 0 0 _ M 0 [some (.ref b), none, none] []
  refine hr_aload_n X dX3_init_0 rfl (Or.inr ⟨_, rfl⟩) ?_
  refine hr_objInit X dX3_init_1 kO3_3 kO_i kO_c rfl ⟨(Nat.le_of_ble_eq_true rfl), (Nat.le_of_ble_eq_true rfl)⟩ ?_
  refine hr_aload_n X dX3_init_4 rfl (Or.inr ⟨_, rfl⟩) ?_
  refine hr_bipush (16) X dX3_init_5 (by decide) ?_
  refine hr_anew 4 16 RX4 X dX3_init_7 rfl kR3_9 (by decide +kernel) (by decide) (by decide) (by decide) ⟨(Nat.le_of_ble_eq_true rfl), (Nat.le_of_ble_eq_true rfl)⟩ (fun q9 hq_q9 => ?_)
  have m_q9 : M q9 = none := hq_q9
  have n_q9_b : q9 ≠ b := fun z => by rw [z, hb] at m_q9; cases m_q9
  have n_b_q9 := n_q9_b.symm
  refine hr_putF (ini := true) X kF3_11 dX3_init_10 ((hm_up_n n_b_q9).trans hb) rfl rfl (Nat.le_of_ble_eq_true rfl) rfl ?_
  refine hr_aload_n X dX3_init_13 rfl (Or.inr ⟨_, rfl⟩) ?_
  refine hr_iconst (1) X dX3_init_14 (by decide) ?_
  refine hr_put X kF3_17 dX3_init_15 hm_up_s rfl rfl (Nat.le_of_ble_eq_true rfl) ?_
  refine hr_aload_n X dX3_init_18 rfl (Or.inr ⟨_, rfl⟩) ?_
  refine hr_iconst (4) X dX3_init_19 (by decide) ?_
  refine hr_anew 4 4 RX4 X dX3_init_20 rfl kR3_9 (by decide +kernel) (by decide) (by decide) (by decide) ⟨(Nat.le_of_ble_eq_true rfl), (Nat.le_of_ble_eq_true rfl)⟩ (fun q10 hq_q10 => ?_)
  obtain ⟨n_q10_b, m_q10_0⟩ := hm_up_none hq_q10
  have m_q10_1 := (hm_up_none m_q10_0).2
  obtain ⟨n_q10_q9, m_q10_2⟩ := hm_up_none m_q10_1
  have m_q10 : M q10 = none := m_q10_2
  have n_b_q10 := n_q10_b.symm
  have n_q9_q10 := n_q10_q9.symm
  refine hr_putF (ini := true) X kF3_21 dX3_init_23 ((hm_up_n n_b_q10).trans hm_up_s) rfl rfl (Nat.le_of_ble_eq_true rfl) rfl ?_
  refine hr_aload_n X dX3_init_26 rfl (Or.inr ⟨_, rfl⟩) ?_
  refine hr_iconst (4) X dX3_init_27 (by decide) ?_
  refine hr_newa 1 .boolean 4 (4, .inl (fun _ => 0)) X dX3_init_28 rfl kA_boolean (fun _ => rfl) (by decide) (by decide) (by decide) ⟨(Nat.le_of_ble_eq_true rfl), (Nat.le_of_ble_eq_true rfl)⟩ hm_nuZ (fun q11 hq_q11 => ?_)
  obtain ⟨n_q11_b, m_q11_0⟩ := hm_up_none hq_q11
  obtain ⟨n_q11_q10, m_q11_1⟩ := hm_up_none m_q11_0
  have m_q11_2 := (hm_up_none m_q11_1).2
  have m_q11_3 := (hm_up_none m_q11_2).2
  obtain ⟨n_q11_q9, m_q11_4⟩ := hm_up_none m_q11_3
  have m_q11 : M q11 = none := m_q11_4
  have n_b_q11 := n_q11_b.symm
  have n_q9_q11 := n_q11_q9.symm
  have n_q10_q11 := n_q11_q10.symm
  refine hr_putF (ini := true) X kF3_24 dX3_init_30 ((hm_up_n n_b_q11).trans hm_up_s) rfl rfl (Nat.le_of_ble_eq_true rfl) rfl ?_
  refine hr_aload_n X dX3_init_33 rfl (Or.inr ⟨_, rfl⟩) ?_
  refine hr_bipush (12) X dX3_init_34 (by decide) ?_
  refine hr_anew 6 12 RX0 X dX3_init_36 rfl kR3_28 (by decide +kernel) (by decide) (by decide) (by decide) ⟨(Nat.le_of_ble_eq_true rfl), (Nat.le_of_ble_eq_true rfl)⟩ (fun q12 hq_q12 => ?_)
  obtain ⟨n_q12_b, m_q12_0⟩ := hm_up_none hq_q12
  obtain ⟨n_q12_q11, m_q12_1⟩ := hm_up_none m_q12_0
  have m_q12_2 := (hm_up_none m_q12_1).2
  obtain ⟨n_q12_q10, m_q12_3⟩ := hm_up_none m_q12_2
  have m_q12_4 := (hm_up_none m_q12_3).2
  have m_q12_5 := (hm_up_none m_q12_4).2
  obtain ⟨n_q12_q9, m_q12_6⟩ := hm_up_none m_q12_5
  have m_q12 : M q12 = none := m_q12_6
  have n_b_q12 := n_q12_b.symm
  have n_q9_q12 := n_q12_q9.symm
  have n_q10_q12 := n_q12_q10.symm
  have n_q11_q12 := n_q12_q11.symm
  refine hr_putF (ini := true) X kF3_30 dX3_init_39 ((hm_up_n n_b_q12).trans hm_up_s) rfl rfl (Nat.le_of_ble_eq_true rfl) rfl ?_
  refine hr_new [.int 0, .int 0, .null, .null] X kN3_9 dX3_init_42 (by intro j hj; rcases j with _ | _ | _ | _ | j <;> first | rfl | omega) ⟨(Nat.le_of_ble_eq_true rfl), (Nat.le_of_ble_eq_true rfl)⟩ (fun x13 hq_x13 => ?_)
  obtain ⟨n_x13_b, m_x13_0⟩ := hm_up_none hq_x13
  obtain ⟨n_x13_q12, m_x13_1⟩ := hm_up_none m_x13_0
  have m_x13_2 := (hm_up_none m_x13_1).2
  obtain ⟨n_x13_q11, m_x13_3⟩ := hm_up_none m_x13_2
  have m_x13_4 := (hm_up_none m_x13_3).2
  obtain ⟨n_x13_q10, m_x13_5⟩ := hm_up_none m_x13_4
  have m_x13_6 := (hm_up_none m_x13_5).2
  have m_x13_7 := (hm_up_none m_x13_6).2
  obtain ⟨n_x13_q9, m_x13_8⟩ := hm_up_none m_x13_7
  have m_x13 : M x13 = none := m_x13_8
  have n_b_x13 := n_x13_b.symm
  have n_q9_x13 := n_x13_q9.symm
  have n_q10_x13 := n_x13_q10.symm
  have n_q11_x13 := n_x13_q11.symm
  have n_q12_x13 := n_x13_q12.symm
  refine hr_dup X dX3_init_45 rfl ?_
  refine hr_iconst (0) X dX3_init_46 (by decide) ?_
  refine hr_iconst (-1) X dX3_init_47 (by decide) ?_
  refine hr_null X dX3_init_48 ?_
  refine hr_callI X kC3_34 dX3_init_49 (c_X4_init cA (b := x13) hm_up_s 0 (-1) none) rfl rfl rfl (Nat.le_of_ble_eq_true rfl) ⟨⟨(Nat.le_of_ble_eq_true rfl), (Nat.le_of_ble_eq_true rfl)⟩, (Nat.le_of_ble_eq_true rfl), (Nat.le_of_ble_eq_true rfl)⟩ (fun v M49 hp49 => ?_)
  obtain ⟨rfl, q14, hq_q14, rfl⟩ := hp49
  obtain ⟨n_q14_x13, m_q14_0⟩ := hm_up_none hq_q14
  obtain ⟨n_q14_b, m_q14_1⟩ := hm_up_none m_q14_0
  obtain ⟨n_q14_q12, m_q14_2⟩ := hm_up_none m_q14_1
  have m_q14_3 := (hm_up_none m_q14_2).2
  obtain ⟨n_q14_q11, m_q14_4⟩ := hm_up_none m_q14_3
  have m_q14_5 := (hm_up_none m_q14_4).2
  obtain ⟨n_q14_q10, m_q14_6⟩ := hm_up_none m_q14_5
  have m_q14_7 := (hm_up_none m_q14_6).2
  have m_q14_8 := (hm_up_none m_q14_7).2
  obtain ⟨n_q14_q9, m_q14_9⟩ := hm_up_none m_q14_8
  have m_q14 : M q14 = none := m_q14_9
  have n_b_q14 := n_q14_b.symm
  have n_q9_q14 := n_q14_q9.symm
  have n_q10_q14 := n_q14_q10.symm
  have n_q11_q14 := n_q14_q11.symm
  have n_q12_q14 := n_q14_q12.symm
  have n_x13_q14 := n_q14_x13.symm
  refine hr_astore_n X dX3_init_52 (Nat.le_of_ble_eq_true rfl) (Or.inr ⟨_, rfl⟩) ?_
  refine hr_aload_n X dX3_init_53 rfl (Or.inr ⟨_, rfl⟩) ?_
  refine hr_get X kF3_11 dX3_init_54 ((hm_up_n n_b_x13).trans ((hm_up_n n_b_q14).trans ((hm_up_n n_b_x13).trans hm_up_s))) rfl ?_
  refine hr_iconst (0) X dX3_init_57 (by decide) ?_
  refine hr_aload_n X dX3_init_58 rfl (Or.inr ⟨_, rfl⟩) ?_
  refine hr_aast 4 4 X rfl rfl dX3_init_59 ((hm_up_n n_q9_x13).trans ((hm_up_n n_q9_q14).trans ((hm_up_n n_q9_x13).trans ((hm_up_n n_q9_b).trans ((hm_up_n n_q9_q12).trans ((hm_up_n n_q9_b).trans ((hm_up_n n_q9_q11).trans ((hm_up_n n_q9_b).trans ((hm_up_n n_q9_q10).trans ((hm_up_n n_q9_b).trans ((hm_up_n n_q9_b).trans hm_up_s))))))))))) hm_up_s (mm_in (show (0 : Int32) = nI 0 from rfl) (by decide) (by decide)).1 ?_
  have hS0 : ca_S cA M b q9 q10 q11 q12 x13 q14 0 (hm_up (hm_up (hm_up (hm_up (hm_up (hm_up (hm_up (hm_up (hm_up (hm_up (hm_up (hm_up (hm_up M q9 (cr_rw cA 4 16 (fun _ => none))) b (.inr (3, [.ref q9, .int 0, .null, .null, .null]))) b (.inr (3, [.ref q9, .int 1, .null, .null, .null]))) q10 (cr_rw cA 4 4 (fun _ => none))) b (.inr (3, [.ref q9, .int 1, .ref q10, .null, .null]))) q11 (cr_iw cA 1 4 (fun _ => 0))) b (.inr (3, [.ref q9, .int 1, .ref q10, .ref q11, .null]))) q12 (cr_rw cA 6 12 (fun _ => none))) b (.inr (3, [.ref q9, .int 1, .ref q10, .ref q11, .ref q12]))) x13 (.inr (4, [.int 0, .int 0, .null, .null]))) q14 (cr_rw cA 5 5 (fun _ => none))) x13 (.inr (4, [.int 0, .int (-1), va_rf none, .ref q14]))) q9 (cr_rw cA 4 16 (va_up (fun _ => none) 0 (some x13)))) := ⟨((hm_up_n n_b_q9).trans ((hm_up_n n_b_x13).trans ((hm_up_n n_b_q14).trans ((hm_up_n n_b_x13).trans hm_up_s)))), hm_up_s, (((hm_up_n n_q10_q9).trans ((hm_up_n n_q10_x13).trans ((hm_up_n n_q10_q14).trans ((hm_up_n n_q10_x13).trans ((hm_up_n n_q10_b).trans ((hm_up_n n_q10_q12).trans ((hm_up_n n_q10_b).trans ((hm_up_n n_q10_q11).trans ((hm_up_n n_q10_b).trans hm_up_s)))))))))).trans rfl, ((hm_up_n n_q11_q9).trans ((hm_up_n n_q11_x13).trans ((hm_up_n n_q11_q14).trans ((hm_up_n n_q11_x13).trans ((hm_up_n n_q11_b).trans ((hm_up_n n_q11_q12).trans ((hm_up_n n_q11_b).trans hm_up_s))))))), ((hm_up_n n_q12_q9).trans ((hm_up_n n_q12_x13).trans ((hm_up_n n_q12_q14).trans ((hm_up_n n_q12_x13).trans ((hm_up_n n_q12_b).trans hm_up_s))))), ((hm_up_n n_x13_q9).trans hm_up_s), ((hm_up_n n_q14_q9).trans ((hm_up_n n_q14_x13).trans hm_up_s)), ⟨m_q9, m_q10, m_q11, m_q12, m_x13, m_q14⟩, fun a e ha hab => by
    have a_q14 : a ≠ q14 := fun z => by rw [z, m_q14] at ha; cases ha
    have a_x13 : a ≠ x13 := fun z => by rw [z, m_x13] at ha; cases ha
    have a_q12 : a ≠ q12 := fun z => by rw [z, m_q12] at ha; cases ha
    have a_q11 : a ≠ q11 := fun z => by rw [z, m_q11] at ha; cases ha
    have a_q10 : a ≠ q10 := fun z => by rw [z, m_q10] at ha; cases ha
    have a_q9 : a ≠ q9 := fun z => by rw [z, m_q9] at ha; cases ha
    rw [hm_up_n a_q9, hm_up_n a_x13, hm_up_n a_q14, hm_up_n a_x13, hm_up_n hab, hm_up_n a_q12, hm_up_n hab, hm_up_n a_q11, hm_up_n hab, hm_up_n a_q10, hm_up_n hab, hm_up_n hab, hm_up_n a_q9]
    exact ha⟩
  refine hr_widen (k2 := 6) (n2 := 45) (Nat.le_of_ble_eq_true rfl) (Nat.le_of_ble_eq_true rfl) ?_
  refine hr_iconst (0) X dX3_init_60 (by decide) ?_
  refine hr_istore_n X dX3_init_61 (Nat.le_of_ble_eq_true rfl) ?_
  have lp62 : ∀ (f : Nat) (n : Nat) (Mn : hm_M), ca_S cA M b q9 q10 q11 q12 x13 q14 n Mn → n ≤ 4 → 4 < n + f → hm_W C 6 45 (hm_T C (fun v' M' => v' = none ∧ ∃ q9 q10 q11 q12 x13 q14 : Nat, ca_S cA M b q9 q10 q11 q12 x13 q14 4 M') r_X3_init.cells r_X3_init.slots) Mn 62 [some (.ref b), some (.ref x13), some (.int (nI n))] [] := by
    intro f
    induction f with
    | zero => intro n Mn hN h1 h2; exact absurd h2 (by omega)
    | succ f ih =>
      intro n Mn hN h1 h2
      refine hr_iload_n X dX3_init_62 rfl ?_
      refine hr_iconst (4) X dX3_init_63 (by decide) ?_
      refine hr_icmp_ge 80 X dX3_init_64 (by decide) (fun c64 => ?_) (fun c64 => ?_)
      · have hz : n = 4 := by have := (nI_leI (a := 4) (by decide) (by omega)).mp c64; omega
        subst hz
        exact hr_vret X dX3_init_80 (Nat.le_of_ble_eq_true rfl) (Nat.le_of_ble_eq_true rfl) ⟨rfl, q9, q10, q11, q12, x13, q14, hN⟩
      · have hn : n < 4 := by
          rcases Nat.lt_or_ge n 4 with q | q
          · exact q
          · exact absurd (nI_le (by omega) (by omega)) c64
        refine hr_aload_n X dX3_init_67 rfl (Or.inr ⟨_, rfl⟩) ?_
        refine hr_get X kF3_21 dX3_init_68 hN.1 rfl ?_
        refine hr_iload_n X dX3_init_71 rfl ?_
        refine hr_aload_n X dX3_init_72 rfl (Or.inr ⟨_, rfl⟩) ?_
        refine hr_aast 4 4 X rfl rfl dX3_init_73 hN.2.2.1 hN.2.2.2.2.2.1 (mm_in rfl (by omega) (by decide)).1 ?_
        rw [nI_clamp (by omega)]
        refine hr_iinc (1) X dX3_init_74 rfl (by decide) ?_
        refine hr_goto 62 X dX3_init_77 (by decide) ?_
        rw [nI_1]
        exact ih (n + 1) _ hN.step (by omega) (by omega)
  exact lp62 5 0 _ hS0 (by decide) (by decide)
set_option maxHeartbeats 4000000 in
set_option maxRecDepth 100000 in
theorem c_X5_addSheet (cA : Nat → ClassId) {sg ta : mm_S} {ad : Nat → Nat → Nat} {M0 M : hm_M} (hR : cr_R cA sg ta ad M0 M) (hI : sp_I sg) (hJ : sp_J sg) (hok : cr_ok sg ta) : hm_XMet cA yX5_addSheet cX5_addSheet 2 (some .int) r_X5_addSheet [.ref (ad 0 0)] M (fun v' M' => sp_w (!decide (sg 1 0 = 4)) = 0 ∧ v' = some (.int (sg 1 0)) ∧ ∃ (ta' : mm_S) (ad' : Nat → Nat → Nat), cr_R cA (sp_addS sg) ta' ad' M0 M' ∧ cr_ok (sp_addS sg) ta' ∧ ad' 0 0 = ad 0 0) (fun E M' => ((sp_w (!decide (sg 1 0 = 4)) = 1 ∧ E = "java/lang/IllegalStateException")) ∧ cr_R cA sg ta ad M0 M') := by
  refine hm_xmet 1 (by decide +kernel) (fun w h => by simp only [List.mem_cons, List.not_mem_nil, or_false] at h; rcases h with rfl <;> rfl) rfl (fun C X XE => ?_)
  show hm_W C 0 0 _ M 0 [some (.ref (ad 0 0)), none] []
  have h10 : sg 1 0 = nI (sp_n sg) := hI.i1.1
  have h14 := hI.i1.2
  refine hr_aload_n X dX5_addSheet_0 rfl (Or.inr ⟨_, rfl⟩) ?_
  refine hr_get X kF5_15 dX5_addSheet_1 hR.c0 rfl ?_
  refine hr_iconst (4) X dX5_addSheet_4 (by decide) ?_
  refine hr_icmp_lt 18 X dX5_addSheet_5 (by decide) (fun c5 => ?_) (fun c5 => ?_)
  · have hlt : sp_n sg < 4 := by
      rw [h10] at c5
      exact (nI_ltI (a := sp_n sg) (b := 4) (by omega) (by decide)).mp c5
    have hz : sp_w (!decide (sg 1 0 = 4)) = 0 := sp_w_0.mpr (by
      rw [decide_eq_false (fun q => by rw [q] at c5; exact absurd c5 (by decide))]
      rfl)
    refine hr_aload_n X dX5_addSheet_18 rfl (Or.inr ⟨_, rfl⟩) ?_
    refine hr_get X kF5_15 dX5_addSheet_19 hR.c0 rfl ?_
    refine hr_istore_n X dX5_addSheet_22 (Nat.le_of_ble_eq_true rfl) ?_
    refine hr_aload_n X dX5_addSheet_23 rfl (Or.inr ⟨_, rfl⟩) ?_
    refine hr_get X kF5_11 dX5_addSheet_24 hR.c0 rfl ?_
    refine hr_iload_n X dX5_addSheet_27 rfl ?_
    refine hr_new [.null, .int 0, .null, .null, .null] X kN5_9 dX5_addSheet_28 (by intro j hj; rcases j with _ | _ | _ | _ | _ | j <;> first | rfl | omega) ⟨(Nat.le_of_ble_eq_true rfl), (Nat.le_of_ble_eq_true rfl)⟩ (fun b hq => ?_)
    refine hr_dup X dX5_addSheet_31 rfl ?_
    refine hr_callI X kC5_44 dX5_addSheet_32 (c_X3_init cA (b := b) hm_up_s) rfl rfl rfl (Nat.le_of_ble_eq_true rfl) ⟨⟨(Nat.le_of_ble_eq_true rfl), (Nat.le_of_ble_eq_true rfl)⟩, (Nat.le_of_ble_eq_true rfl), (Nat.le_of_ble_eq_true rfl)⟩ (fun v M32 hp32 => ?_)
    obtain ⟨rfl, q9, q10, q11, q12, x13, q14, hN⟩ := hp32
    obtain ⟨n1, n2, n3, n4, n5, n6, n7, ⟨m1, m2, m3, m4, m5, m6⟩, n8⟩ := hN
    have grow : ∀ z e, M z = some e → M32 z = some e := fun z e hz => by
      have zq : z ≠ b := fun y => by rw [y, hq] at hz; cases hz
      exact n8 z e ((hm_up_n zq).trans hz) zq
    have hR4 := hR.grow grow
    have nw : ∀ z, hm_up M b (.inr (3, [.null, .int 0, .null, .null, .null])) z = none → M z = none := fun z hz => (hm_up_none hz).2
    have fr : ∀ z, M z = none → cr_gr M M32 M0 z = M32 z := fun z hz => cr_gr_n hz
    have m0 : ∀ z, M z = none → M0 z = none := fun z hz => by
      cases y : M0 z with
      | none => rfl
      | some e => have := hR.2.2 z e y; rw [hz] at this; cases this
    have hNN : ∀ j y, cr_asN (sp_n sg) j y → M ((cr_adS ad (sp_n sg) b q9 q10 q11 q12 x13 q14) j y) = none := fun j y hj => by
      rcases hj with ⟨rfl, rfl⟩ | ⟨rfl, rfl⟩ | ⟨rfl, rfl⟩ | ⟨rfl, rfl⟩ | ⟨rfl, rfl⟩ | ⟨rfl, rfl⟩ | ⟨rfl, rfl⟩
      · rw [cr_adS_8]; exact hq
      · rw [cr_adS_9]; exact nw _ m1
      · rw [cr_adS_10]; exact nw _ m2
      · rw [cr_adS_11]; exact nw _ m3
      · rw [cr_adS_12]; exact nw _ m4
      · rw [cr_adS_13]; exact nw _ m5
      · rw [cr_adS_14]; exact nw _ m6
    refine hr_ad (cr_adS ad (sp_n sg) b q9 q10 q11 q12 x13 q14) hI hR4 (fun j y e he => cr_adS_o (cr_as_dead hJ hlt he)) (fun M33 hR5 => ?_)
    have o : ∀ j y, j < 8 → (cr_adS ad (sp_n sg) b q9 q10 q11 q12 x13 q14) j y = ad j y := fun j y hj => cr_adS_o (fun z => by unfold cr_asN at z; omega)
    have hc0 := hR5.c0
    have hc1 := hR5.c1
    rw [o 0 0 (by decide), o 1 0 (by decide), o 2 0 (by decide), o 3 0 (by decide), o 4 0 (by decide), o 5 0 (by decide), o 6 0 (by decide)] at hc0
    rw [o 1 0 (by decide)] at hc1
    have n01 : ad 0 0 ≠ ad 1 0 := fun z => by rw [z, hc1] at hc0; cases hc0
    have hMb : M33 b = _ := hR5.2.2 b _ ((fr b hq).trans n1)
    refine hr_aast 3 3 X rfl rfl dX5_addSheet_35 hc1 hMb (mm_in h10 (by omega) (by decide)).1 ?_
    refine hr_aload_n X dX5_addSheet_36 rfl (Or.inr ⟨_, rfl⟩) ?_
    refine hr_dup X dX5_addSheet_37 rfl ?_
    refine hr_get X kF5_15 dX5_addSheet_38 ((hm_up_n n01).trans hc0) rfl ?_
    refine hr_iconst (1) X dX5_addSheet_41 (by decide) ?_
    refine hr_iadd X dX5_addSheet_42 ?_
    refine hr_put X kF5_15 dX5_addSheet_43 ((hm_up_n n01).trans hc0) rfl rfl (Nat.le_of_ble_eq_true rfl) ?_
    refine hr_adds (Mb := M0) hI hJ hlt hR5 (fun z e hz => ?_) (fun j y hj => m0 _ (hNN j y hj)) ?_ ?_ ?_ ?_ ?_ ?_ ?_ (by rw [o 0 0 (by decide), o 1 0 (by decide), o 2 0 (by decide), o 3 0 (by decide), o 4 0 (by decide), o 5 0 (by decide), o 6 0 (by decide), cr_adS_8]; rfl) (fun M43 hR6 => ?_)
    · have : M z ≠ none := fun y => by rw [m0 z y] at hz; cases hz
      cases y : M z with
      | none => exact absurd y this
      | some w => exact (cr_gr_s y).trans hz
    · rw [cr_adS_8, cr_adS_9, cr_adS_10, cr_adS_11, cr_adS_12, fr b hq]
      exact n1
    · rw [cr_adS_9, cr_adS_13, fr q9 (nw _ m1)]
      exact n2
    · rw [cr_adS_10, cr_adS_13, fr q10 (nw _ m2)]
      exact n3
    · rw [cr_adS_11, fr q11 (nw _ m3)]
      exact n4
    · rw [cr_adS_12, fr q12 (nw _ m4)]
      exact n5
    · rw [cr_adS_13, cr_adS_14, fr x13 (nw _ m5)]
      exact n6
    · rw [cr_adS_14, fr q14 (nw _ m6)]
      exact n7
    refine hr_iload_n X dX5_addSheet_46 rfl ?_
    exact hr_iretX X dX5_addSheet_47 (Nat.le_of_ble_eq_true rfl) (Nat.le_of_ble_eq_true rfl) ⟨hz, rfl, _, (cr_adS ad (sp_n sg) b q9 q10 q11 q12 x13 q14), hR6, cr_ok_addS hI hJ hlt hok, o 0 0 (by decide)⟩
  · have hno : sp_w (!decide (sg 1 0 = 4)) = 1 := by
      have e4 : sp_n sg = 4 := by
        by_cases z : sp_n sg < 4
        · exact absurd (by rw [h10]; exact (nI_ltI (a := sp_n sg) (b := 4) (by omega) (by decide)).mpr z) c5
        · omega
      rw [h10, e4]
      rfl
    exact hr_throw X XE kT5_37_39_41 dX5_addSheet_8 dX5_addSheet_11 dX5_addSheet_12 dX5_addSheet_14 dX5_addSheet_17 rfl ⟨(Nat.le_of_ble_eq_true rfl), (Nat.le_of_ble_eq_true rfl), (Nat.le_of_ble_eq_true rfl), (Nat.le_of_ble_eq_true rfl)⟩ (Nat.le_of_ble_eq_true rfl) (Nat.le_of_ble_eq_true rfl) ⟨⟨hno, rfl⟩, hR⟩
