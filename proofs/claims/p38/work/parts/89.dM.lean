/-! the system's own making -/
set_option maxHeartbeats 4000000 in
set_option maxRecDepth 100000 in
theorem c_X5_init (cA : Nat → ClassId) {M9 : hm_M} {b : Nat} (hb : M9 b = none) : hm_Met cA yX5_init cX5_init 2 none r_X5_init [.ref b] (hm_up M9 b (.inr (5, [.null, .int 0, .null, .null, .null, .null, .null]))) (fun v' M' => v' = none ∧ ∃ ad : Nat → Nat → Nat, ad 0 0 = b ∧ cr_R cA (sp_S0 4 320) (fun _ _ => 0) ad M9 M') := by
  refine hm_met 1 (by decide +kernel) (fun w h => by simp only [List.mem_cons, List.not_mem_nil, or_false] at h; rcases h with rfl <;> rfl) rfl (fun C X => ?_)
  show hm_W C 0 0 _ (hm_up M9 b (.inr (5, [.null, .int 0, .null, .null, .null, .null, .null]))) 0 [some (.ref b), none] []
  refine hr_aload_n X dX5_init_0 rfl (Or.inr ⟨_, rfl⟩) ?_
  refine hr_objInit X dX5_init_1 kO5_3 kO_i kO_c rfl ⟨(Nat.le_of_ble_eq_true rfl), (Nat.le_of_ble_eq_true rfl)⟩ ?_
  refine hr_aload_n X dX5_init_4 rfl (Or.inr ⟨_, rfl⟩) ?_
  refine hr_iconst (4) X dX5_init_5 (by decide) ?_
  refine hr_anew 3 4 RX3 X dX5_init_6 rfl kR5_9 (by decide +kernel) (by decide) (by decide) (by decide) ⟨(Nat.le_of_ble_eq_true rfl), (Nat.le_of_ble_eq_true rfl)⟩ (fun q1 hq_q1 => ?_)
  obtain ⟨n_q1_b, m_q1_0⟩ := hm_up_none hq_q1
  have m_q1 : M9 q1 = none := m_q1_0
  have n_b_q1 := n_q1_b.symm
  refine hr_putF (ini := true) X kF5_11 dX5_init_9 ((hm_up_n n_b_q1).trans hm_up_s) rfl rfl (Nat.le_of_ble_eq_true rfl) rfl ?_
  refine hr_aload_n X dX5_init_12 rfl (Or.inr ⟨_, rfl⟩) ?_
  refine hr_iconst (0) X dX5_init_13 (by decide) ?_
  refine hr_put X kF5_15 dX5_init_14 hm_up_s rfl rfl (Nat.le_of_ble_eq_true rfl) ?_
  refine hr_aload_n X dX5_init_17 rfl (Or.inr ⟨_, rfl⟩) ?_
  refine hr_iconst (4) X dX5_init_18 (by decide) ?_
  refine hr_newa 0 .int 4 (4, .inl (fun _ => 0)) X dX5_init_19 rfl kA_int (fun _ => rfl) (by decide) (by decide) (by decide) ⟨(Nat.le_of_ble_eq_true rfl), (Nat.le_of_ble_eq_true rfl)⟩ hm_nuI (fun q2 hq_q2 => ?_)
  obtain ⟨n_q2_b, m_q2_0⟩ := hm_up_none hq_q2
  have m_q2_1 := (hm_up_none m_q2_0).2
  obtain ⟨n_q2_q1, m_q2_2⟩ := hm_up_none m_q2_1
  have m_q2_3 := (hm_up_none m_q2_2).2
  have m_q2 : M9 q2 = none := m_q2_3
  have n_b_q2 := n_q2_b.symm
  have n_q1_q2 := n_q2_q1.symm
  refine hr_putF (ini := true) X kF5_19 dX5_init_21 ((hm_up_n n_b_q2).trans hm_up_s) rfl rfl (Nat.le_of_ble_eq_true rfl) rfl ?_
  refine hr_aload_n X dX5_init_24 rfl (Or.inr ⟨_, rfl⟩) ?_
  refine hr_iconst (4) X dX5_init_25 (by decide) ?_
  refine hr_newa 0 .int 4 (4, .inl (fun _ => 0)) X dX5_init_26 rfl kA_int (fun _ => rfl) (by decide) (by decide) (by decide) ⟨(Nat.le_of_ble_eq_true rfl), (Nat.le_of_ble_eq_true rfl)⟩ hm_nuI (fun q3 hq_q3 => ?_)
  obtain ⟨n_q3_b, m_q3_0⟩ := hm_up_none hq_q3
  obtain ⟨n_q3_q2, m_q3_1⟩ := hm_up_none m_q3_0
  have m_q3_2 := (hm_up_none m_q3_1).2
  have m_q3_3 := (hm_up_none m_q3_2).2
  obtain ⟨n_q3_q1, m_q3_4⟩ := hm_up_none m_q3_3
  have m_q3_5 := (hm_up_none m_q3_4).2
  have m_q3 : M9 q3 = none := m_q3_5
  have n_b_q3 := n_q3_b.symm
  have n_q1_q3 := n_q3_q1.symm
  have n_q2_q3 := n_q3_q2.symm
  refine hr_putF (ini := true) X kF5_23 dX5_init_28 ((hm_up_n n_b_q3).trans hm_up_s) rfl rfl (Nat.le_of_ble_eq_true rfl) rfl ?_
  refine hr_aload_n X dX5_init_31 rfl (Or.inr ⟨_, rfl⟩) ?_
  refine hr_bipush (7) X dX5_init_32 (by decide) ?_
  refine hr_newa 0 .int 7 (7, .inl (fun _ => 0)) X dX5_init_34 rfl kA_int (fun _ => rfl) (by decide) (by decide) (by decide) ⟨(Nat.le_of_ble_eq_true rfl), (Nat.le_of_ble_eq_true rfl)⟩ hm_nuI (fun q4 hq_q4 => ?_)
  obtain ⟨n_q4_b, m_q4_0⟩ := hm_up_none hq_q4
  obtain ⟨n_q4_q3, m_q4_1⟩ := hm_up_none m_q4_0
  have m_q4_2 := (hm_up_none m_q4_1).2
  obtain ⟨n_q4_q2, m_q4_3⟩ := hm_up_none m_q4_2
  have m_q4_4 := (hm_up_none m_q4_3).2
  have m_q4_5 := (hm_up_none m_q4_4).2
  obtain ⟨n_q4_q1, m_q4_6⟩ := hm_up_none m_q4_5
  have m_q4_7 := (hm_up_none m_q4_6).2
  have m_q4 : M9 q4 = none := m_q4_7
  have n_b_q4 := n_q4_b.symm
  have n_q1_q4 := n_q4_q1.symm
  have n_q2_q4 := n_q4_q2.symm
  have n_q3_q4 := n_q4_q3.symm
  refine hr_putF (ini := true) X kF5_26 dX5_init_36 ((hm_up_n n_b_q4).trans hm_up_s) rfl rfl (Nat.le_of_ble_eq_true rfl) rfl ?_
  refine hr_aload_n X dX5_init_39 rfl (Or.inr ⟨_, rfl⟩) ?_
  refine hr_bipush (12) X dX5_init_40 (by decide) ?_
  refine hr_bipush (50) X dX5_init_42 (by decide) ?_
  refine hr_mna (N := 12) (K := 50) X dX5_init_44 kM5_29 (by decide +kernel) kA_int (by decide) (by decide) (by decide) (by decide) (by decide) (by decide) (by decide) ⟨(Nat.le_of_ble_eq_true rfl), (Nat.le_of_ble_eq_true rfl)⟩ (fun q5 r M44 hq_q5 hri hinj k_q5 k_r hup => ?_)
  obtain ⟨n_q5_b, m_q5_0⟩ := hm_up_none hq_q5
  obtain ⟨n_q5_q4, m_q5_1⟩ := hm_up_none m_q5_0
  have m_q5_2 := (hm_up_none m_q5_1).2
  obtain ⟨n_q5_q3, m_q5_3⟩ := hm_up_none m_q5_2
  have m_q5_4 := (hm_up_none m_q5_3).2
  obtain ⟨n_q5_q2, m_q5_5⟩ := hm_up_none m_q5_4
  have m_q5_6 := (hm_up_none m_q5_5).2
  have m_q5_7 := (hm_up_none m_q5_6).2
  obtain ⟨n_q5_q1, m_q5_8⟩ := hm_up_none m_q5_7
  have m_q5_9 := (hm_up_none m_q5_8).2
  have m_q5 : M9 q5 = none := m_q5_9
  have n_b_q5 := n_q5_b.symm
  have n_q1_q5 := n_q5_q1.symm
  have n_q2_q5 := n_q5_q2.symm
  have n_q3_q5 := n_q5_q3.symm
  have n_q4_q5 := n_q5_q4.symm
  have k_b := hup _ _ hm_up_s
  have k_q1 := hup _ _ ((hm_up_n n_q1_b).trans ((hm_up_n n_q1_q4).trans ((hm_up_n n_q1_b).trans ((hm_up_n n_q1_q3).trans ((hm_up_n n_q1_b).trans ((hm_up_n n_q1_q2).trans ((hm_up_n n_q1_b).trans ((hm_up_n n_q1_b).trans hm_up_s))))))))
  have k_q2 := hup _ _ ((hm_up_n n_q2_b).trans ((hm_up_n n_q2_q4).trans ((hm_up_n n_q2_b).trans ((hm_up_n n_q2_q3).trans ((hm_up_n n_q2_b).trans hm_up_s)))))
  have k_q3 := hup _ _ ((hm_up_n n_q3_b).trans ((hm_up_n n_q3_q4).trans ((hm_up_n n_q3_b).trans hm_up_s)))
  have k_q4 := hup _ _ ((hm_up_n n_q4_b).trans hm_up_s)
  have fr : ∀ i, i < 12 → M9 (r i) = none ∧ r i ≠ b ∧ r i ≠ q1 ∧ r i ≠ q2 ∧ r i ≠ q3 ∧ r i ≠ q4 := fun i hi => by
    obtain ⟨nr_b, mr_0⟩ := hm_up_none (hri i hi).1
    obtain ⟨nr_q4, mr_1⟩ := hm_up_none mr_0
    have mr_2 := (hm_up_none mr_1).2
    obtain ⟨nr_q3, mr_3⟩ := hm_up_none mr_2
    have mr_4 := (hm_up_none mr_3).2
    obtain ⟨nr_q2, mr_5⟩ := hm_up_none mr_4
    have mr_6 := (hm_up_none mr_5).2
    have mr_7 := (hm_up_none mr_6).2
    obtain ⟨nr_q1, mr_8⟩ := hm_up_none mr_7
    have mr_9 := (hm_up_none mr_8).2
    exact ⟨mr_9, nr_b, nr_q1, nr_q2, nr_q3, nr_q4⟩
  have keep9 : ∀ a e, M9 a = some e → M44 a = some e := fun a e ha => by
    have a_b : a ≠ b := fun z => by rw [z, hb] at ha; cases ha
    have a_q1 : a ≠ q1 := fun z => by rw [z, m_q1] at ha; cases ha
    have a_q2 : a ≠ q2 := fun z => by rw [z, m_q2] at ha; cases ha
    have a_q3 : a ≠ q3 := fun z => by rw [z, m_q3] at ha; cases ha
    have a_q4 : a ≠ q4 := fun z => by rw [z, m_q4] at ha; cases ha
    refine hup a e ?_
    rw [hm_up_n a_b, hm_up_n a_q4, hm_up_n a_b, hm_up_n a_q3, hm_up_n a_b, hm_up_n a_q2, hm_up_n a_b, hm_up_n a_b, hm_up_n a_q1, hm_up_n a_b]
    exact ha
  have m_b : M9 b = none := hb
  refine hr_putF (ini := true) X kF5_31 dX5_init_48 k_b rfl rfl (Nat.le_of_ble_eq_true rfl) rfl ?_
  refine hr_aload_n X dX5_init_51 rfl (Or.inr ⟨_, rfl⟩) ?_
  refine hr_bipush (12) X dX5_init_52 (by decide) ?_
  refine hr_newa 0 .int 12 (12, .inl (fun _ => 0)) X dX5_init_54 rfl kA_int (fun _ => rfl) (by decide) (by decide) (by decide) ⟨(Nat.le_of_ble_eq_true rfl), (Nat.le_of_ble_eq_true rfl)⟩ hm_nuI (fun q6 hq_q6 => ?_)
  obtain ⟨n_q6_b, mm6⟩ := hm_up_none hq_q6
  have n_b_q6 := n_q6_b.symm
  have n_q1_q6 : q1 ≠ q6 := fun z => by rw [← z, k_q1] at mm6; cases mm6
  have n_q2_q6 : q2 ≠ q6 := fun z => by rw [← z, k_q2] at mm6; cases mm6
  have n_q3_q6 : q3 ≠ q6 := fun z => by rw [← z, k_q3] at mm6; cases mm6
  have n_q4_q6 : q4 ≠ q6 := fun z => by rw [← z, k_q4] at mm6; cases mm6
  have n_q5_q6 : q5 ≠ q6 := fun z => by rw [← z, k_q5] at mm6; cases mm6
  have nr_q6 : ∀ i, i < 12 → r i ≠ q6 := fun i hi z => by rw [← z, k_r i hi] at mm6; cases mm6
  have m_q6 : M9 q6 = none := by
    cases z : M9 q6 with
    | none => rfl
    | some e => have := keep9 _ _ z; rw [mm6] at this; cases this
  have n_q5_b2 := n_q5_b
  refine hr_putF (ini := true) X kF5_34 dX5_init_56 ((hm_up_n n_b_q6).trans hm_up_s) rfl rfl (Nat.le_of_ble_eq_true rfl) rfl ?_
  have hV0 : ca_V cA M9 b q1 q2 q3 q4 q5 q6 r 0 (hm_up (hm_up (hm_up M44 b (.inr (5, [.ref q1, .int 0, .ref q2, .ref q3, .ref q4, .ref q5, .null]))) q6 (cr_iw cA 0 12 (fun _ => 0))) b (.inr (5, [.ref q1, .int 0, .ref q2, .ref q3, .ref q4, .ref q5, .ref q6]))) := ⟨hm_up_s, ((hm_up_n n_q1_b).trans ((hm_up_n n_q1_q6).trans ((hm_up_n n_q1_b).trans k_q1))), (((hm_up_n n_q2_b).trans ((hm_up_n n_q2_q6).trans ((hm_up_n n_q2_b).trans k_q2)))).trans rfl, ((hm_up_n n_q3_b).trans ((hm_up_n n_q3_q6).trans ((hm_up_n n_q3_b).trans k_q3))), ((hm_up_n n_q4_b).trans ((hm_up_n n_q4_q6).trans ((hm_up_n n_q4_b).trans k_q4))), ((hm_up_n n_q5_b).trans ((hm_up_n n_q5_q6).trans ((hm_up_n n_q5_b).trans k_q5))), fun i hi => (hm_up_n (fr i hi).2.1).trans ((hm_up_n (nr_q6 i hi)).trans ((hm_up_n (fr i hi).2.1).trans (k_r i hi))), ((hm_up_n n_q6_b).trans hm_up_s), ⟨hb, m_q1, m_q2, m_q3, m_q4, m_q5, fun i hi => (fr i hi).1, m_q6⟩, hinj, n_q2_q3, fun a e ha => by
    have a_b : a ≠ b := fun z => by rw [z, hb] at ha; cases ha
    have a_q6 : a ≠ q6 := fun z => by rw [z, m_q6] at ha; cases ha
    rw [hm_up_n a_b, hm_up_n a_q6, hm_up_n a_b]
    exact keep9 a e ha⟩
  refine hr_widen (k2 := 18) (n2 := 643) (Nat.le_of_ble_eq_true rfl) (Nat.le_of_ble_eq_true rfl) ?_
  refine hr_iconst (0) X dX5_init_59 (by decide) ?_
  refine hr_istore_n X dX5_init_60 (Nat.le_of_ble_eq_true rfl) ?_
  have lp61 : ∀ (f : Nat) (n : Nat) (Mn : hm_M), ca_V cA M9 b q1 q2 q3 q4 q5 q6 r n Mn → n ≤ 4 → 4 < n + f → hm_W C 18 643 (hm_T C (fun v' M' => v' = none ∧ ∃ ad : Nat → Nat → Nat, ad 0 0 = b ∧ cr_R cA (sp_S0 4 320) (fun _ _ => 0) ad M9 M') r_X5_init.cells r_X5_init.slots) Mn 61 [some (.ref b), some (.int (nI n))] [] := by
    intro f
    induction f with
    | zero => intro n Mn hN h1 h2; exact absurd h2 (by omega)
    | succ f ih =>
      intro n Mn hN h1 h2
      refine hr_iload_n X dX5_init_61 rfl ?_
      refine hr_iconst (4) X dX5_init_62 (by decide) ?_
      refine hr_icmp_ge 80 X dX5_init_63 (by decide) (fun c63 => ?_) (fun c63 => ?_)
      · have hz : n = 4 := by have := (nI_leI (a := 4) (by decide) (by omega)).mp c63; omega
        subst hz
        refine hr_S0 hN (fun M80 hR => ?_)
        exact hr_vret X dX5_init_80 (Nat.le_of_ble_eq_true rfl) (Nat.le_of_ble_eq_true rfl) ⟨rfl, _, if_pos rfl, hR⟩
      · have hn : n < 4 := by
          rcases Nat.lt_or_ge n 4 with q | q
          · exact q
          · exact absurd (nI_le (by omega) (by omega)) c63
        refine hr_aload_n X dX5_init_66 rfl (Or.inr ⟨_, rfl⟩) ?_
        refine hr_get X kF5_19 dX5_init_67 hN.1 rfl ?_
        refine hr_iload_n X dX5_init_70 rfl ?_
        refine hr_bipush (100) X dX5_init_71 (by decide) ?_
        refine hr_iast X dX5_init_73 hN.2.2.1 (mm_in rfl (by omega) (by decide)).1 ?_
        rw [nI_clamp (by omega)]
        refine hr_iinc (1) X dX5_init_74 rfl (by decide) ?_
        refine hr_goto 61 X dX5_init_77 (by decide) ?_
        rw [nI_1]
        exact ih (n + 1) _ hN.step (by omega) (by omega)
  exact lp61 5 0 _ hV0 (by decide) (by decide)
