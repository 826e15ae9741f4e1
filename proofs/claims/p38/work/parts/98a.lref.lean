/-! the calls that throw, gone through -/
abbrev r_L_refuses : Room := { frames := 10, cells := 761, slots := 5061, locals := 260 }
set_option maxHeartbeats 4000000 in
set_option maxRecDepth 100000 in
theorem w_RF1 {C : hm_C} {nm : String} {Q : State → Prop} {cA : Nat → ClassId} {sg : mm_S} {N M : hm_M} {b nr cr m a : Nat} {lo g s p t v : Int32} (X : hm_X C RL cL_refuses 15 (some .boolean) nm r_L_refuses cA) (hI : sp_I sg) (hJ : sp_J sg) (ha : a < sp_n sg) (ha2 : a < 2) (hm : m < 9973) (hg : sp_in g 0 3 = false) (hs : sp_isS sg s = false) (hp : sp_in p 0 11 = false) (ht : sp_in t 0 4 = false) (hv : sp_isV sg (nI a) v = false) (hQ : ls_Q cA N b sg M) (kk : ∀ M9 : hm_M, ls_Q cA N b sg M9 → hm_W C 321 1981 Q M9 1111 [some (.ref b), some (.ref nr), some (.ref cr), some (.int (nI m)), some (.int (lo)), some (.int (g)), some (.int (s)), some (.int (p)), some (.int (t)), some (.int (nI a)), some (.int (v)), some (.int (nI 1)), none, none, none] []) : hm_W C 0 0 Q M 137 [some (.ref b), some (.ref nr), some (.ref cr), some (.int (nI m)), some (.int (lo)), some (.int (g)), some (.int (s)), some (.int (p)), some (.int (t)), some (.int (nI a)), some (.int (v)), none, none, none, none] [] := by
  refine hr_aload_n X (tL_at tL_refuses_1_ok 27 rfl) rfl (Or.inr ⟨_, rfl⟩) ?_
  refine hr_iload X (tL_at tL_refuses_1_ok 28 rfl) rfl ?_
  refine hr_iload X (tL_at tL_refuses_1_ok 29 rfl) rfl ?_
  refine hr_iconst (nI 0) X (tL_at tL_refuses_1_ok 30 rfl) (by decide) ?_
  refine hr_iconst (nI 0) X (tL_at tL_refuses_1_ok 31 rfl) (by decide) ?_
  refine hr_iconst (nI 0) X (tL_at tL_refuses_1_ok 32 rfl) (by decide) ?_
  refine hr_iconst (nI 0) X (tL_at tL_refuses_1_ok 33 rfl) (by decide) ?_
  refine hl_rs1 X kSL_numbers (tL_at tL_refuses_1_ok 34 rfl) (c_L_numbers cA hI hJ hQ g (nI a) (nI 0) (nI 0) (nI 0) (nI 0)) (lf_set1 (lf_n1 hg)) rfl rfl rfl (Nat.le_of_ble_eq_true rfl) 10 55 ⟨⟨(Nat.le_of_ble_eq_true rfl), (Nat.le_of_ble_eq_true rfl)⟩, (Nat.le_of_ble_eq_true rfl), (Nat.le_of_ble_eq_true rfl)⟩ (Nat.le_of_ble_eq_true rfl) (Nat.le_of_ble_eq_true rfl) (fun M1 hQ1 => ?_)
  refine hr_ldc lNI X (tL_at tL_refuses_1_ok 35 rfl) kKL_22 ?_
  refine hr_icmp_ne 526 X (tL_at tL_refuses_1_ok 36 rfl) (by decide) (fun c => absurd rfl c) (fun _ => ?_)
  refine hr_aload_n X (tL_at tL_refuses_1_ok 37 rfl) rfl (Or.inr ⟨_, rfl⟩) ?_
  refine hr_iconst (nI 0) X (tL_at tL_refuses_1_ok 38 rfl) (by decide) ?_
  refine hr_iload X (tL_at tL_refuses_1_ok 39 rfl) rfl ?_
  refine hr_iconst (nI 0) X (tL_at tL_refuses_1_ok 40 rfl) (by decide) ?_
  refine hr_iconst (nI 0) X (tL_at tL_refuses_1_ok 41 rfl) (by decide) ?_
  refine hr_iconst (nI 0) X (tL_at tL_refuses_1_ok 42 rfl) (by decide) ?_
  refine hr_iconst (nI 0) X (tL_at tL_refuses_1_ok 43 rfl) (by decide) ?_
  refine hl_rs1 X kSL_numbers (tL_at tL_refuses_1_ok 44 rfl) (c_L_numbers cA hI hJ hQ1 (nI 0) s (nI 0) (nI 0) (nI 0) (nI 0)) (lf_set1 (lf_n2 hs)) rfl rfl rfl (Nat.le_of_ble_eq_true rfl) 20 110 ⟨⟨(Nat.le_of_ble_eq_true rfl), (Nat.le_of_ble_eq_true rfl)⟩, (Nat.le_of_ble_eq_true rfl), (Nat.le_of_ble_eq_true rfl)⟩ (Nat.le_of_ble_eq_true rfl) (Nat.le_of_ble_eq_true rfl) (fun M2 hQ2 => ?_)
  refine hr_ldc lNI X (tL_at tL_refuses_1_ok 45 rfl) kKL_22 ?_
  refine hr_icmp_ne 526 X (tL_at tL_refuses_1_ok 46 rfl) (by decide) (fun c => absurd rfl c) (fun _ => ?_)
  refine hr_aload_n X (tL_at tL_refuses_1_ok 47 rfl) rfl (Or.inr ⟨_, rfl⟩) ?_
  refine hr_iconst (nI 0) X (tL_at tL_refuses_1_ok 48 rfl) (by decide) ?_
  refine hr_iload X (tL_at tL_refuses_1_ok 49 rfl) rfl ?_
  refine hr_iload X (tL_at tL_refuses_1_ok 50 rfl) rfl ?_
  refine hr_iconst (nI 0) X (tL_at tL_refuses_1_ok 51 rfl) (by decide) ?_
  refine hr_iconst (nI 0) X (tL_at tL_refuses_1_ok 52 rfl) (by decide) ?_
  refine hr_iconst (nI 0) X (tL_at tL_refuses_1_ok 53 rfl) (by decide) ?_
  refine hl_rs1 X kSL_numbers (tL_at tL_refuses_1_ok 54 rfl) (c_L_numbers cA hI hJ hQ2 (nI 0) (nI a) t (nI 0) (nI 0) (nI 0)) (lf_set1 (lf_n3 ht)) rfl rfl rfl (Nat.le_of_ble_eq_true rfl) 30 165 ⟨⟨(Nat.le_of_ble_eq_true rfl), (Nat.le_of_ble_eq_true rfl)⟩, (Nat.le_of_ble_eq_true rfl), (Nat.le_of_ble_eq_true rfl)⟩ (Nat.le_of_ble_eq_true rfl) (Nat.le_of_ble_eq_true rfl) (fun M3 hQ3 => ?_)
  refine hr_ldc lNI X (tL_at tL_refuses_1_ok 55 rfl) kKL_22 ?_
  refine hr_icmp_ne 526 X (tL_at tL_refuses_1_ok 56 rfl) (by decide) (fun c => absurd rfl c) (fun _ => ?_)
  refine hr_aload_n X (tL_at tL_refuses_1_ok 57 rfl) rfl (Or.inr ⟨_, rfl⟩) ?_
  refine hr_iload_n X (tL_at tL_refuses_1_ok 58 rfl) rfl ?_
  refine hr_iconst (nI 4) X (tL_at tL_refuses_1_ok 59 rfl) (by decide) ?_
  refine hl_irem X (tL_at tL_refuses_2_ok 0 rfl) (by omega) (by decide) (by decide) ?_
  refine hr_iload X (tL_at tL_refuses_2_ok 1 rfl) rfl ?_
  refine hr_iload_n X (tL_at tL_refuses_2_ok 2 rfl) rfl ?_
  refine hr_iconst (nI 5) X (tL_at tL_refuses_2_ok 3 rfl) (by decide) ?_
  refine hl_irem X (tL_at tL_refuses_2_ok 4 rfl) (by omega) (by decide) (by decide) ?_
  refine hr_bipush (nI 11) X (tL_at tL_refuses_2_ok 5 rfl) (by decide) ?_
  refine hr_iload_n X (tL_at tL_refuses_2_ok 6 rfl) rfl ?_
  refine hl_iadd X (tL_at tL_refuses_2_ok 7 rfl) ?_
  refine hr_iconst (nI 0) X (tL_at tL_refuses_2_ok 8 rfl) (by decide) ?_
  refine hr_iconst (nI 0) X (tL_at tL_refuses_2_ok 9 rfl) (by decide) ?_
  refine hl_rs2 X kSL_numbers (tL_at tL_refuses_2_ok 10 rfl) (c_L_numbers cA hI hJ hQ3 (nI (m % 4)) (nI a) (nI (m % 5)) (nI (11 + m)) (nI 0) (nI 0)) (lf_set2 (lf_nT hI ha (Nat.mod_lt _ (by decide)) (Nat.mod_lt _ (by decide))) (lf_aN1 (lf_hi (b := 10) (by omega) (by omega) 1))) rfl rfl rfl (Nat.le_of_ble_eq_true rfl) 40 220 ⟨⟨(Nat.le_of_ble_eq_true rfl), (Nat.le_of_ble_eq_true rfl)⟩, (Nat.le_of_ble_eq_true rfl), (Nat.le_of_ble_eq_true rfl)⟩ (Nat.le_of_ble_eq_true rfl) (Nat.le_of_ble_eq_true rfl) (fun M4 hQ4 => ?_)
  refine hr_ldc lNA X (tL_at tL_refuses_2_ok 11 rfl) kKL_25 ?_
  refine hr_icmp_ne 526 X (tL_at tL_refuses_2_ok 12 rfl) (by decide) (fun c => absurd rfl c) (fun _ => ?_)
  refine hr_aload_n X (tL_at tL_refuses_2_ok 13 rfl) rfl (Or.inr ⟨_, rfl⟩) ?_
  refine hr_iload_n X (tL_at tL_refuses_2_ok 14 rfl) rfl ?_
  refine hr_iconst (nI 4) X (tL_at tL_refuses_2_ok 15 rfl) (by decide) ?_
  refine hl_irem X (tL_at tL_refuses_2_ok 16 rfl) (by omega) (by decide) (by decide) ?_
  refine hr_iload X (tL_at tL_refuses_2_ok 17 rfl) rfl ?_
  refine hr_iload_n X (tL_at tL_refuses_2_ok 18 rfl) rfl ?_
  refine hr_iconst (nI 5) X (tL_at tL_refuses_2_ok 19 rfl) (by decide) ?_
  refine hl_irem X (tL_at tL_refuses_2_ok 20 rfl) (by omega) (by decide) (by decide) ?_
  refine hr_iconst (nI 1) X (tL_at tL_refuses_2_ok 21 rfl) (by decide) ?_
  refine hr_sipush (nI 1001) X (tL_at tL_refuses_2_ok 22 rfl) (by decide) ?_
  refine hr_iload_n X (tL_at tL_refuses_2_ok 23 rfl) rfl ?_
  refine hl_iadd X (tL_at tL_refuses_2_ok 24 rfl) ?_
  refine hr_iconst (nI 0) X (tL_at tL_refuses_2_ok 25 rfl) (by decide) ?_
  refine hl_rs2 X kSL_numbers (tL_at tL_refuses_2_ok 26 rfl) (c_L_numbers cA hI hJ hQ4 (nI (m % 4)) (nI a) (nI (m % 5)) (nI 1) (nI (1001 + m)) (nI 0)) (lf_set2 (lf_nT hI ha (Nat.mod_lt _ (by decide)) (Nat.mod_lt _ (by decide))) (lf_aN2 (lf_hi (b := 1000) (by omega) (by omega) (-1000)))) rfl rfl rfl (Nat.le_of_ble_eq_true rfl) 50 275 ⟨⟨(Nat.le_of_ble_eq_true rfl), (Nat.le_of_ble_eq_true rfl)⟩, (Nat.le_of_ble_eq_true rfl), (Nat.le_of_ble_eq_true rfl)⟩ (Nat.le_of_ble_eq_true rfl) (Nat.le_of_ble_eq_true rfl) (fun M5 hQ5 => ?_)
  refine hr_ldc lNA X (tL_at tL_refuses_2_ok 27 rfl) kKL_25 ?_
  refine hr_icmp_ne 526 X (tL_at tL_refuses_2_ok 28 rfl) (by decide) (fun c => absurd rfl c) (fun _ => ?_)
  refine hr_aload_n X (tL_at tL_refuses_2_ok 29 rfl) rfl (Or.inr ⟨_, rfl⟩) ?_
  refine hr_iload_n X (tL_at tL_refuses_2_ok 30 rfl) rfl ?_
  refine hr_iconst (nI 4) X (tL_at tL_refuses_2_ok 31 rfl) (by decide) ?_
  refine hl_irem X (tL_at tL_refuses_2_ok 32 rfl) (by omega) (by decide) (by decide) ?_
  refine hr_iload X (tL_at tL_refuses_2_ok 33 rfl) rfl ?_
  refine hr_iload_n X (tL_at tL_refuses_2_ok 34 rfl) rfl ?_
  refine hr_iconst (nI 5) X (tL_at tL_refuses_2_ok 35 rfl) (by decide) ?_
  refine hl_irem X (tL_at tL_refuses_2_ok 36 rfl) (by omega) (by decide) (by decide) ?_
  refine hr_iconst (nI 1) X (tL_at tL_refuses_2_ok 37 rfl) (by decide) ?_
  refine hr_iconst (nI 0) X (tL_at tL_refuses_2_ok 38 rfl) (by decide) ?_
  refine hr_bipush (nI 101) X (tL_at tL_refuses_2_ok 39 rfl) (by decide) ?_
  refine hr_iload_n X (tL_at tL_refuses_2_ok 40 rfl) rfl ?_
  refine hl_iadd X (tL_at tL_refuses_2_ok 41 rfl) ?_
  refine hl_rs2 X kSL_numbers (tL_at tL_refuses_2_ok 42 rfl) (c_L_numbers cA hI hJ hQ5 (nI (m % 4)) (nI a) (nI (m % 5)) (nI 1) (nI 0) (nI (101 + m))) (lf_set2 (lf_nT hI ha (Nat.mod_lt _ (by decide)) (Nat.mod_lt _ (by decide))) (lf_aN3 (lf_hi (b := 100) (by omega) (by omega) 0))) rfl rfl rfl (Nat.le_of_ble_eq_true rfl) 60 330 ⟨⟨(Nat.le_of_ble_eq_true rfl), (Nat.le_of_ble_eq_true rfl)⟩, (Nat.le_of_ble_eq_true rfl), (Nat.le_of_ble_eq_true rfl)⟩ (Nat.le_of_ble_eq_true rfl) (Nat.le_of_ble_eq_true rfl) (fun M6 hQ6 => ?_)
  refine hr_ldc lNA X (tL_at tL_refuses_2_ok 43 rfl) kKL_25 ?_
  refine hr_icmp_ne 526 X (tL_at tL_refuses_2_ok 44 rfl) (by decide) (fun c => absurd rfl c) (fun _ => ?_)
  refine hr_aload_n X (tL_at tL_refuses_2_ok 45 rfl) rfl (Or.inr ⟨_, rfl⟩) ?_
  refine hr_iload_n X (tL_at tL_refuses_2_ok 46 rfl) rfl ?_
  refine hr_iconst (nI 4) X (tL_at tL_refuses_2_ok 47 rfl) (by decide) ?_
  refine hl_irem X (tL_at tL_refuses_2_ok 48 rfl) (by omega) (by decide) (by decide) ?_
  refine hr_iload X (tL_at tL_refuses_2_ok 49 rfl) rfl ?_
  refine hr_iload_n X (tL_at tL_refuses_2_ok 50 rfl) rfl ?_
  refine hr_iconst (nI 5) X (tL_at tL_refuses_2_ok 51 rfl) (by decide) ?_
  refine hl_irem X (tL_at tL_refuses_2_ok 52 rfl) (by omega) (by decide) (by decide) ?_
  refine hr_iconst (nI 1) X (tL_at tL_refuses_2_ok 53 rfl) (by decide) ?_
  refine hr_iconst (nI 0) X (tL_at tL_refuses_2_ok 54 rfl) (by decide) ?_
  refine hr_iconst ((-1)) X (tL_at tL_refuses_2_ok 55 rfl) (by decide) ?_
  refine hr_iload_n X (tL_at tL_refuses_2_ok 56 rfl) rfl ?_
  refine hr_isub X (tL_at tL_refuses_2_ok 57 rfl) ?_
  refine hl_rs2 X kSL_numbers (tL_at tL_refuses_2_ok 58 rfl) (c_L_numbers cA hI hJ hQ6 (nI (m % 4)) (nI a) (nI (m % 5)) (nI 1) (nI 0) ((((-1)) - (nI m)))) (lf_set2 (lf_nT hI ha (Nat.mod_lt _ (by decide)) (Nat.mod_lt _ (by decide))) (lf_aN3 (lf_lo (by omega) 100))) rfl rfl rfl (Nat.le_of_ble_eq_true rfl) 70 385 ⟨⟨(Nat.le_of_ble_eq_true rfl), (Nat.le_of_ble_eq_true rfl)⟩, (Nat.le_of_ble_eq_true rfl), (Nat.le_of_ble_eq_true rfl)⟩ (Nat.le_of_ble_eq_true rfl) (Nat.le_of_ble_eq_true rfl) (fun M7 hQ7 => ?_)
  refine hr_ldc lNA X (tL_at tL_refuses_2_ok 59 rfl) kKL_25 ?_
  refine hr_icmp_ne 526 X (tL_at tL_refuses_3_ok 0 rfl) (by decide) (fun c => absurd rfl c) (fun _ => ?_)
  refine hr_aload_n X (tL_at tL_refuses_3_ok 1 rfl) rfl (Or.inr ⟨_, rfl⟩) ?_
  refine hr_iload X (tL_at tL_refuses_3_ok 2 rfl) rfl ?_
  refine hr_iload X (tL_at tL_refuses_3_ok 3 rfl) rfl ?_
  refine hr_iconst (nI 0) X (tL_at tL_refuses_3_ok 4 rfl) (by decide) ?_
  refine hr_iconst (nI 1) X (tL_at tL_refuses_3_ok 5 rfl) (by decide) ?_
  refine hr_bipush (nI 32) X (tL_at tL_refuses_3_ok 6 rfl) (by decide) ?_
  refine hl_rs1 X kSL_choices (tL_at tL_refuses_3_ok 7 rfl) (c_L_choices cA hI hJ hQ7 g (nI a) (nI 0) (nI 1) (nI 32)) (lf_set1 (lf_n1 hg)) rfl rfl rfl (Nat.le_of_ble_eq_true rfl) 79 434 ⟨⟨(Nat.le_of_ble_eq_true rfl), (Nat.le_of_ble_eq_true rfl)⟩, (Nat.le_of_ble_eq_true rfl), (Nat.le_of_ble_eq_true rfl)⟩ (Nat.le_of_ble_eq_true rfl) (Nat.le_of_ble_eq_true rfl) (fun M8 hQ8 => ?_)
  refine hr_ldc lNI X (tL_at tL_refuses_3_ok 8 rfl) kKL_22 ?_
  refine hr_icmp_ne 526 X (tL_at tL_refuses_3_ok 9 rfl) (by decide) (fun c => absurd rfl c) (fun _ => ?_)
  refine hr_aload_n X (tL_at tL_refuses_3_ok 10 rfl) rfl (Or.inr ⟨_, rfl⟩) ?_
  refine hr_iload_n X (tL_at tL_refuses_3_ok 11 rfl) rfl ?_
  refine hr_iconst (nI 4) X (tL_at tL_refuses_3_ok 12 rfl) (by decide) ?_
  refine hl_irem X (tL_at tL_refuses_3_ok 13 rfl) (by omega) (by decide) (by decide) ?_
  refine hr_iload X (tL_at tL_refuses_3_ok 14 rfl) rfl ?_
  refine hr_iload_n X (tL_at tL_refuses_3_ok 15 rfl) rfl ?_
  refine hr_iconst (nI 5) X (tL_at tL_refuses_3_ok 16 rfl) (by decide) ?_
  refine hl_irem X (tL_at tL_refuses_3_ok 17 rfl) (by omega) (by decide) (by decide) ?_
  refine hr_iconst (nI 1) X (tL_at tL_refuses_3_ok 18 rfl) (by decide) ?_
  refine hr_bipush (nI 32) X (tL_at tL_refuses_3_ok 19 rfl) (by decide) ?_
  refine hr_iload_n X (tL_at tL_refuses_3_ok 20 rfl) rfl ?_
  refine hl_iadd X (tL_at tL_refuses_3_ok 21 rfl) ?_
  refine hl_rs2 X kSL_choices (tL_at tL_refuses_3_ok 22 rfl) (c_L_choices cA hI hJ hQ8 (nI (m % 4)) (nI a) (nI (m % 5)) (nI 1) (nI (32 + m))) (lf_set2 (lf_nT hI ha (Nat.mod_lt _ (by decide)) (Nat.mod_lt _ (by decide))) (lf_aC2 (lf_hi (b := 31) (by omega) (by omega) 0))) rfl rfl rfl (Nat.le_of_ble_eq_true rfl) 88 483 ⟨⟨(Nat.le_of_ble_eq_true rfl), (Nat.le_of_ble_eq_true rfl)⟩, (Nat.le_of_ble_eq_true rfl), (Nat.le_of_ble_eq_true rfl)⟩ (Nat.le_of_ble_eq_true rfl) (Nat.le_of_ble_eq_true rfl) (fun M9 hQ9 => ?_)
  refine hr_ldc lNA X (tL_at tL_refuses_3_ok 23 rfl) kKL_25 ?_
  refine hr_icmp_ne 526 X (tL_at tL_refuses_3_ok 24 rfl) (by decide) (fun c => absurd rfl c) (fun _ => ?_)
  refine hr_aload_n X (tL_at tL_refuses_3_ok 25 rfl) rfl (Or.inr ⟨_, rfl⟩) ?_
  refine hr_iload_n X (tL_at tL_refuses_3_ok 26 rfl) rfl ?_
  refine hr_iconst (nI 4) X (tL_at tL_refuses_3_ok 27 rfl) (by decide) ?_
  refine hl_irem X (tL_at tL_refuses_3_ok 28 rfl) (by omega) (by decide) (by decide) ?_
  refine hr_iload X (tL_at tL_refuses_3_ok 29 rfl) rfl ?_
  refine hr_iload_n X (tL_at tL_refuses_3_ok 30 rfl) rfl ?_
  refine hr_iconst (nI 5) X (tL_at tL_refuses_3_ok 31 rfl) (by decide) ?_
  refine hl_irem X (tL_at tL_refuses_3_ok 32 rfl) (by omega) (by decide) (by decide) ?_
  refine hr_iload_n X (tL_at tL_refuses_3_ok 33 rfl) rfl ?_
  refine hr_ineg X (tL_at tL_refuses_3_ok 34 rfl) ?_
  refine hr_iconst (nI 0) X (tL_at tL_refuses_3_ok 35 rfl) (by decide) ?_
  refine hl_rs2 X kSL_choices (tL_at tL_refuses_3_ok 36 rfl) (c_L_choices cA hI hJ hQ9 (nI (m % 4)) (nI a) (nI (m % 5)) ((-(nI m))) (nI 0)) (lf_set2 (lf_nT hI ha (Nat.mod_lt _ (by decide)) (Nat.mod_lt _ (by decide))) (lf_aC1 (lf_lo1 (by omega) 10))) rfl rfl rfl (Nat.le_of_ble_eq_true rfl) 97 532 ⟨⟨(Nat.le_of_ble_eq_true rfl), (Nat.le_of_ble_eq_true rfl)⟩, (Nat.le_of_ble_eq_true rfl), (Nat.le_of_ble_eq_true rfl)⟩ (Nat.le_of_ble_eq_true rfl) (Nat.le_of_ble_eq_true rfl) (fun M10 hQ10 => ?_)
  refine hr_ldc lNA X (tL_at tL_refuses_3_ok 37 rfl) kKL_25 ?_
  refine hr_icmp_ne 526 X (tL_at tL_refuses_3_ok 38 rfl) (by decide) (fun c => absurd rfl c) (fun _ => ?_)
  refine hr_aload_n X (tL_at tL_refuses_3_ok 39 rfl) rfl (Or.inr ⟨_, rfl⟩) ?_
  refine hr_iconst (nI 0) X (tL_at tL_refuses_3_ok 40 rfl) (by decide) ?_
  refine hr_iload X (tL_at tL_refuses_3_ok 41 rfl) rfl ?_
  refine hr_iload X (tL_at tL_refuses_3_ok 42 rfl) rfl ?_
  refine hr_iconst (nI 1) X (tL_at tL_refuses_3_ok 43 rfl) (by decide) ?_
  refine hr_iconst (nI 0) X (tL_at tL_refuses_3_ok 44 rfl) (by decide) ?_
  refine hl_rs1 X kSL_words (tL_at tL_refuses_3_ok 45 rfl) (c_L_words cA hI hJ hQ10 (nI 0) (nI a) t (nI 1) (nI 0)) (lf_set1 (lf_n3 ht)) rfl rfl rfl (Nat.le_of_ble_eq_true rfl) 106 581 ⟨⟨(Nat.le_of_ble_eq_true rfl), (Nat.le_of_ble_eq_true rfl)⟩, (Nat.le_of_ble_eq_true rfl), (Nat.le_of_ble_eq_true rfl)⟩ (Nat.le_of_ble_eq_true rfl) (Nat.le_of_ble_eq_true rfl) (fun M11 hQ11 => ?_)
  refine hr_ldc lNI X (tL_at tL_refuses_3_ok 46 rfl) kKL_22 ?_
  refine hr_icmp_ne 526 X (tL_at tL_refuses_3_ok 47 rfl) (by decide) (fun c => absurd rfl c) (fun _ => ?_)
  refine hr_aload_n X (tL_at tL_refuses_3_ok 48 rfl) rfl (Or.inr ⟨_, rfl⟩) ?_
  refine hr_iload_n X (tL_at tL_refuses_3_ok 49 rfl) rfl ?_
  refine hr_iconst (nI 4) X (tL_at tL_refuses_3_ok 50 rfl) (by decide) ?_
  refine hl_irem X (tL_at tL_refuses_3_ok 51 rfl) (by omega) (by decide) (by decide) ?_
  refine hr_iload X (tL_at tL_refuses_3_ok 52 rfl) rfl ?_
  refine hr_iload_n X (tL_at tL_refuses_3_ok 53 rfl) rfl ?_
  refine hr_iconst (nI 5) X (tL_at tL_refuses_3_ok 54 rfl) (by decide) ?_
  refine hl_irem X (tL_at tL_refuses_3_ok 55 rfl) (by omega) (by decide) (by decide) ?_
  refine hr_iconst (nI 1) X (tL_at tL_refuses_3_ok 56 rfl) (by decide) ?_
  refine hr_bipush (nI 32) X (tL_at tL_refuses_3_ok 57 rfl) (by decide) ?_
  refine hr_iconst (nI 1) X (tL_at tL_refuses_3_ok 58 rfl) (by decide) ?_
  refine hr_iload_n X (tL_at tL_refuses_3_ok 59 rfl) rfl ?_
  refine hr_bipush (nI 31) X (tL_at tL_refuses_4_ok 0 rfl) (by decide) ?_
  refine hl_irem X (tL_at tL_refuses_4_ok 1 rfl) (by omega) (by decide) (by decide) ?_
  refine hl_iadd X (tL_at tL_refuses_4_ok 2 rfl) ?_
  refine hl_imul X (tL_at tL_refuses_4_ok 3 rfl) ?_
  refine hl_rs2 X kSL_words (tL_at tL_refuses_4_ok 4 rfl) (c_L_words cA hI hJ hQ11 (nI (m % 4)) (nI a) (nI (m % 5)) (nI 1) (nI (32 * (1 + (m % 31))))) (lf_set2 (lf_nT hI ha (Nat.mod_lt _ (by decide)) (Nat.mod_lt _ (by decide))) (lf_aW2 (lf_row32 _ (Nat.mod_lt _ (by decide))))) rfl rfl rfl (Nat.le_of_ble_eq_true rfl) 115 630 ⟨⟨(Nat.le_of_ble_eq_true rfl), (Nat.le_of_ble_eq_true rfl)⟩, (Nat.le_of_ble_eq_true rfl), (Nat.le_of_ble_eq_true rfl)⟩ (Nat.le_of_ble_eq_true rfl) (Nat.le_of_ble_eq_true rfl) (fun M12 hQ12 => ?_)
  refine hr_ldc lNA X (tL_at tL_refuses_4_ok 5 rfl) kKL_25 ?_
  refine hr_icmp_ne 526 X (tL_at tL_refuses_4_ok 6 rfl) (by decide) (fun c => absurd rfl c) (fun _ => ?_)
  refine hr_aload_n X (tL_at tL_refuses_4_ok 7 rfl) rfl (Or.inr ⟨_, rfl⟩) ?_
  refine hr_iload_n X (tL_at tL_refuses_4_ok 8 rfl) rfl ?_
  refine hr_iconst (nI 4) X (tL_at tL_refuses_4_ok 9 rfl) (by decide) ?_
  refine hl_irem X (tL_at tL_refuses_4_ok 10 rfl) (by omega) (by decide) (by decide) ?_
  refine hr_iload X (tL_at tL_refuses_4_ok 11 rfl) rfl ?_
  refine hr_iload_n X (tL_at tL_refuses_4_ok 12 rfl) rfl ?_
  refine hr_iconst (nI 5) X (tL_at tL_refuses_4_ok 13 rfl) (by decide) ?_
  refine hl_irem X (tL_at tL_refuses_4_ok 14 rfl) (by omega) (by decide) (by decide) ?_
  refine hr_iconst (nI 1) X (tL_at tL_refuses_4_ok 15 rfl) (by decide) ?_
  refine hr_iconst (nI 0) X (tL_at tL_refuses_4_ok 16 rfl) (by decide) ?_
  refine hl_rs2 X kSL_words (tL_at tL_refuses_4_ok 17 rfl) (c_L_words cA hI hJ hQ12 (nI (m % 4)) (nI a) (nI (m % 5)) (nI 1) (nI 0)) (lf_set2 (lf_nT hI ha (Nat.mod_lt _ (by decide)) (Nat.mod_lt _ (by decide))) (lf_aW2 lf_row0)) rfl rfl rfl (Nat.le_of_ble_eq_true rfl) 124 679 ⟨⟨(Nat.le_of_ble_eq_true rfl), (Nat.le_of_ble_eq_true rfl)⟩, (Nat.le_of_ble_eq_true rfl), (Nat.le_of_ble_eq_true rfl)⟩ (Nat.le_of_ble_eq_true rfl) (Nat.le_of_ble_eq_true rfl) (fun M13 hQ13 => ?_)
  refine hr_ldc lNA X (tL_at tL_refuses_4_ok 18 rfl) kKL_25 ?_
  refine hr_icmp_ne 526 X (tL_at tL_refuses_4_ok 19 rfl) (by decide) (fun c => absurd rfl c) (fun _ => ?_)
  refine hr_aload_n X (tL_at tL_refuses_4_ok 20 rfl) rfl (Or.inr ⟨_, rfl⟩) ?_
  refine hr_iload_n X (tL_at tL_refuses_4_ok 21 rfl) rfl ?_
  refine hr_iconst (nI 4) X (tL_at tL_refuses_4_ok 22 rfl) (by decide) ?_
  refine hl_irem X (tL_at tL_refuses_4_ok 23 rfl) (by omega) (by decide) (by decide) ?_
  refine hr_iload X (tL_at tL_refuses_4_ok 24 rfl) rfl ?_
  refine hr_iload_n X (tL_at tL_refuses_4_ok 25 rfl) rfl ?_
  refine hr_iconst (nI 5) X (tL_at tL_refuses_4_ok 26 rfl) (by decide) ?_
  refine hl_irem X (tL_at tL_refuses_4_ok 27 rfl) (by omega) (by decide) (by decide) ?_
  refine hr_iconst (nI 1) X (tL_at tL_refuses_4_ok 28 rfl) (by decide) ?_
  refine hr_iconst ((-1)) X (tL_at tL_refuses_4_ok 29 rfl) (by decide) ?_
  refine hr_iload_n X (tL_at tL_refuses_4_ok 30 rfl) rfl ?_
  refine hr_isub X (tL_at tL_refuses_4_ok 31 rfl) ?_
  refine hl_rs2 X kSL_words (tL_at tL_refuses_4_ok 32 rfl) (c_L_words cA hI hJ hQ13 (nI (m % 4)) (nI a) (nI (m % 5)) (nI 1) ((((-1)) - (nI m)))) (lf_set2 (lf_nT hI ha (Nat.mod_lt _ (by decide)) (Nat.mod_lt _ (by decide))) (lf_aW2 (lf_rowM (lf_neg (by omega))))) rfl rfl rfl (Nat.le_of_ble_eq_true rfl) 133 728 ⟨⟨(Nat.le_of_ble_eq_true rfl), (Nat.le_of_ble_eq_true rfl)⟩, (Nat.le_of_ble_eq_true rfl), (Nat.le_of_ble_eq_true rfl)⟩ (Nat.le_of_ble_eq_true rfl) (Nat.le_of_ble_eq_true rfl) (fun M14 hQ14 => ?_)
  refine hr_ldc lNA X (tL_at tL_refuses_4_ok 33 rfl) kKL_25 ?_
  refine hr_icmp_ne 526 X (tL_at tL_refuses_4_ok 34 rfl) (by decide) (fun c => absurd rfl c) (fun _ => ?_)
  refine hr_aload_n X (tL_at tL_refuses_4_ok 35 rfl) rfl (Or.inr ⟨_, rfl⟩) ?_
  refine hr_iload_n X (tL_at tL_refuses_4_ok 36 rfl) rfl ?_
  refine hr_iconst (nI 4) X (tL_at tL_refuses_4_ok 37 rfl) (by decide) ?_
  refine hl_irem X (tL_at tL_refuses_4_ok 38 rfl) (by omega) (by decide) (by decide) ?_
  refine hr_iload X (tL_at tL_refuses_4_ok 39 rfl) rfl ?_
  refine hr_iload_n X (tL_at tL_refuses_4_ok 40 rfl) rfl ?_
  refine hr_iconst (nI 5) X (tL_at tL_refuses_4_ok 41 rfl) (by decide) ?_
  refine hl_irem X (tL_at tL_refuses_4_ok 42 rfl) (by omega) (by decide) (by decide) ?_
  refine hr_bipush (nI 11) X (tL_at tL_refuses_4_ok 43 rfl) (by decide) ?_
  refine hr_iconst (nI 1) X (tL_at tL_refuses_4_ok 44 rfl) (by decide) ?_
  refine hl_rs2 X kSL_words (tL_at tL_refuses_4_ok 45 rfl) (c_L_words cA hI hJ hQ14 (nI (m % 4)) (nI a) (nI (m % 5)) (nI 11) (nI 1)) (lf_set2 (lf_nT hI ha (Nat.mod_lt _ (by decide)) (Nat.mod_lt _ (by decide))) (lf_aW1 (lf_hi (b := 10) (by omega) (by omega) 1))) rfl rfl rfl (Nat.le_of_ble_eq_true rfl) 142 777 ⟨⟨(Nat.le_of_ble_eq_true rfl), (Nat.le_of_ble_eq_true rfl)⟩, (Nat.le_of_ble_eq_true rfl), (Nat.le_of_ble_eq_true rfl)⟩ (Nat.le_of_ble_eq_true rfl) (Nat.le_of_ble_eq_true rfl) (fun M15 hQ15 => ?_)
  refine hr_ldc lNA X (tL_at tL_refuses_4_ok 46 rfl) kKL_25 ?_
  refine hr_icmp_ne 526 X (tL_at tL_refuses_4_ok 47 rfl) (by decide) (fun c => absurd rfl c) (fun _ => ?_)
  refine hr_aload_n X (tL_at tL_refuses_4_ok 48 rfl) rfl (Or.inr ⟨_, rfl⟩) ?_
  refine hr_iload X (tL_at tL_refuses_4_ok 49 rfl) rfl ?_
  refine hr_iload X (tL_at tL_refuses_4_ok 50 rfl) rfl ?_
  refine hr_iconst (nI 0) X (tL_at tL_refuses_4_ok 51 rfl) (by decide) ?_
  refine hl_rs1 X kSL_drops (tL_at tL_refuses_4_ok 52 rfl) (c_L_drops cA hI hJ hQ15 g (nI a) (nI 0)) (lf_drop1 (lf_n1 hg)) rfl rfl rfl (Nat.le_of_ble_eq_true rfl) 150 820 ⟨⟨(Nat.le_of_ble_eq_true rfl), (Nat.le_of_ble_eq_true rfl)⟩, (Nat.le_of_ble_eq_true rfl), (Nat.le_of_ble_eq_true rfl)⟩ (Nat.le_of_ble_eq_true rfl) (Nat.le_of_ble_eq_true rfl) (fun M16 hQ16 => ?_)
  refine hr_ldc lNI X (tL_at tL_refuses_4_ok 53 rfl) kKL_22 ?_
  refine hr_icmp_ne 526 X (tL_at tL_refuses_4_ok 54 rfl) (by decide) (fun c => absurd rfl c) (fun _ => ?_)
  refine hr_aload_n X (tL_at tL_refuses_4_ok 55 rfl) rfl (Or.inr ⟨_, rfl⟩) ?_
  refine hr_iconst (nI 0) X (tL_at tL_refuses_4_ok 56 rfl) (by decide) ?_
  refine hr_iload X (tL_at tL_refuses_4_ok 57 rfl) rfl ?_
  refine hr_iload X (tL_at tL_refuses_4_ok 58 rfl) rfl ?_
  refine hl_rs1 X kSL_drops (tL_at tL_refuses_4_ok 59 rfl) (c_L_drops cA hI hJ hQ16 (nI 0) (nI a) t) (lf_drop1 (lf_n3 ht)) rfl rfl rfl (Nat.le_of_ble_eq_true rfl) 158 863 ⟨⟨(Nat.le_of_ble_eq_true rfl), (Nat.le_of_ble_eq_true rfl)⟩, (Nat.le_of_ble_eq_true rfl), (Nat.le_of_ble_eq_true rfl)⟩ (Nat.le_of_ble_eq_true rfl) (Nat.le_of_ble_eq_true rfl) (fun M17 hQ17 => ?_)
  refine hr_ldc lNI X (tL_at tL_refuses_5_ok 0 rfl) kKL_22 ?_
  refine hr_icmp_ne 526 X (tL_at tL_refuses_5_ok 1 rfl) (by decide) (fun c => absurd rfl c) (fun _ => ?_)
  refine hr_aload_n X (tL_at tL_refuses_5_ok 2 rfl) rfl (Or.inr ⟨_, rfl⟩) ?_
  refine hr_iload X (tL_at tL_refuses_5_ok 3 rfl) rfl ?_
  refine hr_iload X (tL_at tL_refuses_5_ok 4 rfl) rfl ?_
  refine hr_iconst (nI 0) X (tL_at tL_refuses_5_ok 5 rfl) (by decide) ?_
  refine hl_rs1 X kSL_adopts (tL_at tL_refuses_5_ok 6 rfl) (c_L_adopts cA hI hJ hQ17 g (nI a) (nI 0)) (lf_ado1 hg) rfl rfl rfl (Nat.le_of_ble_eq_true rfl) 161 881 ⟨⟨(Nat.le_of_ble_eq_true rfl), (Nat.le_of_ble_eq_true rfl)⟩, (Nat.le_of_ble_eq_true rfl), (Nat.le_of_ble_eq_true rfl)⟩ (Nat.le_of_ble_eq_true rfl) (Nat.le_of_ble_eq_true rfl) (fun M18 hQ18 => ?_)
  refine hr_ldc lNI X (tL_at tL_refuses_5_ok 7 rfl) kKL_22 ?_
  refine hr_icmp_ne 526 X (tL_at tL_refuses_5_ok 8 rfl) (by decide) (fun c => absurd rfl c) (fun _ => ?_)
  refine hr_aload_n X (tL_at tL_refuses_5_ok 9 rfl) rfl (Or.inr ⟨_, rfl⟩) ?_
  refine hr_iconst (nI 0) X (tL_at tL_refuses_5_ok 10 rfl) (by decide) ?_
  refine hr_iload X (tL_at tL_refuses_5_ok 11 rfl) rfl ?_
  refine hr_iload X (tL_at tL_refuses_5_ok 12 rfl) rfl ?_
  refine hl_rs1 X kSL_adopts (tL_at tL_refuses_5_ok 13 rfl) (c_L_adopts cA hI hJ hQ18 (nI 0) (nI a) v) (lf_ado2 hv) rfl rfl rfl (Nat.le_of_ble_eq_true rfl) 164 899 ⟨⟨(Nat.le_of_ble_eq_true rfl), (Nat.le_of_ble_eq_true rfl)⟩, (Nat.le_of_ble_eq_true rfl), (Nat.le_of_ble_eq_true rfl)⟩ (Nat.le_of_ble_eq_true rfl) (Nat.le_of_ble_eq_true rfl) (fun M19 hQ19 => ?_)
  refine hr_ldc lNI X (tL_at tL_refuses_5_ok 14 rfl) kKL_22 ?_
  refine hr_icmp_ne 526 X (tL_at tL_refuses_5_ok 15 rfl) (by decide) (fun c => absurd rfl c) (fun _ => ?_)
  refine hr_aload_n X (tL_at tL_refuses_5_ok 16 rfl) rfl (Or.inr ⟨_, rfl⟩) ?_
  refine hr_iload X (tL_at tL_refuses_5_ok 17 rfl) rfl ?_
  refine hr_iload X (tL_at tL_refuses_5_ok 18 rfl) rfl ?_
  refine hl_rs1 X kSL_folds (tL_at tL_refuses_5_ok 19 rfl) (c_L_folds cA hI hJ hQ19 (nI a) v) (lf_fold1 hv) rfl rfl rfl (Nat.le_of_ble_eq_true rfl) 167 917 ⟨⟨(Nat.le_of_ble_eq_true rfl), (Nat.le_of_ble_eq_true rfl)⟩, (Nat.le_of_ble_eq_true rfl), (Nat.le_of_ble_eq_true rfl)⟩ (Nat.le_of_ble_eq_true rfl) (Nat.le_of_ble_eq_true rfl) (fun M20 hQ20 => ?_)
  refine hr_ldc lNI X (tL_at tL_refuses_5_ok 20 rfl) kKL_22 ?_
  refine hr_icmp_ne 526 X (tL_at tL_refuses_5_ok 21 rfl) (by decide) (fun c => absurd rfl c) (fun _ => ?_)
  refine hr_aload_n X (tL_at tL_refuses_5_ok 22 rfl) rfl (Or.inr ⟨_, rfl⟩) ?_
  refine hr_iload X (tL_at tL_refuses_5_ok 23 rfl) rfl ?_
  refine hr_iconst (nI 0) X (tL_at tL_refuses_5_ok 24 rfl) (by decide) ?_
  refine hl_rs2 X kSL_folds (tL_at tL_refuses_5_ok 25 rfl) (c_L_folds cA hI hJ hQ20 (nI a) (nI 0)) (lf_fold2 (lf_isV0 hI ha) (lf_ndH _ _ (Or.inl rfl))) rfl rfl rfl (Nat.le_of_ble_eq_true rfl) 170 935 ⟨⟨(Nat.le_of_ble_eq_true rfl), (Nat.le_of_ble_eq_true rfl)⟩, (Nat.le_of_ble_eq_true rfl), (Nat.le_of_ble_eq_true rfl)⟩ (Nat.le_of_ble_eq_true rfl) (Nat.le_of_ble_eq_true rfl) (fun M21 hQ21 => ?_)
  refine hr_ldc lNS X (tL_at tL_refuses_5_ok 26 rfl) kKL_15 ?_
  refine hr_icmp_ne 526 X (tL_at tL_refuses_5_ok 27 rfl) (by decide) (fun c => absurd rfl c) (fun _ => ?_)
  refine hr_iconst (nI 1) X (tL_at tL_refuses_5_ok 28 rfl) (by decide) ?_
  refine hr_goto 527 X (tL_at tL_refuses_5_ok 29 rfl) (by decide) ?_
  refine hr_istore X (tL_at tL_refuses_5_ok 31 rfl) (Nat.le_of_ble_eq_true rfl) ?_
  refine hr_iload X (tL_at tL_refuses_5_ok 32 rfl) rfl ?_
  refine hr_if_eq 1108 X (tL_at tL_refuses_5_ok 33 rfl) (by decide) (fun c => absurd c (by decide)) (fun _ => ?_)
  refine hr_aload_n X (tL_at tL_refuses_5_ok 34 rfl) rfl (Or.inr ⟨_, rfl⟩) ?_
  refine hr_iload X (tL_at tL_refuses_5_ok 35 rfl) rfl ?_
  refine hl_rq1 X kSL_versions (tL_at tL_refuses_5_ok 36 rfl) (c_L_versions cA hI hJ hQ21 s) (lf_w hs) rfl rfl rfl (Nat.le_of_ble_eq_true rfl) 171 941 ⟨⟨(Nat.le_of_ble_eq_true rfl), (Nat.le_of_ble_eq_true rfl)⟩, (Nat.le_of_ble_eq_true rfl), (Nat.le_of_ble_eq_true rfl)⟩ (Nat.le_of_ble_eq_true rfl) (Nat.le_of_ble_eq_true rfl) (fun M22 hQ22 => ?_)
  refine hr_ldc lNI X (tL_at tL_refuses_5_ok 37 rfl) kKL_22 ?_
  refine hr_icmp_ne 1108 X (tL_at tL_refuses_5_ok 38 rfl) (by decide) (fun c => absurd rfl c) (fun _ => ?_)
  refine hr_aload_n X (tL_at tL_refuses_5_ok 39 rfl) rfl (Or.inr ⟨_, rfl⟩) ?_
  refine hr_iload X (tL_at tL_refuses_5_ok 40 rfl) rfl ?_
  refine hr_iload X (tL_at tL_refuses_5_ok 41 rfl) rfl ?_
  refine hl_rq1 X kSL_head (tL_at tL_refuses_5_ok 42 rfl) (c_L_head cA hI hJ hQ22 g (nI a)) (lf_w (lf_a1 hg)) rfl rfl rfl (Nat.le_of_ble_eq_true rfl) 173 953 ⟨⟨(Nat.le_of_ble_eq_true rfl), (Nat.le_of_ble_eq_true rfl)⟩, (Nat.le_of_ble_eq_true rfl), (Nat.le_of_ble_eq_true rfl)⟩ (Nat.le_of_ble_eq_true rfl) (Nat.le_of_ble_eq_true rfl) (fun M23 hQ23 => ?_)
  refine hr_ldc lNI X (tL_at tL_refuses_5_ok 43 rfl) kKL_22 ?_
  refine hr_icmp_ne 1108 X (tL_at tL_refuses_5_ok 44 rfl) (by decide) (fun c => absurd rfl c) (fun _ => ?_)
  refine hr_aload_n X (tL_at tL_refuses_5_ok 45 rfl) rfl (Or.inr ⟨_, rfl⟩) ?_
  refine hr_iconst (nI 0) X (tL_at tL_refuses_5_ok 46 rfl) (by decide) ?_
  refine hr_iload X (tL_at tL_refuses_5_ok 47 rfl) rfl ?_
  refine hl_rq1 X kSL_head (tL_at tL_refuses_5_ok 48 rfl) (c_L_head cA hI hJ hQ23 (nI 0) s) (lf_w (lf_a2 hs)) rfl rfl rfl (Nat.le_of_ble_eq_true rfl) 175 965 ⟨⟨(Nat.le_of_ble_eq_true rfl), (Nat.le_of_ble_eq_true rfl)⟩, (Nat.le_of_ble_eq_true rfl), (Nat.le_of_ble_eq_true rfl)⟩ (Nat.le_of_ble_eq_true rfl) (Nat.le_of_ble_eq_true rfl) (fun M24 hQ24 => ?_)
  refine hr_ldc lNI X (tL_at tL_refuses_5_ok 49 rfl) kKL_22 ?_
  refine hr_icmp_ne 1108 X (tL_at tL_refuses_5_ok 50 rfl) (by decide) (fun c => absurd rfl c) (fun _ => ?_)
  refine hr_aload_n X (tL_at tL_refuses_5_ok 51 rfl) rfl (Or.inr ⟨_, rfl⟩) ?_
  refine hr_iload X (tL_at tL_refuses_5_ok 52 rfl) rfl ?_
  refine hr_iload X (tL_at tL_refuses_5_ok 53 rfl) rfl ?_
  refine hl_rq1 X kSL_parent (tL_at tL_refuses_5_ok 54 rfl) (c_L_parent cA hI hJ hQ24 (nI a) v) (lf_w hv) rfl rfl rfl (Nat.le_of_ble_eq_true rfl) 177 977 ⟨⟨(Nat.le_of_ble_eq_true rfl), (Nat.le_of_ble_eq_true rfl)⟩, (Nat.le_of_ble_eq_true rfl), (Nat.le_of_ble_eq_true rfl)⟩ (Nat.le_of_ble_eq_true rfl) (Nat.le_of_ble_eq_true rfl) (fun M25 hQ25 => ?_)
  refine hr_ldc lNI X (tL_at tL_refuses_5_ok 55 rfl) kKL_22 ?_
  refine hr_icmp_ne 1108 X (tL_at tL_refuses_5_ok 56 rfl) (by decide) (fun c => absurd rfl c) (fun _ => ?_)
  refine hr_aload_n X (tL_at tL_refuses_5_ok 57 rfl) rfl (Or.inr ⟨_, rfl⟩) ?_
  refine hr_iload X (tL_at tL_refuses_5_ok 58 rfl) rfl ?_
  refine hr_iconst (nI 0) X (tL_at tL_refuses_5_ok 59 rfl) (by decide) ?_
  refine hr_iload X (tL_at tL_refuses_6_ok 0 rfl) rfl ?_
  refine hl_rq1 X kSL_kind (tL_at tL_refuses_6_ok 1 rfl) (c_L_kind cA hI hJ hQ25 (nI a) (nI 0) t) (lf_task2 ht) rfl rfl rfl (Nat.le_of_ble_eq_true rfl) 180 995 ⟨⟨(Nat.le_of_ble_eq_true rfl), (Nat.le_of_ble_eq_true rfl)⟩, (Nat.le_of_ble_eq_true rfl), (Nat.le_of_ble_eq_true rfl)⟩ (Nat.le_of_ble_eq_true rfl) (Nat.le_of_ble_eq_true rfl) (fun M26 hQ26 => ?_)
  refine hr_ldc lNI X (tL_at tL_refuses_6_ok 2 rfl) kKL_22 ?_
  refine hr_icmp_ne 1108 X (tL_at tL_refuses_6_ok 3 rfl) (by decide) (fun c => absurd rfl c) (fun _ => ?_)
  refine hr_aload_n X (tL_at tL_refuses_6_ok 4 rfl) rfl (Or.inr ⟨_, rfl⟩) ?_
  refine hr_iload X (tL_at tL_refuses_6_ok 5 rfl) rfl ?_
  refine hr_iload X (tL_at tL_refuses_6_ok 6 rfl) rfl ?_
  refine hr_iconst (nI 0) X (tL_at tL_refuses_6_ok 7 rfl) (by decide) ?_
  refine hl_rq1 X kSL_toldIn (tL_at tL_refuses_6_ok 8 rfl) (c_L_toldIn cA hI hJ hQ26 (nI a) v (nI 0)) (lf_task1 hv) rfl rfl rfl (Nat.le_of_ble_eq_true rfl) 183 1013 ⟨⟨(Nat.le_of_ble_eq_true rfl), (Nat.le_of_ble_eq_true rfl)⟩, (Nat.le_of_ble_eq_true rfl), (Nat.le_of_ble_eq_true rfl)⟩ (Nat.le_of_ble_eq_true rfl) (Nat.le_of_ble_eq_true rfl) (fun M27 hQ27 => ?_)
  refine hr_ldc lNI X (tL_at tL_refuses_6_ok 9 rfl) kKL_22 ?_
  refine hr_icmp_ne 1108 X (tL_at tL_refuses_6_ok 10 rfl) (by decide) (fun c => absurd rfl c) (fun _ => ?_)
  refine hr_aload_n X (tL_at tL_refuses_6_ok 11 rfl) rfl (Or.inr ⟨_, rfl⟩) ?_
  refine hr_iload X (tL_at tL_refuses_6_ok 12 rfl) rfl ?_
  refine hr_iload X (tL_at tL_refuses_6_ok 13 rfl) rfl ?_
  refine hl_rq1 X kSL_points (tL_at tL_refuses_6_ok 14 rfl) (c_L_points cA hI hJ hQ27 (nI a) v) (lf_w hv) rfl rfl rfl (Nat.le_of_ble_eq_true rfl) 185 1025 ⟨⟨(Nat.le_of_ble_eq_true rfl), (Nat.le_of_ble_eq_true rfl)⟩, (Nat.le_of_ble_eq_true rfl), (Nat.le_of_ble_eq_true rfl)⟩ (Nat.le_of_ble_eq_true rfl) (Nat.le_of_ble_eq_true rfl) (fun M28 hQ28 => ?_)
  refine hr_ldc lNI X (tL_at tL_refuses_6_ok 15 rfl) kKL_22 ?_
  refine hr_icmp_ne 1108 X (tL_at tL_refuses_6_ok 16 rfl) (by decide) (fun c => absurd rfl c) (fun _ => ?_)
  refine hr_aload_n X (tL_at tL_refuses_6_ok 17 rfl) rfl (Or.inr ⟨_, rfl⟩) ?_
  refine hr_iload X (tL_at tL_refuses_6_ok 18 rfl) rfl ?_
  refine hr_iload X (tL_at tL_refuses_6_ok 19 rfl) rfl ?_
  refine hr_iconst (nI 0) X (tL_at tL_refuses_6_ok 20 rfl) (by decide) ?_
  refine hr_sipush (nI 9999) X (tL_at tL_refuses_6_ok 21 rfl) (by decide) ?_
  refine hr_iconst (nI 0) X (tL_at tL_refuses_6_ok 22 rfl) (by decide) ?_
  refine hl_rs1 X kSL_mendsNumber (tL_at tL_refuses_6_ok 23 rfl) (c_L_mendsNumber cA hI hJ hQ28 (nI a) v (nI 0) (nI 9999) (nI 0)) (lf_men1 (lf_nm1 hv)) rfl rfl rfl (Nat.le_of_ble_eq_true rfl) 191 1061 ⟨⟨(Nat.le_of_ble_eq_true rfl), (Nat.le_of_ble_eq_true rfl)⟩, (Nat.le_of_ble_eq_true rfl), (Nat.le_of_ble_eq_true rfl)⟩ (Nat.le_of_ble_eq_true rfl) (Nat.le_of_ble_eq_true rfl) (fun M29 hQ29 => ?_)
  refine hr_ldc lNI X (tL_at tL_refuses_6_ok 24 rfl) kKL_22 ?_
  refine hr_icmp_ne 1108 X (tL_at tL_refuses_6_ok 25 rfl) (by decide) (fun c => absurd rfl c) (fun _ => ?_)
  refine hr_aload_n X (tL_at tL_refuses_6_ok 26 rfl) rfl (Or.inr ⟨_, rfl⟩) ?_
  refine hr_iload X (tL_at tL_refuses_6_ok 27 rfl) rfl ?_
  refine hr_iconst (nI 0) X (tL_at tL_refuses_6_ok 28 rfl) (by decide) ?_
  refine hr_iload_n X (tL_at tL_refuses_6_ok 29 rfl) rfl ?_
  refine hr_iconst (nI 5) X (tL_at tL_refuses_6_ok 30 rfl) (by decide) ?_
  refine hl_irem X (tL_at tL_refuses_6_ok 31 rfl) (by omega) (by decide) (by decide) ?_
  refine hr_sipush (nI 1001) X (tL_at tL_refuses_6_ok 32 rfl) (by decide) ?_
  refine hr_iload_n X (tL_at tL_refuses_6_ok 33 rfl) rfl ?_
  refine hl_iadd X (tL_at tL_refuses_6_ok 34 rfl) ?_
  refine hr_iconst (nI 0) X (tL_at tL_refuses_6_ok 35 rfl) (by decide) ?_
  refine hl_rs2 X kSL_mendsNumber (tL_at tL_refuses_6_ok 36 rfl) (c_L_mendsNumber cA hI hJ hQ29 (nI a) (nI 0) (nI (m % 5)) (nI (1001 + m)) (nI 0)) (lf_men2 (lf_nmT (lf_isV0 hI ha) (Nat.mod_lt _ (by decide))) (lf_a1 (lf_hi (b := 1000) (by omega) (by omega) (-1000)))) rfl rfl rfl (Nat.le_of_ble_eq_true rfl) 197 1097 ⟨⟨(Nat.le_of_ble_eq_true rfl), (Nat.le_of_ble_eq_true rfl)⟩, (Nat.le_of_ble_eq_true rfl), (Nat.le_of_ble_eq_true rfl)⟩ (Nat.le_of_ble_eq_true rfl) (Nat.le_of_ble_eq_true rfl) (fun M30 hQ30 => ?_)
  refine hr_ldc lNA X (tL_at tL_refuses_6_ok 37 rfl) kKL_25 ?_
  refine hr_icmp_ne 1108 X (tL_at tL_refuses_6_ok 38 rfl) (by decide) (fun c => absurd rfl c) (fun _ => ?_)
  refine hr_aload_n X (tL_at tL_refuses_6_ok 39 rfl) rfl (Or.inr ⟨_, rfl⟩) ?_
  refine hr_iload X (tL_at tL_refuses_6_ok 40 rfl) rfl ?_
  refine hr_iconst (nI 0) X (tL_at tL_refuses_6_ok 41 rfl) (by decide) ?_
  refine hr_iload_n X (tL_at tL_refuses_6_ok 42 rfl) rfl ?_
  refine hr_iconst (nI 5) X (tL_at tL_refuses_6_ok 43 rfl) (by decide) ?_
  refine hl_irem X (tL_at tL_refuses_6_ok 44 rfl) (by omega) (by decide) (by decide) ?_
  refine hr_iconst (nI 0) X (tL_at tL_refuses_6_ok 45 rfl) (by decide) ?_
  refine hr_iconst (nI 0) X (tL_at tL_refuses_6_ok 46 rfl) (by decide) ?_
  refine hl_rs3 X kSL_mendsNumber (tL_at tL_refuses_6_ok 47 rfl) (c_L_mendsNumber cA hI hJ hQ30 (nI a) (nI 0) (nI (m % 5)) (nI 0) (nI 0)) (lf_men3 (lf_nmT (lf_isV0 hI ha) (Nat.mod_lt _ (by decide))) (by decide) (lf_men0 hI ha (Nat.mod_lt _ (by decide)) _)) rfl rfl rfl (Nat.le_of_ble_eq_true rfl) 203 1133 ⟨⟨(Nat.le_of_ble_eq_true rfl), (Nat.le_of_ble_eq_true rfl)⟩, (Nat.le_of_ble_eq_true rfl), (Nat.le_of_ble_eq_true rfl)⟩ (Nat.le_of_ble_eq_true rfl) (Nat.le_of_ble_eq_true rfl) (fun M31 hQ31 => ?_)
  refine hr_ldc lNS X (tL_at tL_refuses_6_ok 48 rfl) kKL_15 ?_
  refine hr_icmp_ne 1108 X (tL_at tL_refuses_6_ok 49 rfl) (by decide) (fun c => absurd rfl c) (fun _ => ?_)
  refine hr_aload_n X (tL_at tL_refuses_6_ok 50 rfl) rfl (Or.inr ⟨_, rfl⟩) ?_
  refine hr_iload X (tL_at tL_refuses_6_ok 51 rfl) rfl ?_
  refine hr_iconst (nI 0) X (tL_at tL_refuses_6_ok 52 rfl) (by decide) ?_
  refine hr_iload X (tL_at tL_refuses_6_ok 53 rfl) rfl ?_
  refine hr_iconst (nI 0) X (tL_at tL_refuses_6_ok 54 rfl) (by decide) ?_
  refine hl_rs1 X kSL_mendsChoice (tL_at tL_refuses_6_ok 55 rfl) (c_L_mendsChoice cA hI hJ hQ31 (nI a) (nI 0) t (nI 0)) (lf_men1 (lf_nm2 ht)) rfl rfl rfl (Nat.le_of_ble_eq_true rfl) 208 1163 ⟨⟨(Nat.le_of_ble_eq_true rfl), (Nat.le_of_ble_eq_true rfl)⟩, (Nat.le_of_ble_eq_true rfl), (Nat.le_of_ble_eq_true rfl)⟩ (Nat.le_of_ble_eq_true rfl) (Nat.le_of_ble_eq_true rfl) (fun M32 hQ32 => ?_)
  refine hr_ldc lNI X (tL_at tL_refuses_6_ok 56 rfl) kKL_22 ?_
  refine hr_icmp_ne 1108 X (tL_at tL_refuses_6_ok 57 rfl) (by decide) (fun c => absurd rfl c) (fun _ => ?_)
  refine hr_aload_n X (tL_at tL_refuses_6_ok 58 rfl) rfl (Or.inr ⟨_, rfl⟩) ?_
  refine hr_iload X (tL_at tL_refuses_6_ok 59 rfl) rfl ?_
  refine hr_iconst (nI 0) X (tL_at tL_refuses_7_ok 0 rfl) (by decide) ?_
  refine hr_iload_n X (tL_at tL_refuses_7_ok 1 rfl) rfl ?_
  refine hr_iconst (nI 5) X (tL_at tL_refuses_7_ok 2 rfl) (by decide) ?_
  refine hl_irem X (tL_at tL_refuses_7_ok 3 rfl) (by omega) (by decide) (by decide) ?_
  refine hr_iconst ((-1)) X (tL_at tL_refuses_7_ok 4 rfl) (by decide) ?_
  refine hr_iload_n X (tL_at tL_refuses_7_ok 5 rfl) rfl ?_
  refine hr_isub X (tL_at tL_refuses_7_ok 6 rfl) ?_
  refine hl_rs2 X kSL_mendsChoice (tL_at tL_refuses_7_ok 7 rfl) (c_L_mendsChoice cA hI hJ hQ32 (nI a) (nI 0) (nI (m % 5)) ((((-1)) - (nI m)))) (lf_men2 (lf_nmT (lf_isV0 hI ha) (Nat.mod_lt _ (by decide))) (lf_lo (by omega) 31)) rfl rfl rfl (Nat.le_of_ble_eq_true rfl) 213 1193 ⟨⟨(Nat.le_of_ble_eq_true rfl), (Nat.le_of_ble_eq_true rfl)⟩, (Nat.le_of_ble_eq_true rfl), (Nat.le_of_ble_eq_true rfl)⟩ (Nat.le_of_ble_eq_true rfl) (Nat.le_of_ble_eq_true rfl) (fun M33 hQ33 => ?_)
  refine hr_ldc lNA X (tL_at tL_refuses_7_ok 8 rfl) kKL_25 ?_
  refine hr_icmp_ne 1108 X (tL_at tL_refuses_7_ok 9 rfl) (by decide) (fun c => absurd rfl c) (fun _ => ?_)
  refine hr_aload_n X (tL_at tL_refuses_7_ok 10 rfl) rfl (Or.inr ⟨_, rfl⟩) ?_
  refine hr_iload X (tL_at tL_refuses_7_ok 11 rfl) rfl ?_
  refine hr_iconst (nI 0) X (tL_at tL_refuses_7_ok 12 rfl) (by decide) ?_
  refine hr_iload_n X (tL_at tL_refuses_7_ok 13 rfl) rfl ?_
  refine hr_iconst (nI 5) X (tL_at tL_refuses_7_ok 14 rfl) (by decide) ?_
  refine hl_irem X (tL_at tL_refuses_7_ok 15 rfl) (by omega) (by decide) (by decide) ?_
  refine hr_iconst (nI 0) X (tL_at tL_refuses_7_ok 16 rfl) (by decide) ?_
  refine hl_rs3 X kSL_mendsChoice (tL_at tL_refuses_7_ok 17 rfl) (c_L_mendsChoice cA hI hJ hQ33 (nI a) (nI 0) (nI (m % 5)) (nI 0)) (lf_men3 (lf_nmT (lf_isV0 hI ha) (Nat.mod_lt _ (by decide))) (by decide) (lf_men0 hI ha (Nat.mod_lt _ (by decide)) _)) rfl rfl rfl (Nat.le_of_ble_eq_true rfl) 218 1223 ⟨⟨(Nat.le_of_ble_eq_true rfl), (Nat.le_of_ble_eq_true rfl)⟩, (Nat.le_of_ble_eq_true rfl), (Nat.le_of_ble_eq_true rfl)⟩ (Nat.le_of_ble_eq_true rfl) (Nat.le_of_ble_eq_true rfl) (fun M34 hQ34 => ?_)
  refine hr_ldc lNS X (tL_at tL_refuses_7_ok 18 rfl) kKL_15 ?_
  refine hr_icmp_ne 1108 X (tL_at tL_refuses_7_ok 19 rfl) (by decide) (fun c => absurd rfl c) (fun _ => ?_)
  refine hr_aload_n X (tL_at tL_refuses_7_ok 20 rfl) rfl (Or.inr ⟨_, rfl⟩) ?_
  refine hr_iload X (tL_at tL_refuses_7_ok 21 rfl) rfl ?_
  refine hr_iconst (nI 0) X (tL_at tL_refuses_7_ok 22 rfl) (by decide) ?_
  refine hr_iconst (nI 0) X (tL_at tL_refuses_7_ok 23 rfl) (by decide) ?_
  refine hr_iconst (nI 1) X (tL_at tL_refuses_7_ok 24 rfl) (by decide) ?_
  refine hl_rs1 X kSL_mendsWords (tL_at tL_refuses_7_ok 25 rfl) (c_L_mendsWords cA hI hJ hQ34 s (nI 0) (nI 0) (nI 1)) (lf_mew1 (lf_nm1 (lf_vS hs))) rfl rfl rfl (Nat.le_of_ble_eq_true rfl) 223 1253 ⟨⟨(Nat.le_of_ble_eq_true rfl), (Nat.le_of_ble_eq_true rfl)⟩, (Nat.le_of_ble_eq_true rfl), (Nat.le_of_ble_eq_true rfl)⟩ (Nat.le_of_ble_eq_true rfl) (Nat.le_of_ble_eq_true rfl) (fun M35 hQ35 => ?_)
  refine hr_ldc lNI X (tL_at tL_refuses_7_ok 26 rfl) kKL_22 ?_
  refine hr_icmp_ne 1108 X (tL_at tL_refuses_7_ok 27 rfl) (by decide) (fun c => absurd rfl c) (fun _ => ?_)
  refine hr_aload_n X (tL_at tL_refuses_7_ok 28 rfl) rfl (Or.inr ⟨_, rfl⟩) ?_
  refine hr_iload X (tL_at tL_refuses_7_ok 29 rfl) rfl ?_
  refine hr_iconst (nI 0) X (tL_at tL_refuses_7_ok 30 rfl) (by decide) ?_
  refine hr_iload_n X (tL_at tL_refuses_7_ok 31 rfl) rfl ?_
  refine hr_iconst (nI 5) X (tL_at tL_refuses_7_ok 32 rfl) (by decide) ?_
  refine hl_irem X (tL_at tL_refuses_7_ok 33 rfl) (by omega) (by decide) (by decide) ?_
  refine hr_iconst (nI 0) X (tL_at tL_refuses_7_ok 34 rfl) (by decide) ?_
  refine hl_rs2 X kSL_mendsWords (tL_at tL_refuses_7_ok 35 rfl) (c_L_mendsWords cA hI hJ hQ35 (nI a) (nI 0) (nI (m % 5)) (nI 0)) (lf_mew2 (lf_nmT (lf_isV0 hI ha) (Nat.mod_lt _ (by decide))) lf_row0) rfl rfl rfl (Nat.le_of_ble_eq_true rfl) 228 1283 ⟨⟨(Nat.le_of_ble_eq_true rfl), (Nat.le_of_ble_eq_true rfl)⟩, (Nat.le_of_ble_eq_true rfl), (Nat.le_of_ble_eq_true rfl)⟩ (Nat.le_of_ble_eq_true rfl) (Nat.le_of_ble_eq_true rfl) (fun M36 hQ36 => ?_)
  refine hr_ldc lNA X (tL_at tL_refuses_7_ok 36 rfl) kKL_25 ?_
  refine hr_icmp_ne 1108 X (tL_at tL_refuses_7_ok 37 rfl) (by decide) (fun c => absurd rfl c) (fun _ => ?_)
  refine hr_aload_n X (tL_at tL_refuses_7_ok 38 rfl) rfl (Or.inr ⟨_, rfl⟩) ?_
  refine hr_iload X (tL_at tL_refuses_7_ok 39 rfl) rfl ?_
  refine hr_iconst (nI 0) X (tL_at tL_refuses_7_ok 40 rfl) (by decide) ?_
  refine hr_iload_n X (tL_at tL_refuses_7_ok 41 rfl) rfl ?_
  refine hr_iconst (nI 5) X (tL_at tL_refuses_7_ok 42 rfl) (by decide) ?_
  refine hl_irem X (tL_at tL_refuses_7_ok 43 rfl) (by omega) (by decide) (by decide) ?_
  refine hr_iconst (nI 1) X (tL_at tL_refuses_7_ok 44 rfl) (by decide) ?_
  refine hl_rs3 X kSL_mendsWords (tL_at tL_refuses_7_ok 45 rfl) (c_L_mendsWords cA hI hJ hQ36 (nI a) (nI 0) (nI (m % 5)) (nI 1)) (lf_mew3 (lf_nmT (lf_isV0 hI ha) (Nat.mod_lt _ (by decide))) (by decide +kernel) (lf_men0 hI ha (Nat.mod_lt _ (by decide)) 2)) rfl rfl rfl (Nat.le_of_ble_eq_true rfl) 233 1313 ⟨⟨(Nat.le_of_ble_eq_true rfl), (Nat.le_of_ble_eq_true rfl)⟩, (Nat.le_of_ble_eq_true rfl), (Nat.le_of_ble_eq_true rfl)⟩ (Nat.le_of_ble_eq_true rfl) (Nat.le_of_ble_eq_true rfl) (fun M37 hQ37 => ?_)
  refine hr_ldc lNS X (tL_at tL_refuses_7_ok 46 rfl) kKL_15 ?_
  refine hr_icmp_ne 1108 X (tL_at tL_refuses_7_ok 47 rfl) (by decide) (fun c => absurd rfl c) (fun _ => ?_)
  refine hr_aload_n X (tL_at tL_refuses_7_ok 48 rfl) rfl (Or.inr ⟨_, rfl⟩) ?_
  refine hr_iload X (tL_at tL_refuses_7_ok 49 rfl) rfl ?_
  refine hr_iload X (tL_at tL_refuses_7_ok 50 rfl) rfl ?_
  refine hl_rs1 X kSL_opens (tL_at tL_refuses_7_ok 51 rfl) (c_L_opens cA hI hJ hQ37 p (nI a)) (lf_open1 (lf_b1 hp)) rfl rfl rfl (Nat.le_of_ble_eq_true rfl) 249 1479 ⟨⟨(Nat.le_of_ble_eq_true rfl), (Nat.le_of_ble_eq_true rfl)⟩, (Nat.le_of_ble_eq_true rfl), (Nat.le_of_ble_eq_true rfl)⟩ (Nat.le_of_ble_eq_true rfl) (Nat.le_of_ble_eq_true rfl) (fun M38 hQ38 => ?_)
  refine hr_ldc lNI X (tL_at tL_refuses_7_ok 52 rfl) kKL_22 ?_
  refine hr_icmp_ne 1108 X (tL_at tL_refuses_7_ok 53 rfl) (by decide) (fun c => absurd rfl c) (fun _ => ?_)
  refine hr_aload_n X (tL_at tL_refuses_7_ok 54 rfl) rfl (Or.inr ⟨_, rfl⟩) ?_
  refine hr_iconst (nI 0) X (tL_at tL_refuses_7_ok 55 rfl) (by decide) ?_
  refine hr_iload X (tL_at tL_refuses_7_ok 56 rfl) rfl ?_
  refine hl_rs1 X kSL_opens (tL_at tL_refuses_7_ok 57 rfl) (c_L_opens cA hI hJ hQ38 (nI 0) s) (lf_open1 (lf_b2 hs)) rfl rfl rfl (Nat.le_of_ble_eq_true rfl) 265 1645 ⟨⟨(Nat.le_of_ble_eq_true rfl), (Nat.le_of_ble_eq_true rfl)⟩, (Nat.le_of_ble_eq_true rfl), (Nat.le_of_ble_eq_true rfl)⟩ (Nat.le_of_ble_eq_true rfl) (Nat.le_of_ble_eq_true rfl) (fun M39 hQ39 => ?_)
  refine hr_ldc lNI X (tL_at tL_refuses_7_ok 58 rfl) kKL_22 ?_
  refine hr_icmp_ne 1108 X (tL_at tL_refuses_7_ok 59 rfl) (by decide) (fun c => absurd rfl c) (fun _ => ?_)
  refine hr_aload_n X (tL_at tL_refuses_8_ok 0 rfl) rfl (Or.inr ⟨_, rfl⟩) ?_
  refine hr_iload X (tL_at tL_refuses_8_ok 1 rfl) rfl ?_
  refine hr_iload X (tL_at tL_refuses_8_ok 2 rfl) rfl ?_
  refine hr_iconst (nI 0) X (tL_at tL_refuses_8_ok 3 rfl) (by decide) ?_
  refine hr_iconst (nI 0) X (tL_at tL_refuses_8_ok 4 rfl) (by decide) ?_
  refine hl_rs1 X kSL_says (tL_at tL_refuses_8_ok 5 rfl) (c_L_says cA hI hJ hQ39 p (nI a) (nI 0) (nI 0)) (lf_say1 (lf_b1 hp)) rfl rfl rfl (Nat.le_of_ble_eq_true rfl) 273 1693 ⟨⟨(Nat.le_of_ble_eq_true rfl), (Nat.le_of_ble_eq_true rfl)⟩, (Nat.le_of_ble_eq_true rfl), (Nat.le_of_ble_eq_true rfl)⟩ (Nat.le_of_ble_eq_true rfl) (Nat.le_of_ble_eq_true rfl) (fun M40 hQ40 => ?_)
  refine hr_ldc lNI X (tL_at tL_refuses_8_ok 6 rfl) kKL_22 ?_
  refine hr_icmp_ne 1108 X (tL_at tL_refuses_8_ok 7 rfl) (by decide) (fun c => absurd rfl c) (fun _ => ?_)
  refine hr_aload_n X (tL_at tL_refuses_8_ok 8 rfl) rfl (Or.inr ⟨_, rfl⟩) ?_
  refine hr_iconst (nI 0) X (tL_at tL_refuses_8_ok 9 rfl) (by decide) ?_
  refine hr_iload X (tL_at tL_refuses_8_ok 10 rfl) rfl ?_
  refine hr_iload X (tL_at tL_refuses_8_ok 11 rfl) rfl ?_
  refine hr_iconst (nI 0) X (tL_at tL_refuses_8_ok 12 rfl) (by decide) ?_
  refine hl_rs1 X kSL_says (tL_at tL_refuses_8_ok 13 rfl) (c_L_says cA hI hJ hQ40 (nI 0) (nI a) t (nI 0)) (lf_say1t ht) rfl rfl rfl (Nat.le_of_ble_eq_true rfl) 281 1741 ⟨⟨(Nat.le_of_ble_eq_true rfl), (Nat.le_of_ble_eq_true rfl)⟩, (Nat.le_of_ble_eq_true rfl), (Nat.le_of_ble_eq_true rfl)⟩ (Nat.le_of_ble_eq_true rfl) (Nat.le_of_ble_eq_true rfl) (fun M41 hQ41 => ?_)
  refine hr_ldc lNI X (tL_at tL_refuses_8_ok 14 rfl) kKL_22 ?_
  refine hr_icmp_ne 1108 X (tL_at tL_refuses_8_ok 15 rfl) (by decide) (fun c => absurd rfl c) (fun _ => ?_)
  refine hr_aload_n X (tL_at tL_refuses_8_ok 16 rfl) rfl (Or.inr ⟨_, rfl⟩) ?_
  refine hr_iload X (tL_at tL_refuses_8_ok 17 rfl) rfl ?_
  refine hr_iload X (tL_at tL_refuses_8_ok 18 rfl) rfl ?_
  refine hl_rs1 X kSL_hands (tL_at tL_refuses_8_ok 19 rfl) (c_L_hands cA hI hJ hQ41 p (nI a)) (lf_hand1 (lf_b1 hp)) rfl rfl rfl (Nat.le_of_ble_eq_true rfl) 284 1759 ⟨⟨(Nat.le_of_ble_eq_true rfl), (Nat.le_of_ble_eq_true rfl)⟩, (Nat.le_of_ble_eq_true rfl), (Nat.le_of_ble_eq_true rfl)⟩ (Nat.le_of_ble_eq_true rfl) (Nat.le_of_ble_eq_true rfl) (fun M42 hQ42 => ?_)
  refine hr_ldc lNI X (tL_at tL_refuses_8_ok 20 rfl) kKL_22 ?_
  refine hr_icmp_ne 1108 X (tL_at tL_refuses_8_ok 21 rfl) (by decide) (fun c => absurd rfl c) (fun _ => ?_)
  refine hr_aload_n X (tL_at tL_refuses_8_ok 22 rfl) rfl (Or.inr ⟨_, rfl⟩) ?_
  refine hr_iload X (tL_at tL_refuses_8_ok 23 rfl) rfl ?_
  refine hr_iload X (tL_at tL_refuses_8_ok 24 rfl) rfl ?_
  refine hl_rs1 X kSL_closes (tL_at tL_refuses_8_ok 25 rfl) (c_L_closes cA hI hJ hQ42 g (nI a)) (lf_clo1 (lf_cs1 hg)) rfl rfl rfl (Nat.le_of_ble_eq_true rfl) 287 1777 ⟨⟨(Nat.le_of_ble_eq_true rfl), (Nat.le_of_ble_eq_true rfl)⟩, (Nat.le_of_ble_eq_true rfl), (Nat.le_of_ble_eq_true rfl)⟩ (Nat.le_of_ble_eq_true rfl) (Nat.le_of_ble_eq_true rfl) (fun M43 hQ43 => ?_)
  refine hr_ldc lNI X (tL_at tL_refuses_8_ok 26 rfl) kKL_22 ?_
  refine hr_icmp_ne 1108 X (tL_at tL_refuses_8_ok 27 rfl) (by decide) (fun c => absurd rfl c) (fun _ => ?_)
  refine hr_aload_n X (tL_at tL_refuses_8_ok 28 rfl) rfl (Or.inr ⟨_, rfl⟩) ?_
  refine hr_iload X (tL_at tL_refuses_8_ok 29 rfl) rfl ?_
  refine hr_iload X (tL_at tL_refuses_8_ok 30 rfl) rfl ?_
  refine hl_rq1 X kSL_answer (tL_at tL_refuses_8_ok 31 rfl) (c_L_answer cA hI hJ hQ43 p (nI a)) (lf_w (lf_b1 hp)) rfl rfl rfl (Nat.le_of_ble_eq_true rfl) 289 1789 ⟨⟨(Nat.le_of_ble_eq_true rfl), (Nat.le_of_ble_eq_true rfl)⟩, (Nat.le_of_ble_eq_true rfl), (Nat.le_of_ble_eq_true rfl)⟩ (Nat.le_of_ble_eq_true rfl) (Nat.le_of_ble_eq_true rfl) (fun M44 hQ44 => ?_)
  refine hr_ldc lNI X (tL_at tL_refuses_8_ok 32 rfl) kKL_22 ?_
  refine hr_icmp_ne 1108 X (tL_at tL_refuses_8_ok 33 rfl) (by decide) (fun c => absurd rfl c) (fun _ => ?_)
  refine hr_aload_n X (tL_at tL_refuses_8_ok 34 rfl) rfl (Or.inr ⟨_, rfl⟩) ?_
  refine hr_iload X (tL_at tL_refuses_8_ok 35 rfl) rfl ?_
  refine hr_iload X (tL_at tL_refuses_8_ok 36 rfl) rfl ?_
  refine hl_rq1 X kSL_mark (tL_at tL_refuses_8_ok 37 rfl) (c_L_mark cA hI hJ hQ44 p (nI a)) (lf_w (lf_b1 hp)) rfl rfl rfl (Nat.le_of_ble_eq_true rfl) 291 1801 ⟨⟨(Nat.le_of_ble_eq_true rfl), (Nat.le_of_ble_eq_true rfl)⟩, (Nat.le_of_ble_eq_true rfl), (Nat.le_of_ble_eq_true rfl)⟩ (Nat.le_of_ble_eq_true rfl) (Nat.le_of_ble_eq_true rfl) (fun M45 hQ45 => ?_)
  refine hr_ldc lNI X (tL_at tL_refuses_8_ok 38 rfl) kKL_22 ?_
  refine hr_icmp_ne 1108 X (tL_at tL_refuses_8_ok 39 rfl) (by decide) (fun c => absurd rfl c) (fun _ => ?_)
  refine hr_aload_n X (tL_at tL_refuses_8_ok 40 rfl) rfl (Or.inr ⟨_, rfl⟩) ?_
  refine hr_iconst (nI 0) X (tL_at tL_refuses_8_ok 41 rfl) (by decide) ?_
  refine hr_iload X (tL_at tL_refuses_8_ok 42 rfl) rfl ?_
  refine hl_rq1 X kSL_due (tL_at tL_refuses_8_ok 43 rfl) (c_L_due cA hI hJ hQ45 (nI 0) s) (lf_w (lf_b2 hs)) rfl rfl rfl (Nat.le_of_ble_eq_true rfl) 293 1813 ⟨⟨(Nat.le_of_ble_eq_true rfl), (Nat.le_of_ble_eq_true rfl)⟩, (Nat.le_of_ble_eq_true rfl), (Nat.le_of_ble_eq_true rfl)⟩ (Nat.le_of_ble_eq_true rfl) (Nat.le_of_ble_eq_true rfl) (fun M46 hQ46 => ?_)
  refine hr_ldc lNI X (tL_at tL_refuses_8_ok 44 rfl) kKL_22 ?_
  refine hr_icmp_ne 1108 X (tL_at tL_refuses_8_ok 45 rfl) (by decide) (fun c => absurd rfl c) (fun _ => ?_)
  refine hr_aload_n X (tL_at tL_refuses_8_ok 46 rfl) rfl (Or.inr ⟨_, rfl⟩) ?_
  refine hr_iload X (tL_at tL_refuses_8_ok 47 rfl) rfl ?_
  refine hr_iload X (tL_at tL_refuses_8_ok 48 rfl) rfl ?_
  refine hl_rq1 X kSL_told (tL_at tL_refuses_8_ok 49 rfl) (c_L_told cA hI hJ hQ46 p (nI a)) (lf_w (lf_b1 hp)) rfl rfl rfl (Nat.le_of_ble_eq_true rfl) 295 1825 ⟨⟨(Nat.le_of_ble_eq_true rfl), (Nat.le_of_ble_eq_true rfl)⟩, (Nat.le_of_ble_eq_true rfl), (Nat.le_of_ble_eq_true rfl)⟩ (Nat.le_of_ble_eq_true rfl) (Nat.le_of_ble_eq_true rfl) (fun M47 hQ47 => ?_)
  refine hr_ldc lNI X (tL_at tL_refuses_8_ok 50 rfl) kKL_22 ?_
  refine hr_icmp_ne 1108 X (tL_at tL_refuses_8_ok 51 rfl) (by decide) (fun c => absurd rfl c) (fun _ => ?_)
  refine hr_aload_n X (tL_at tL_refuses_8_ok 52 rfl) rfl (Or.inr ⟨_, rfl⟩) ?_
  refine hr_iload X (tL_at tL_refuses_8_ok 53 rfl) rfl ?_
  refine hr_iload X (tL_at tL_refuses_8_ok 54 rfl) rfl ?_
  refine hl_rq1 X kSL_average (tL_at tL_refuses_8_ok 55 rfl) (c_L_average cA hI hJ hQ47 g (nI a)) (lf_w (lf_cs1 hg)) rfl rfl rfl (Nat.le_of_ble_eq_true rfl) 297 1837 ⟨⟨(Nat.le_of_ble_eq_true rfl), (Nat.le_of_ble_eq_true rfl)⟩, (Nat.le_of_ble_eq_true rfl), (Nat.le_of_ble_eq_true rfl)⟩ (Nat.le_of_ble_eq_true rfl) (Nat.le_of_ble_eq_true rfl) (fun M48 hQ48 => ?_)
  refine hr_ldc lNI X (tL_at tL_refuses_8_ok 56 rfl) kKL_22 ?_
  refine hr_icmp_ne 1108 X (tL_at tL_refuses_8_ok 57 rfl) (by decide) (fun c => absurd rfl c) (fun _ => ?_)
  refine hr_aload_n X (tL_at tL_refuses_8_ok 58 rfl) rfl (Or.inr ⟨_, rfl⟩) ?_
  refine hr_iload X (tL_at tL_refuses_8_ok 59 rfl) rfl ?_
  refine hr_iload X (tL_at tL_refuses_9_ok 0 rfl) rfl ?_
  refine hl_rq1 X kSL_prints (tL_at tL_refuses_9_ok 1 rfl) (c_L_prints cA hI hJ hQ48 p (nI a)) (lf_w (lf_b1 hp)) rfl rfl rfl (Nat.le_of_ble_eq_true rfl) 299 1849 ⟨⟨(Nat.le_of_ble_eq_true rfl), (Nat.le_of_ble_eq_true rfl)⟩, (Nat.le_of_ble_eq_true rfl), (Nat.le_of_ble_eq_true rfl)⟩ (Nat.le_of_ble_eq_true rfl) (Nat.le_of_ble_eq_true rfl) (fun M49 hQ49 => ?_)
  refine hr_ldc lNI X (tL_at tL_refuses_9_ok 2 rfl) kKL_22 ?_
  refine hr_icmp_ne 1108 X (tL_at tL_refuses_9_ok 3 rfl) (by decide) (fun c => absurd rfl c) (fun _ => ?_)
  refine hr_aload_n X (tL_at tL_refuses_9_ok 4 rfl) rfl (Or.inr ⟨_, rfl⟩) ?_
  refine hr_iload X (tL_at tL_refuses_9_ok 5 rfl) rfl ?_
  refine hr_iconst (nI 5) X (tL_at tL_refuses_9_ok 6 rfl) (by decide) ?_
  refine hl_rq1 X kSL_with (tL_at tL_refuses_9_ok 7 rfl) (c_L_with cA hI hJ hQ49 s (nI 5)) (lf_w hs) rfl rfl rfl (Nat.le_of_ble_eq_true rfl) 300 1855 ⟨⟨(Nat.le_of_ble_eq_true rfl), (Nat.le_of_ble_eq_true rfl)⟩, (Nat.le_of_ble_eq_true rfl), (Nat.le_of_ble_eq_true rfl)⟩ (Nat.le_of_ble_eq_true rfl) (Nat.le_of_ble_eq_true rfl) (fun M50 hQ50 => ?_)
  refine hr_ldc lNI X (tL_at tL_refuses_9_ok 8 rfl) kKL_22 ?_
  refine hr_icmp_ne 1108 X (tL_at tL_refuses_9_ok 9 rfl) (by decide) (fun c => absurd rfl c) (fun _ => ?_)
  refine hr_aload_n X (tL_at tL_refuses_9_ok 10 rfl) rfl (Or.inr ⟨_, rfl⟩) ?_
  refine hr_iload X (tL_at tL_refuses_9_ok 11 rfl) rfl ?_
  refine hr_iconst ((-1)) X (tL_at tL_refuses_9_ok 12 rfl) (by decide) ?_
  refine hr_iload_n X (tL_at tL_refuses_9_ok 13 rfl) rfl ?_
  refine hr_isub X (tL_at tL_refuses_9_ok 14 rfl) ?_
  refine hl_rq0 X kSL_with (tL_at tL_refuses_9_ok 15 rfl) (c_L_with cA hI hJ hQ50 (nI a) ((((-1)) - (nI m)))) (lf_w0 (sp_nat_isS hI ha)) rfl rfl rfl (Nat.le_of_ble_eq_true rfl) 301 1861 ⟨⟨(Nat.le_of_ble_eq_true rfl), (Nat.le_of_ble_eq_true rfl)⟩, (Nat.le_of_ble_eq_true rfl), (Nat.le_of_ble_eq_true rfl)⟩ (Nat.le_of_ble_eq_true rfl) (Nat.le_of_ble_eq_true rfl) (fun M51 hQ51 => ?_)
  refine hr_if_ne 1108 X (tL_at tL_refuses_9_ok 16 rfl) (by decide) (fun c => absurd (lf_wp hI ha (lf_neg (by omega))) c) (fun _ => ?_)
  refine hr_aload_n X (tL_at tL_refuses_9_ok 17 rfl) rfl (Or.inr ⟨_, rfl⟩) ?_
  refine hr_iload X (tL_at tL_refuses_9_ok 18 rfl) rfl ?_
  refine hr_iload X (tL_at tL_refuses_9_ok 19 rfl) rfl ?_
  refine hr_iconst (nI 0) X (tL_at tL_refuses_9_ok 20 rfl) (by decide) ?_
  refine hl_rq1 X kSL_likeness (tL_at tL_refuses_9_ok 21 rfl) (c_L_likeness cA hI hJ hQ51 (nI a) p (nI 0)) (lf_w (lf_a1 (lf_a2 hp))) rfl rfl rfl (Nat.le_of_ble_eq_true rfl) 304 1879 ⟨⟨(Nat.le_of_ble_eq_true rfl), (Nat.le_of_ble_eq_true rfl)⟩, (Nat.le_of_ble_eq_true rfl), (Nat.le_of_ble_eq_true rfl)⟩ (Nat.le_of_ble_eq_true rfl) (Nat.le_of_ble_eq_true rfl) (fun M52 hQ52 => ?_)
  refine hr_ldc lNI X (tL_at tL_refuses_9_ok 22 rfl) kKL_22 ?_
  refine hr_icmp_ne 1108 X (tL_at tL_refuses_9_ok 23 rfl) (by decide) (fun c => absurd rfl c) (fun _ => ?_)
  refine hr_aload_n X (tL_at tL_refuses_9_ok 24 rfl) rfl (Or.inr ⟨_, rfl⟩) ?_
  refine hr_iload X (tL_at tL_refuses_9_ok 25 rfl) rfl ?_
  refine hr_iconst (nI 0) X (tL_at tL_refuses_9_ok 26 rfl) (by decide) ?_
  refine hr_iload X (tL_at tL_refuses_9_ok 27 rfl) rfl ?_
  refine hl_rq1 X kSL_likeness (tL_at tL_refuses_9_ok 28 rfl) (c_L_likeness cA hI hJ hQ52 (nI a) (nI 0) p) (lf_w (lf_a2 hp)) rfl rfl rfl (Nat.le_of_ble_eq_true rfl) 307 1897 ⟨⟨(Nat.le_of_ble_eq_true rfl), (Nat.le_of_ble_eq_true rfl)⟩, (Nat.le_of_ble_eq_true rfl), (Nat.le_of_ble_eq_true rfl)⟩ (Nat.le_of_ble_eq_true rfl) (Nat.le_of_ble_eq_true rfl) (fun M53 hQ53 => ?_)
  refine hr_ldc lNI X (tL_at tL_refuses_9_ok 29 rfl) kKL_22 ?_
  refine hr_icmp_ne 1108 X (tL_at tL_refuses_9_ok 30 rfl) (by decide) (fun c => absurd rfl c) (fun _ => ?_)
  refine hr_aload_n X (tL_at tL_refuses_9_ok 31 rfl) rfl (Or.inr ⟨_, rfl⟩) ?_
  refine hr_iload X (tL_at tL_refuses_9_ok 32 rfl) rfl ?_
  refine hl_rq1 X kSL_pairs (tL_at tL_refuses_9_ok 33 rfl) (c_L_pairs cA hI hJ hQ53 s) (lf_w hs) rfl rfl rfl (Nat.le_of_ble_eq_true rfl) 308 1903 ⟨⟨(Nat.le_of_ble_eq_true rfl), (Nat.le_of_ble_eq_true rfl)⟩, (Nat.le_of_ble_eq_true rfl), (Nat.le_of_ble_eq_true rfl)⟩ (Nat.le_of_ble_eq_true rfl) (Nat.le_of_ble_eq_true rfl) (fun M54 hQ54 => ?_)
  refine hr_ldc lNI X (tL_at tL_refuses_9_ok 34 rfl) kKL_22 ?_
  refine hr_icmp_ne 1108 X (tL_at tL_refuses_9_ok 35 rfl) (by decide) (fun c => absurd rfl c) (fun _ => ?_)
  refine hr_aload_n X (tL_at tL_refuses_9_ok 36 rfl) rfl (Or.inr ⟨_, rfl⟩) ?_
  refine hr_iload X (tL_at tL_refuses_9_ok 37 rfl) rfl ?_
  refine hr_iconst ((-1)) X (tL_at tL_refuses_9_ok 38 rfl) (by decide) ?_
  refine hr_iload_n X (tL_at tL_refuses_9_ok 39 rfl) rfl ?_
  refine hr_isub X (tL_at tL_refuses_9_ok 40 rfl) ?_
  refine hl_rq1 X kSL_pairAt (tL_at tL_refuses_9_ok 41 rfl) (c_L_pairAt cA hI hJ hQ54 (nI a) ((((-1)) - (nI m)))) (lf_pat (lf_pa_neg (lf_neg (by omega)))) rfl rfl rfl (Nat.le_of_ble_eq_true rfl) 310 1915 ⟨⟨(Nat.le_of_ble_eq_true rfl), (Nat.le_of_ble_eq_true rfl)⟩, (Nat.le_of_ble_eq_true rfl), (Nat.le_of_ble_eq_true rfl)⟩ (Nat.le_of_ble_eq_true rfl) (Nat.le_of_ble_eq_true rfl) (fun M55 hQ55 => ?_)
  refine hr_ldc lNI X (tL_at tL_refuses_9_ok 42 rfl) kKL_22 ?_
  refine hr_icmp_ne 1108 X (tL_at tL_refuses_9_ok 43 rfl) (by decide) (fun c => absurd rfl c) (fun _ => ?_)
  refine hr_aload_n X (tL_at tL_refuses_9_ok 44 rfl) rfl (Or.inr ⟨_, rfl⟩) ?_
  refine hr_iload X (tL_at tL_refuses_9_ok 45 rfl) rfl ?_
  refine hr_bipush (nI 66) X (tL_at tL_refuses_9_ok 46 rfl) (by decide) ?_
  refine hr_iload_n X (tL_at tL_refuses_9_ok 47 rfl) rfl ?_
  refine hl_iadd X (tL_at tL_refuses_9_ok 48 rfl) ?_
  refine hl_rq1 X kSL_pairAt (tL_at tL_refuses_9_ok 49 rfl) (c_L_pairAt cA hI hJ hQ55 (nI a) (nI (66 + m))) (lf_pat (lf_pa_out hI ha (by omega) (by have := lf_pn_66 sg a; omega))) rfl rfl rfl (Nat.le_of_ble_eq_true rfl) 312 1927 ⟨⟨(Nat.le_of_ble_eq_true rfl), (Nat.le_of_ble_eq_true rfl)⟩, (Nat.le_of_ble_eq_true rfl), (Nat.le_of_ble_eq_true rfl)⟩ (Nat.le_of_ble_eq_true rfl) (Nat.le_of_ble_eq_true rfl) (fun M56 hQ56 => ?_)
  refine hr_ldc lNI X (tL_at tL_refuses_9_ok 50 rfl) kKL_22 ?_
  refine hr_icmp_ne 1108 X (tL_at tL_refuses_9_ok 51 rfl) (by decide) (fun c => absurd rfl c) (fun _ => ?_)
  refine hr_aload_n X (tL_at tL_refuses_9_ok 52 rfl) rfl (Or.inr ⟨_, rfl⟩) ?_
  refine hr_iload X (tL_at tL_refuses_9_ok 53 rfl) rfl ?_
  refine hl_rq1 X kSL_anew (tL_at tL_refuses_9_ok 54 rfl) (c_L_anew cA hI hJ hQ56 s) (lf_w hs) rfl rfl rfl (Nat.le_of_ble_eq_true rfl) 313 1933 ⟨⟨(Nat.le_of_ble_eq_true rfl), (Nat.le_of_ble_eq_true rfl)⟩, (Nat.le_of_ble_eq_true rfl), (Nat.le_of_ble_eq_true rfl)⟩ (Nat.le_of_ble_eq_true rfl) (Nat.le_of_ble_eq_true rfl) (fun M57 hQ57 => ?_)
  refine hr_ldc lNI X (tL_at tL_refuses_9_ok 55 rfl) kKL_22 ?_
  refine hr_icmp_ne 1108 X (tL_at tL_refuses_9_ok 56 rfl) (by decide) (fun c => absurd rfl c) (fun _ => ?_)
  refine hr_aload_n X (tL_at tL_refuses_9_ok 57 rfl) rfl (Or.inr ⟨_, rfl⟩) ?_
  refine hr_iload X (tL_at tL_refuses_9_ok 58 rfl) rfl ?_
  refine hr_sipush (nI 5000) X (tL_at tL_refuses_9_ok 59 rfl) (by decide) ?_
  refine hl_rs1 X kSL_quotas (tL_at tL_refuses_10_ok 0 rfl) (c_L_quotas cA hI hJ hQ57 g (nI 5000)) (lf_quo1 hg) rfl rfl rfl (Nat.le_of_ble_eq_true rfl) 315 1945 ⟨⟨(Nat.le_of_ble_eq_true rfl), (Nat.le_of_ble_eq_true rfl)⟩, (Nat.le_of_ble_eq_true rfl), (Nat.le_of_ble_eq_true rfl)⟩ (Nat.le_of_ble_eq_true rfl) (Nat.le_of_ble_eq_true rfl) (fun M58 hQ58 => ?_)
  refine hr_ldc lNI X (tL_at tL_refuses_10_ok 1 rfl) kKL_22 ?_
  refine hr_icmp_ne 1108 X (tL_at tL_refuses_10_ok 2 rfl) (by decide) (fun c => absurd rfl c) (fun _ => ?_)
  refine hr_aload_n X (tL_at tL_refuses_10_ok 3 rfl) rfl (Or.inr ⟨_, rfl⟩) ?_
  refine hr_iload_n X (tL_at tL_refuses_10_ok 4 rfl) rfl ?_
  refine hr_iconst (nI 4) X (tL_at tL_refuses_10_ok 5 rfl) (by decide) ?_
  refine hl_irem X (tL_at tL_refuses_10_ok 6 rfl) (by omega) (by decide) (by decide) ?_
  refine hr_sipush (nI 1001) X (tL_at tL_refuses_10_ok 7 rfl) (by decide) ?_
  refine hr_iload_n X (tL_at tL_refuses_10_ok 8 rfl) rfl ?_
  refine hl_iadd X (tL_at tL_refuses_10_ok 9 rfl) ?_
  refine hl_rs2 X kSL_quotas (tL_at tL_refuses_10_ok 10 rfl) (c_L_quotas cA hI hJ hQ58 (nI (m % 4)) (nI (1001 + m))) (lf_quo2 (lf_inN (b := 3) (by decide) (by omega)) (lf_hi (b := 1000) (by omega) (by omega) 0)) rfl rfl rfl (Nat.le_of_ble_eq_true rfl) 317 1957 ⟨⟨(Nat.le_of_ble_eq_true rfl), (Nat.le_of_ble_eq_true rfl)⟩, (Nat.le_of_ble_eq_true rfl), (Nat.le_of_ble_eq_true rfl)⟩ (Nat.le_of_ble_eq_true rfl) (Nat.le_of_ble_eq_true rfl) (fun M59 hQ59 => ?_)
  refine hr_ldc lNA X (tL_at tL_refuses_10_ok 11 rfl) kKL_25 ?_
  refine hr_icmp_ne 1108 X (tL_at tL_refuses_10_ok 12 rfl) (by decide) (fun c => absurd rfl c) (fun _ => ?_)
  refine hr_aload_n X (tL_at tL_refuses_10_ok 13 rfl) rfl (Or.inr ⟨_, rfl⟩) ?_
  refine hr_iload_n X (tL_at tL_refuses_10_ok 14 rfl) rfl ?_
  refine hr_iconst (nI 4) X (tL_at tL_refuses_10_ok 15 rfl) (by decide) ?_
  refine hl_irem X (tL_at tL_refuses_10_ok 16 rfl) (by omega) (by decide) (by decide) ?_
  refine hr_iconst ((-1)) X (tL_at tL_refuses_10_ok 17 rfl) (by decide) ?_
  refine hr_iload_n X (tL_at tL_refuses_10_ok 18 rfl) rfl ?_
  refine hr_isub X (tL_at tL_refuses_10_ok 19 rfl) ?_
  refine hl_rs2 X kSL_quotas (tL_at tL_refuses_10_ok 20 rfl) (c_L_quotas cA hI hJ hQ59 (nI (m % 4)) ((((-1)) - (nI m)))) (lf_quo2 (lf_inN (b := 3) (by decide) (by omega)) (lf_lo (by omega) 1000)) rfl rfl rfl (Nat.le_of_ble_eq_true rfl) 319 1969 ⟨⟨(Nat.le_of_ble_eq_true rfl), (Nat.le_of_ble_eq_true rfl)⟩, (Nat.le_of_ble_eq_true rfl), (Nat.le_of_ble_eq_true rfl)⟩ (Nat.le_of_ble_eq_true rfl) (Nat.le_of_ble_eq_true rfl) (fun M60 hQ60 => ?_)
  refine hr_ldc lNA X (tL_at tL_refuses_10_ok 21 rfl) kKL_25 ?_
  refine hr_icmp_ne 1108 X (tL_at tL_refuses_10_ok 22 rfl) (by decide) (fun c => absurd rfl c) (fun _ => ?_)
  refine hr_aload_n X (tL_at tL_refuses_10_ok 23 rfl) rfl (Or.inr ⟨_, rfl⟩) ?_
  refine hr_iload X (tL_at tL_refuses_10_ok 24 rfl) rfl ?_
  refine hl_rq1 X kSL_used (tL_at tL_refuses_10_ok 25 rfl) (c_L_used cA hI hJ hQ60 g) (lf_w hg) rfl rfl rfl (Nat.le_of_ble_eq_true rfl) 320 1975 ⟨⟨(Nat.le_of_ble_eq_true rfl), (Nat.le_of_ble_eq_true rfl)⟩, (Nat.le_of_ble_eq_true rfl), (Nat.le_of_ble_eq_true rfl)⟩ (Nat.le_of_ble_eq_true rfl) (Nat.le_of_ble_eq_true rfl) (fun M61 hQ61 => ?_)
  refine hr_ldc lNI X (tL_at tL_refuses_10_ok 26 rfl) kKL_22 ?_
  refine hr_icmp_ne 1108 X (tL_at tL_refuses_10_ok 27 rfl) (by decide) (fun c => absurd rfl c) (fun _ => ?_)
  refine hr_aload_n X (tL_at tL_refuses_10_ok 28 rfl) rfl (Or.inr ⟨_, rfl⟩) ?_
  refine hr_iload X (tL_at tL_refuses_10_ok 29 rfl) rfl ?_
  refine hl_rq1 X kSL_usedAnew (tL_at tL_refuses_10_ok 30 rfl) (c_L_usedAnew cA hI hJ hQ61 g) (lf_w hg) rfl rfl rfl (Nat.le_of_ble_eq_true rfl) 321 1981 ⟨⟨(Nat.le_of_ble_eq_true rfl), (Nat.le_of_ble_eq_true rfl)⟩, (Nat.le_of_ble_eq_true rfl), (Nat.le_of_ble_eq_true rfl)⟩ (Nat.le_of_ble_eq_true rfl) (Nat.le_of_ble_eq_true rfl) (fun M62 hQ62 => ?_)
  refine hr_ldc lNI X (tL_at tL_refuses_10_ok 31 rfl) kKL_22 ?_
  refine hr_icmp_ne 1108 X (tL_at tL_refuses_10_ok 32 rfl) (by decide) (fun c => absurd rfl c) (fun _ => ?_)
  refine hr_iconst (nI 1) X (tL_at tL_refuses_10_ok 33 rfl) (by decide) ?_
  refine hr_goto 1109 X (tL_at tL_refuses_10_ok 34 rfl) (by decide) ?_
  refine hr_istore X (tL_at tL_refuses_10_ok 36 rfl) (Nat.le_of_ble_eq_true rfl) ?_
  exact kk _ hQ62
set_option maxHeartbeats 4000000 in
set_option maxRecDepth 100000 in
theorem w_RF3 {C : hm_C} {nm : String} {Q : State → Prop} {cA : Nat → ClassId} {sg : mm_S} {N M : hm_M} {b nr cr m a : Nat} {fn : Nat → Int32} {lo g s p t v : Int32} {o : Nat} {cl : Int32} (X : hm_X C RL cL_refuses 15 (some .boolean) nm r_L_refuses cA) (hI : sp_I sg) (hJ : sp_J sg) (ha : a < sp_n sg) (ha2 : a < 2) (hm : m < 9973) (h2n : sg 5 a = fn a) (hnr : N nr = some (cr_iw cA 0 2 fn)) (ho : o < 12) (hcl : cl = nI 0 ∧ sg 11 (4 * a + o / 3) = 0 ∨ cl = nI 1 ∧ sg 11 (4 * a + o / 3) = 1) (hQ : ls_Q cA N b sg M) (kend : ∀ M9 : hm_M, ls_Q cA N b sg M9 → ∀ L : List (Option Value), L.length = 15 → hm_W C 761 5061 Q M9 1376 L [.int (nI 1)]) : hm_W C 341 2121 Q M 1151 [some (.ref b), some (.ref nr), some (.ref cr), some (.int (nI m)), some (.int (lo)), some (.int (g)), some (.int (s)), some (.int (p)), some (.int (t)), some (.int (nI a)), some (.int (v)), some (.int (nI 1)), some (.int (nI o)), some (.int ((sg 13 (12 * a + o)))), some (.int (cl))] [] := by
  have ha4 : a < 4 := by omega
  have eK : sp_k (nI o) (nI a) = 12 * a + o := lf_kN ha4 ho
  have eL : 12 * nN (nI a) + nN (nI o) = 12 * a + o := eK
  have J1351 : ∀ M9 : hm_M, ls_Q cA N b sg M9 → hm_W C 701 4641 Q M9 1351 [some (.ref b), some (.ref nr), some (.ref cr), some (.int (nI m)), some (.int (lo)), some (.int (g)), some (.int (s)), some (.int (p)), some (.int (t)), some (.int (nI a)), some (.int (v)), some (.int (nI 1)), some (.int (nI o)), some (.int ((sg 13 (12 * a + o)))), some (.int (cl))] [] := by
    intro M9 hQ9
    refine hr_aload_n X (tL_at tL_refuses_12_ok 46 rfl) rfl (Or.inr ⟨_, rfl⟩) ?_
    refine hr_iload X (tL_at tL_refuses_12_ok 47 rfl) rfl ?_
    refine hr_aload_n X (tL_at tL_refuses_12_ok 48 rfl) rfl (Or.inr ⟨_, rfl⟩) ?_
    refine hr_iload_n X (tL_at tL_refuses_12_ok 49 rfl) rfl ?_
    refine hr_iconst (nI 4) X (tL_at tL_refuses_12_ok 50 rfl) (by decide) ?_
    refine hl_irem X (tL_at tL_refuses_12_ok 51 rfl) (by omega) (by decide) (by decide) ?_
    refine hr_iload X (tL_at tL_refuses_12_ok 52 rfl) rfl ?_
    refine hl_rq0 X kSL_head (tL_at tL_refuses_12_ok 53 rfl) (c_L_head cA hI hJ hQ9 (nI (m % 4)) (nI a)) (lf_w0 (lf_cs0 hI ha (Nat.mod_lt _ (by decide)))) rfl rfl rfl (Nat.le_of_ble_eq_true rfl) 703 4653 ⟨⟨(Nat.le_of_ble_eq_true rfl), (Nat.le_of_ble_eq_true rfl)⟩, (Nat.le_of_ble_eq_true rfl), (Nat.le_of_ble_eq_true rfl)⟩ (Nat.le_of_ble_eq_true rfl) (Nat.le_of_ble_eq_true rfl) (fun M1 hQ1 => ?_)
    rw [show nN (nI a) = a from nI_clamp (by omega), show nN (nI (m % 4)) = m % 4 from nI_clamp (by omega)]
    refine hl_rs2 X kSL_folds (tL_at tL_refuses_12_ok 54 rfl) (c_L_folds cA hI hJ hQ1 (nI a) ((sg 10 (4 * a + m % 4)))) (lf_foldH hI ha (Nat.mod_lt _ (by decide))) rfl rfl rfl (Nat.le_of_ble_eq_true rfl) 706 4671 ⟨⟨(Nat.le_of_ble_eq_true rfl), (Nat.le_of_ble_eq_true rfl)⟩, (Nat.le_of_ble_eq_true rfl), (Nat.le_of_ble_eq_true rfl)⟩ (Nat.le_of_ble_eq_true rfl) (Nat.le_of_ble_eq_true rfl) (fun M2 hQ2 => ?_)
    refine hr_ldc lNS X (tL_at tL_refuses_12_ok 55 rfl) kKL_15 ?_
    refine hr_icmp_ne 1375 X (tL_at tL_refuses_12_ok 56 rfl) (by decide) (fun c => absurd rfl c) (fun _ => ?_)
    refine hr_iconst (nI 1) X (tL_at tL_refuses_12_ok 57 rfl) (by decide) ?_
    refine hr_goto 1376 X (tL_at tL_refuses_12_ok 58 rfl) (by decide) ?_
    refine hr_widen (k2 := 761) (n2 := 5061) (Nat.le_of_ble_eq_true rfl) (Nat.le_of_ble_eq_true rfl) ?_
    exact kend _ hQ2 _ rfl
  have J1311 : ∀ M9 : hm_M, ls_Q cA N b sg M9 → hm_W C 641 4221 Q M9 1311 [some (.ref b), some (.ref nr), some (.ref cr), some (.int (nI m)), some (.int (lo)), some (.int (g)), some (.int (s)), some (.int (p)), some (.int (t)), some (.int (nI a)), some (.int (v)), some (.int (nI 1)), some (.int (nI o)), some (.int ((sg 13 (12 * a + o)))), some (.int (cl))] [] := by
    intro M9 hQ9
    refine hr_iconst (nI 1) X (tL_at tL_refuses_12_ok 22 rfl) (by decide) ?_
    refine hr_goto 1316 X (tL_at tL_refuses_12_ok 23 rfl) (by decide) ?_
    refine hr_istore X (tL_at tL_refuses_12_ok 25 rfl) (Nat.le_of_ble_eq_true rfl) ?_
    refine hr_iload X (tL_at tL_refuses_12_ok 26 rfl) rfl ?_
    refine hr_if_eq 1375 X (tL_at tL_refuses_12_ok 27 rfl) (by decide) (fun c => absurd c (by decide)) (fun _ => ?_)
    refine hr_aload_n X (tL_at tL_refuses_12_ok 28 rfl) rfl (Or.inr ⟨_, rfl⟩) ?_
    refine hr_iload X (tL_at tL_refuses_12_ok 29 rfl) rfl ?_
    refine hl_iald X (tL_at tL_refuses_12_ok 30 rfl) (ls_at hQ9 hnr) ha2 (by decide) ?_
    refine hr_bipush (nI 16) X (tL_at tL_refuses_12_ok 31 rfl) (by decide) ?_
    refine hr_icmp_lt 1351 X (tL_at tL_refuses_12_ok 32 rfl) (by decide) (fun c => ?_) (fun c => ?_)
    · refine hr_widen (k2 := 701) (n2 := 4641) (Nat.le_of_ble_eq_true rfl) (Nat.le_of_ble_eq_true rfl) ?_
      exact J1351 _ hQ9
    · refine hr_aload_n X (tL_at tL_refuses_12_ok 33 rfl) rfl (Or.inr ⟨_, rfl⟩) ?_
      refine hr_iload_n X (tL_at tL_refuses_12_ok 34 rfl) rfl ?_
      refine hr_iconst (nI 4) X (tL_at tL_refuses_12_ok 35 rfl) (by decide) ?_
      refine hl_irem X (tL_at tL_refuses_12_ok 36 rfl) (by omega) (by decide) (by decide) ?_
      refine hr_iload X (tL_at tL_refuses_12_ok 37 rfl) rfl ?_
      refine hr_iload_n X (tL_at tL_refuses_12_ok 38 rfl) rfl ?_
      refine hr_iconst (nI 5) X (tL_at tL_refuses_12_ok 39 rfl) (by decide) ?_
      refine hl_irem X (tL_at tL_refuses_12_ok 40 rfl) (by omega) (by decide) (by decide) ?_
      refine hr_iconst (nI 1) X (tL_at tL_refuses_12_ok 41 rfl) (by decide) ?_
      refine hr_iconst (nI 1) X (tL_at tL_refuses_12_ok 42 rfl) (by decide) ?_
      refine hl_rs3 X kSL_choices (tL_at tL_refuses_12_ok 43 rfl) (c_L_choices cA hI hJ hQ9 (nI (m % 4)) (nI a) (nI (m % 5)) (nI 1) (nI 1)) (lf_set3 (lf_nT hI ha (Nat.mod_lt _ (by decide)) (Nat.mod_lt _ (by decide))) (by decide) (lf_full hI ha h2n c)) rfl rfl rfl (Nat.le_of_ble_eq_true rfl) 650 4270 ⟨⟨(Nat.le_of_ble_eq_true rfl), (Nat.le_of_ble_eq_true rfl)⟩, (Nat.le_of_ble_eq_true rfl), (Nat.le_of_ble_eq_true rfl)⟩ (Nat.le_of_ble_eq_true rfl) (Nat.le_of_ble_eq_true rfl) (fun M1 hQ1 => ?_)
      refine hr_ldc lNS X (tL_at tL_refuses_12_ok 44 rfl) kKL_15 ?_
      refine hr_icmp_ne 1375 X (tL_at tL_refuses_12_ok 45 rfl) (by decide) (fun c => absurd rfl c) (fun _ => ?_)
      refine hr_widen (k2 := 701) (n2 := 4641) (Nat.le_of_ble_eq_true rfl) (Nat.le_of_ble_eq_true rfl) ?_
      exact J1351 _ hQ1
  have J1291 : ∀ M9 : hm_M, ls_Q cA N b sg M9 → hm_W C 581 3801 Q M9 1291 [some (.ref b), some (.ref nr), some (.ref cr), some (.int (nI m)), some (.int (lo)), some (.int (g)), some (.int (s)), some (.int (p)), some (.int (t)), some (.int (nI a)), some (.int (v)), some (.int (nI 1)), some (.int (nI o)), some (.int ((sg 13 (12 * a + o)))), some (.int (cl))] [] := by
    intro M9 hQ9
    refine hr_iload X (tL_at tL_refuses_12_ok 12 rfl) rfl ?_
    refine hr_if_eq 1311 X (tL_at tL_refuses_12_ok 13 rfl) (by decide) (fun c => ?_) (fun c => ?_)
    · refine hr_widen (k2 := 641) (n2 := 4221) (Nat.le_of_ble_eq_true rfl) (Nat.le_of_ble_eq_true rfl) ?_
      exact J1311 _ hQ9
    · refine hr_aload_n X (tL_at tL_refuses_12_ok 14 rfl) rfl (Or.inr ⟨_, rfl⟩) ?_
      refine hr_iload X (tL_at tL_refuses_12_ok 15 rfl) rfl ?_
      refine hr_iconst (nI 3) X (tL_at tL_refuses_12_ok 16 rfl) (by decide) ?_
      refine hl_idiv X (tL_at tL_refuses_12_ok 17 rfl) (by omega) (by decide) (by decide) ?_
      refine hr_iload X (tL_at tL_refuses_12_ok 18 rfl) rfl ?_
      refine hl_rs2 X kSL_closes (tL_at tL_refuses_12_ok 19 rfl) (c_L_closes cA hI hJ hQ9 (nI (o / 3)) (nI a)) (lf_clo2 (lf_csT hI ha (by omega)) (by rw [show nN (nI a) = a from nI_clamp (by omega), show nN (nI (o / 3)) = o / 3 from nI_clamp (by omega)]; exact lf_cl1 hcl c)) rfl rfl rfl (Nat.le_of_ble_eq_true rfl) 584 3819 ⟨⟨(Nat.le_of_ble_eq_true rfl), (Nat.le_of_ble_eq_true rfl)⟩, (Nat.le_of_ble_eq_true rfl), (Nat.le_of_ble_eq_true rfl)⟩ (Nat.le_of_ble_eq_true rfl) (Nat.le_of_ble_eq_true rfl) (fun M1 hQ1 => ?_)
      refine hr_ldc lNS X (tL_at tL_refuses_12_ok 20 rfl) kKL_15 ?_
      refine hr_icmp_ne 1315 X (tL_at tL_refuses_12_ok 21 rfl) (by decide) (fun c => absurd rfl c) (fun _ => ?_)
      refine hr_widen (k2 := 641) (n2 := 4221) (Nat.le_of_ble_eq_true rfl) (Nat.le_of_ble_eq_true rfl) ?_
      exact J1311 _ hQ1
  have J1262 : ∀ M9 : hm_M, ls_Q cA N b sg M9 → hm_W C 521 3381 Q M9 1262 [some (.ref b), some (.ref nr), some (.ref cr), some (.int (nI m)), some (.int (lo)), some (.int (g)), some (.int (s)), some (.int (p)), some (.int (t)), some (.int (nI a)), some (.int (v)), some (.int (nI 1)), some (.int (nI o)), some (.int ((sg 13 (12 * a + o)))), some (.int (cl))] [] := by
    intro M9 hQ9
    refine hr_iload X (tL_at tL_refuses_11_ok 58 rfl) rfl ?_
    refine hr_iconst (nI 1) X (tL_at tL_refuses_11_ok 59 rfl) (by decide) ?_
    refine hr_icmp_ne 1291 X (tL_at tL_refuses_12_ok 0 rfl) (by decide) (fun c0 => ?_) (fun c0 => ?_)
    · refine hr_widen (k2 := 581) (n2 := 3801) (Nat.le_of_ble_eq_true rfl) (Nat.le_of_ble_eq_true rfl) ?_
      exact J1291 _ hQ9
    · refine hr_aload_n X (tL_at tL_refuses_12_ok 1 rfl) rfl (Or.inr ⟨_, rfl⟩) ?_
      refine hr_iload X (tL_at tL_refuses_12_ok 2 rfl) rfl ?_
      refine hr_iload X (tL_at tL_refuses_12_ok 3 rfl) rfl ?_
      refine hl_rq0 X kSL_mark (tL_at tL_refuses_12_ok 4 rfl) (c_L_mark cA hI hJ hQ9 (nI o) (nI a)) (lf_w0 (lf_bT hI ha ho)) rfl rfl rfl (Nat.le_of_ble_eq_true rfl) 523 3393 ⟨⟨(Nat.le_of_ble_eq_true rfl), (Nat.le_of_ble_eq_true rfl)⟩, (Nat.le_of_ble_eq_true rfl), (Nat.le_of_ble_eq_true rfl)⟩ (Nat.le_of_ble_eq_true rfl) (Nat.le_of_ble_eq_true rfl) (fun M1 hQ1 => ?_)
      refine hr_iconst ((-1)) X (tL_at tL_refuses_12_ok 5 rfl) (by decide) ?_
      refine hr_icmp_ne 1315 X (tL_at tL_refuses_12_ok 6 rfl) (by decide) (fun c => absurd (show sp_rMark sg (sp_k (nI o) (nI a)) = -1 from if_neg (by rw [eK, c0]; decide)) c) (fun _ => ?_)
      refine hr_aload_n X (tL_at tL_refuses_12_ok 7 rfl) rfl (Or.inr ⟨_, rfl⟩) ?_
      refine hr_iload X (tL_at tL_refuses_12_ok 8 rfl) rfl ?_
      refine hr_iload X (tL_at tL_refuses_12_ok 9 rfl) rfl ?_
      refine hl_rq0 X kSL_prints (tL_at tL_refuses_12_ok 10 rfl) (c_L_prints cA hI hJ hQ1 (nI o) (nI a)) (lf_w0 (lf_bT hI ha ho)) rfl rfl rfl (Nat.le_of_ble_eq_true rfl) 525 3405 ⟨⟨(Nat.le_of_ble_eq_true rfl), (Nat.le_of_ble_eq_true rfl)⟩, (Nat.le_of_ble_eq_true rfl), (Nat.le_of_ble_eq_true rfl)⟩ (Nat.le_of_ble_eq_true rfl) (Nat.le_of_ble_eq_true rfl) (fun M2 hQ2 => ?_)
      refine hr_if_ne 1315 X (tL_at tL_refuses_12_ok 11 rfl) (by decide) (fun c => absurd (show nI (sp_prs sg (sp_k (nI o) (nI a))).length = 0 by rw [eK]; unfold sp_prs; rw [if_neg (fun q => absurd (c0.symm.trans q.1) (by decide))]; rfl) c) (fun _ => ?_)
      refine hr_widen (k2 := 581) (n2 := 3801) (Nat.le_of_ble_eq_true rfl) (Nat.le_of_ble_eq_true rfl) ?_
      exact J1291 _ hQ2
  have J1226 : ∀ M9 : hm_M, ls_Q cA N b sg M9 → hm_W C 461 2961 Q M9 1226 [some (.ref b), some (.ref nr), some (.ref cr), some (.int (nI m)), some (.int (lo)), some (.int (g)), some (.int (s)), some (.int (p)), some (.int (t)), some (.int (nI a)), some (.int (v)), some (.int (nI 1)), some (.int (nI o)), some (.int ((sg 13 (12 * a + o)))), some (.int (cl))] [] := by
    intro M9 hQ9
    refine hr_iload X (tL_at tL_refuses_11_ok 39 rfl) rfl ?_
    refine hr_iconst (nI 2) X (tL_at tL_refuses_11_ok 40 rfl) (by decide) ?_
    refine hr_icmp_ne 1262 X (tL_at tL_refuses_11_ok 41 rfl) (by decide) (fun c0 => ?_) (fun c0 => ?_)
    · refine hr_widen (k2 := 521) (n2 := 3381) (Nat.le_of_ble_eq_true rfl) (Nat.le_of_ble_eq_true rfl) ?_
      exact J1262 _ hQ9
    · refine hr_aload_n X (tL_at tL_refuses_11_ok 42 rfl) rfl (Or.inr ⟨_, rfl⟩) ?_
      refine hr_iload X (tL_at tL_refuses_11_ok 43 rfl) rfl ?_
      refine hr_iload X (tL_at tL_refuses_11_ok 44 rfl) rfl ?_
      refine hl_rs2 X kSL_hands (tL_at tL_refuses_11_ok 45 rfl) (c_L_hands cA hI hJ hQ9 (nI o) (nI a)) (lf_hand2 (lf_bT hI ha ho) (by rw [eK, c0]; decide)) rfl rfl rfl (Nat.le_of_ble_eq_true rfl) 464 2979 ⟨⟨(Nat.le_of_ble_eq_true rfl), (Nat.le_of_ble_eq_true rfl)⟩, (Nat.le_of_ble_eq_true rfl), (Nat.le_of_ble_eq_true rfl)⟩ (Nat.le_of_ble_eq_true rfl) (Nat.le_of_ble_eq_true rfl) (fun M1 hQ1 => ?_)
      refine hr_ldc lNS X (tL_at tL_refuses_11_ok 46 rfl) kKL_15 ?_
      refine hr_icmp_ne 1315 X (tL_at tL_refuses_11_ok 47 rfl) (by decide) (fun c => absurd rfl c) (fun _ => ?_)
      refine hr_aload_n X (tL_at tL_refuses_11_ok 48 rfl) rfl (Or.inr ⟨_, rfl⟩) ?_
      refine hr_iload X (tL_at tL_refuses_11_ok 49 rfl) rfl ?_
      refine hr_iload X (tL_at tL_refuses_11_ok 50 rfl) rfl ?_
      refine hr_iload_n X (tL_at tL_refuses_11_ok 51 rfl) rfl ?_
      refine hr_iconst (nI 5) X (tL_at tL_refuses_11_ok 52 rfl) (by decide) ?_
      refine hl_irem X (tL_at tL_refuses_11_ok 53 rfl) (by omega) (by decide) (by decide) ?_
      refine hr_iconst (nI 1) X (tL_at tL_refuses_11_ok 54 rfl) (by decide) ?_
      refine hl_rs3 X kSL_says (tL_at tL_refuses_11_ok 55 rfl) (c_L_says cA hI hJ hQ1 (nI o) (nI a) (nI (m % 5)) (nI 1)) (lf_say3 (lf_bT hI ha ho) (Nat.mod_lt _ (by decide)) (by rw [eL, c0]; decide)) rfl rfl rfl (Nat.le_of_ble_eq_true rfl) 472 3027 ⟨⟨(Nat.le_of_ble_eq_true rfl), (Nat.le_of_ble_eq_true rfl)⟩, (Nat.le_of_ble_eq_true rfl), (Nat.le_of_ble_eq_true rfl)⟩ (Nat.le_of_ble_eq_true rfl) (Nat.le_of_ble_eq_true rfl) (fun M2 hQ2 => ?_)
      refine hr_ldc lNS X (tL_at tL_refuses_11_ok 56 rfl) kKL_15 ?_
      refine hr_icmp_ne 1315 X (tL_at tL_refuses_11_ok 57 rfl) (by decide) (fun c => absurd rfl c) (fun _ => ?_)
      refine hr_widen (k2 := 521) (n2 := 3381) (Nat.le_of_ble_eq_true rfl) (Nat.le_of_ble_eq_true rfl) ?_
      exact J1262 _ hQ2
  have J1213 : ¬ sg 13 (12 * a + o) = 0 ∨ ¬ cl = 0 → ∀ M9 : hm_M, ls_Q cA N b sg M9 → hm_W C 407 2581 Q M9 1213 [some (.ref b), some (.ref nr), some (.ref cr), some (.int (nI m)), some (.int (lo)), some (.int (g)), some (.int (s)), some (.int (p)), some (.int (t)), some (.int (nI a)), some (.int (v)), some (.int (nI 1)), some (.int (nI o)), some (.int ((sg 13 (12 * a + o)))), some (.int (cl))] [] := by
    intro hor M9 hQ9
    refine hr_aload_n X (tL_at tL_refuses_11_ok 33 rfl) rfl (Or.inr ⟨_, rfl⟩) ?_
    refine hr_iload X (tL_at tL_refuses_11_ok 34 rfl) rfl ?_
    refine hr_iload X (tL_at tL_refuses_11_ok 35 rfl) rfl ?_
    refine hl_rs2 X kSL_opens (tL_at tL_refuses_11_ok 36 rfl) (c_L_opens cA hI hJ hQ9 (nI o) (nI a)) (lf_open2 (lf_bT hI ha ho) (lf_canO ha4 ho hcl hor)) rfl rfl rfl (Nat.le_of_ble_eq_true rfl) 423 2747 ⟨⟨(Nat.le_of_ble_eq_true rfl), (Nat.le_of_ble_eq_true rfl)⟩, (Nat.le_of_ble_eq_true rfl), (Nat.le_of_ble_eq_true rfl)⟩ (Nat.le_of_ble_eq_true rfl) (Nat.le_of_ble_eq_true rfl) (fun M1 hQ1 => ?_)
    refine hr_ldc lNS X (tL_at tL_refuses_11_ok 37 rfl) kKL_15 ?_
    refine hr_icmp_ne 1315 X (tL_at tL_refuses_11_ok 38 rfl) (by decide) (fun c => absurd rfl c) (fun _ => ?_)
    refine hr_widen (k2 := 461) (n2 := 2961) (Nat.le_of_ble_eq_true rfl) (Nat.le_of_ble_eq_true rfl) ?_
    exact J1226 _ hQ1
  have J1203 : ∀ M9 : hm_M, ls_Q cA N b sg M9 → hm_W C 401 2541 Q M9 1203 [some (.ref b), some (.ref nr), some (.ref cr), some (.int (nI m)), some (.int (lo)), some (.int (g)), some (.int (s)), some (.int (p)), some (.int (t)), some (.int (nI a)), some (.int (v)), some (.int (nI 1)), some (.int (nI o)), some (.int ((sg 13 (12 * a + o)))), some (.int (cl))] [] := by
    intro M9 hQ9
    refine hr_iload X (tL_at tL_refuses_11_ok 29 rfl) rfl ?_
    refine hr_if_ne 1213 X (tL_at tL_refuses_11_ok 30 rfl) (by decide) (fun c0 => ?_) (fun c0 => ?_)
    · refine hr_widen (k2 := 407) (n2 := 2581) (Nat.le_of_ble_eq_true rfl) (Nat.le_of_ble_eq_true rfl) ?_
      exact J1213 (Or.inl c0) _ hQ9
    · refine hr_iload X (tL_at tL_refuses_11_ok 31 rfl) rfl ?_
      refine hr_if_eq 1226 X (tL_at tL_refuses_11_ok 32 rfl) (by decide) (fun c2 => ?_) (fun c2 => ?_)
      · refine hr_widen (k2 := 461) (n2 := 2961) (Nat.le_of_ble_eq_true rfl) (Nat.le_of_ble_eq_true rfl) ?_
        exact J1226 _ hQ9
      · refine hr_widen (k2 := 407) (n2 := 2581) (Nat.le_of_ble_eq_true rfl) (Nat.le_of_ble_eq_true rfl) ?_
        exact J1213 (Or.inr c2) _ hQ9
  refine hr_iload X (tL_at tL_refuses_11_ok 3 rfl) rfl ?_
  refine hr_if_eq 1315 X (tL_at tL_refuses_11_ok 4 rfl) (by decide) (fun c => absurd c (by decide)) (fun _ => ?_)
  refine hr_iload X (tL_at tL_refuses_11_ok 5 rfl) rfl ?_
  refine hr_if_ne 1203 X (tL_at tL_refuses_11_ok 6 rfl) (by decide) (fun c0 => ?_) (fun c0 => ?_)
  · refine hr_widen (k2 := 401) (n2 := 2541) (Nat.le_of_ble_eq_true rfl) (Nat.le_of_ble_eq_true rfl) ?_
    exact J1203 _ hQ
  · refine hr_aload_n X (tL_at tL_refuses_11_ok 7 rfl) rfl (Or.inr ⟨_, rfl⟩) ?_
    refine hr_iload X (tL_at tL_refuses_11_ok 8 rfl) rfl ?_
    refine hr_iload X (tL_at tL_refuses_11_ok 9 rfl) rfl ?_
    refine hl_rs2 X kSL_hands (tL_at tL_refuses_11_ok 10 rfl) (c_L_hands cA hI hJ hQ (nI o) (nI a)) (lf_hand2 (lf_bT hI ha ho) (by rw [eK, c0]; decide)) rfl rfl rfl (Nat.le_of_ble_eq_true rfl) 344 2139 ⟨⟨(Nat.le_of_ble_eq_true rfl), (Nat.le_of_ble_eq_true rfl)⟩, (Nat.le_of_ble_eq_true rfl), (Nat.le_of_ble_eq_true rfl)⟩ (Nat.le_of_ble_eq_true rfl) (Nat.le_of_ble_eq_true rfl) (fun M1 hQ1 => ?_)
    refine hr_ldc lNS X (tL_at tL_refuses_11_ok 11 rfl) kKL_15 ?_
    refine hr_icmp_ne 1315 X (tL_at tL_refuses_11_ok 12 rfl) (by decide) (fun c => absurd rfl c) (fun _ => ?_)
    refine hr_aload_n X (tL_at tL_refuses_11_ok 13 rfl) rfl (Or.inr ⟨_, rfl⟩) ?_
    refine hr_iload X (tL_at tL_refuses_11_ok 14 rfl) rfl ?_
    refine hr_iload X (tL_at tL_refuses_11_ok 15 rfl) rfl ?_
    refine hr_iload_n X (tL_at tL_refuses_11_ok 16 rfl) rfl ?_
    refine hr_iconst (nI 5) X (tL_at tL_refuses_11_ok 17 rfl) (by decide) ?_
    refine hl_irem X (tL_at tL_refuses_11_ok 18 rfl) (by omega) (by decide) (by decide) ?_
    refine hr_iconst (nI 1) X (tL_at tL_refuses_11_ok 19 rfl) (by decide) ?_
    refine hl_rs3 X kSL_says (tL_at tL_refuses_11_ok 20 rfl) (c_L_says cA hI hJ hQ1 (nI o) (nI a) (nI (m % 5)) (nI 1)) (lf_say3 (lf_bT hI ha ho) (Nat.mod_lt _ (by decide)) (by rw [eL, c0]; decide)) rfl rfl rfl (Nat.le_of_ble_eq_true rfl) 352 2187 ⟨⟨(Nat.le_of_ble_eq_true rfl), (Nat.le_of_ble_eq_true rfl)⟩, (Nat.le_of_ble_eq_true rfl), (Nat.le_of_ble_eq_true rfl)⟩ (Nat.le_of_ble_eq_true rfl) (Nat.le_of_ble_eq_true rfl) (fun M2 hQ2 => ?_)
    refine hr_ldc lNS X (tL_at tL_refuses_11_ok 21 rfl) kKL_15 ?_
    refine hr_icmp_ne 1315 X (tL_at tL_refuses_11_ok 22 rfl) (by decide) (fun c => absurd rfl c) (fun _ => ?_)
    refine hr_aload_n X (tL_at tL_refuses_11_ok 23 rfl) rfl (Or.inr ⟨_, rfl⟩) ?_
    refine hr_iload X (tL_at tL_refuses_11_ok 24 rfl) rfl ?_
    refine hr_iload X (tL_at tL_refuses_11_ok 25 rfl) rfl ?_
    refine hl_rq0 X kSL_due (tL_at tL_refuses_11_ok 26 rfl) (c_L_due cA hI hJ hQ2 (nI o) (nI a)) (lf_w0 (lf_bT hI ha ho)) rfl rfl rfl (Nat.le_of_ble_eq_true rfl) 354 2199 ⟨⟨(Nat.le_of_ble_eq_true rfl), (Nat.le_of_ble_eq_true rfl)⟩, (Nat.le_of_ble_eq_true rfl), (Nat.le_of_ble_eq_true rfl)⟩ (Nat.le_of_ble_eq_true rfl) (Nat.le_of_ble_eq_true rfl) (fun M3 hQ3 => ?_)
    refine hr_iconst ((-1)) X (tL_at tL_refuses_11_ok 27 rfl) (by decide) ?_
    refine hr_icmp_ne 1315 X (tL_at tL_refuses_11_ok 28 rfl) (by decide) (fun c => absurd (show sp_rDue sg (sp_k (nI o) (nI a)) = -1 by rw [eK]; exact if_pos c0) c) (fun _ => ?_)
    refine hr_widen (k2 := 401) (n2 := 2541) (Nat.le_of_ble_eq_true rfl) (Nat.le_of_ble_eq_true rfl) ?_
    exact J1203 _ hQ3
set_option maxHeartbeats 4000000 in
set_option maxRecDepth 100000 in
theorem w_RF2 {C : hm_C} {nm : String} {Q : State → Prop} {cA : Nat → ClassId} {sg : mm_S} {N M : hm_M} {b nr cr m a : Nat} {fn fc : Nat → Int32} {lo g s p t v : Int32} (X : hm_X C RL cL_refuses 15 (some .boolean) nm r_L_refuses cA) (hI : sp_I sg) (hJ : sp_J sg) (ha : a < sp_n sg) (ha2 : a < 2) (hm : m < 9973) (h2n : sg 5 a = fn a) (hnr : N nr = some (cr_iw cA 0 2 fn)) (hcr : N cr = some (cr_iw cA 0 2 fc)) (e2 : ∀ a g, a < 2 → g < 4 → (fc a >>> (nI g &&& 31)) &&& nI 1 = sg 11 (4 * a + g)) (hQ : ls_Q cA N b sg M) (kend : ∀ M9 : hm_M, ls_Q cA N b sg M9 → ∀ L : List (Option Value), L.length = 15 → hm_W C 761 5061 Q M9 1376 L [.int (nI 1)]) : hm_W C 321 1981 Q M 1111 [some (.ref b), some (.ref nr), some (.ref cr), some (.int (nI m)), some (.int (lo)), some (.int (g)), some (.int (s)), some (.int (p)), some (.int (t)), some (.int (nI a)), some (.int (v)), some (.int (nI 1)), none, none, none] [] := by
  obtain ⟨o, hoe⟩ : ∃ o, o = m / 4 % 12 := ⟨_, rfl⟩
  have ho : o < 12 := by omega
  have ha4 : a < 4 := by omega
  refine hr_iload_n X (tL_at tL_refuses_10_ok 37 rfl) rfl ?_
  refine hr_iconst (nI 4) X (tL_at tL_refuses_10_ok 38 rfl) (by decide) ?_
  refine hl_idiv X (tL_at tL_refuses_10_ok 39 rfl) (by omega) (by decide) (by decide) ?_
  refine hr_bipush (nI 12) X (tL_at tL_refuses_10_ok 40 rfl) (by decide) ?_
  refine hl_irem X (tL_at tL_refuses_10_ok 41 rfl) (by omega) (by decide) (by decide) ?_
  rw [← hoe]
  refine hr_istore X (tL_at tL_refuses_10_ok 42 rfl) (Nat.le_of_ble_eq_true rfl) ?_
  refine hr_aload_n X (tL_at tL_refuses_10_ok 43 rfl) rfl (Or.inr ⟨_, rfl⟩) ?_
  refine hr_iload X (tL_at tL_refuses_10_ok 44 rfl) rfl ?_
  refine hr_iload X (tL_at tL_refuses_10_ok 45 rfl) rfl ?_
  refine hl_rq0 X kSL_answer (tL_at tL_refuses_10_ok 46 rfl) (c_L_answer cA hI hJ hQ (nI o) (nI a)) (lf_w0 (lf_bT hI ha ho)) rfl rfl rfl (Nat.le_of_ble_eq_true rfl) 323 1993 ⟨⟨(Nat.le_of_ble_eq_true rfl), (Nat.le_of_ble_eq_true rfl)⟩, (Nat.le_of_ble_eq_true rfl), (Nat.le_of_ble_eq_true rfl)⟩ (Nat.le_of_ble_eq_true rfl) (Nat.le_of_ble_eq_true rfl) (fun M1 hQ1 => ?_)
  rw [lf_kN ha4 ho]
  refine hr_istore X (tL_at tL_refuses_10_ok 47 rfl) (Nat.le_of_ble_eq_true rfl) ?_
  refine hr_aload_n X (tL_at tL_refuses_10_ok 48 rfl) rfl (Or.inr ⟨_, rfl⟩) ?_
  refine hr_iload X (tL_at tL_refuses_10_ok 49 rfl) rfl ?_
  refine hl_iald X (tL_at tL_refuses_10_ok 50 rfl) (ls_at hQ1 hcr) ha2 (by decide) ?_
  refine hr_iload X (tL_at tL_refuses_10_ok 51 rfl) rfl ?_
  refine hr_iconst (nI 3) X (tL_at tL_refuses_10_ok 52 rfl) (by decide) ?_
  refine hl_idiv X (tL_at tL_refuses_10_ok 53 rfl) (by omega) (by decide) (by decide) ?_
  refine hr_ishr X (tL_at tL_refuses_10_ok 54 rfl) ?_
  refine hr_iconst (nI 1) X (tL_at tL_refuses_10_ok 55 rfl) (by decide) ?_
  refine hr_iand X (tL_at tL_refuses_10_ok 56 rfl) ?_
  rw [e2 a (o / 3) ha2 (by omega)]
  refine hr_iconst (nI 1) X (tL_at tL_refuses_10_ok 57 rfl) (by decide) ?_
  rcases hI.i4.2.1 (4 * a + o / 3) (by omega) with hz | hz
  · rw [hz]
    refine hr_icmp_ne 1148 X (tL_at tL_refuses_10_ok 58 rfl) (by decide) (fun _ => ?_) (fun c => absurd c (by decide))
    refine hr_iconst (nI 0) X (tL_at tL_refuses_11_ok 1 rfl) (by decide) ?_
    refine hr_istore X (tL_at tL_refuses_11_ok 2 rfl) (Nat.le_of_ble_eq_true rfl) ?_
    refine hr_widen (k2 := 341) (n2 := 2121) (Nat.le_of_ble_eq_true rfl) (Nat.le_of_ble_eq_true rfl) ?_
    exact w_RF3 X hI hJ ha ha2 hm h2n hnr ho (Or.inl ⟨rfl, hz⟩) hQ1 kend
  · rw [hz]
    refine hr_icmp_ne 1148 X (tL_at tL_refuses_10_ok 58 rfl) (by decide) (fun c => absurd rfl c) (fun _ => ?_)
    refine hr_iconst (nI 1) X (tL_at tL_refuses_10_ok 59 rfl) (by decide) ?_
    refine hr_goto 1149 X (tL_at tL_refuses_11_ok 0 rfl) (by decide) ?_
    refine hr_istore X (tL_at tL_refuses_11_ok 2 rfl) (Nat.le_of_ble_eq_true rfl) ?_
    refine hr_widen (k2 := 341) (n2 := 2121) (Nat.le_of_ble_eq_true rfl) (Nat.le_of_ble_eq_true rfl) ?_
    exact w_RF3 X hI hJ ha ha2 hm h2n hnr ho (Or.inr ⟨rfl, hz⟩) hQ1 kend
set_option maxHeartbeats 4000000 in
set_option maxRecDepth 100000 in
theorem c_L_refuses (cA : Nat → ClassId) {sg : mm_S} {N M : hm_M} {b nr cr m : Nat} {fn fc : Nat → Int32} (hI : sp_I sg) (hJ : sp_J sg) (h2 : 2 ≤ sp_n sg) (hm : m < 9973) (e1 : ∀ a, a < 2 → sg 5 a = fn a) (hnr : N nr = some (cr_iw cA 0 2 fn)) (hcr : N cr = some (cr_iw cA 0 2 fc)) (e2 : ∀ a g, a < 2 → g < 4 → (fc a >>> (nI g &&& 31)) &&& nI 1 = sg 11 (4 * a + g)) (hQ : ls_Q cA N b sg M) : hm_Met cA yL_refuses cL_refuses 15 (some .boolean) r_L_refuses [.ref b, .ref nr, .ref cr, .int (nI m)] M (lw_R cA N b (nI 1) sg) := by
  refine hm_met 11 (by decide +kernel) (fun w h => by simp only [List.mem_cons, List.not_mem_nil, or_false] at h; rcases h with rfl | rfl | rfl | rfl <;> rfl) rfl (fun C X => ?_)
  show hm_W C 0 0 _ M 0 [some (.ref b), some (.ref nr), some (.ref cr), some (.int (nI m)), none, none, none, none, none, none, none, none, none, none, none] []
  obtain ⟨a, hae⟩ : ∃ a, a = m / 2 % 2 := ⟨_, rfl⟩
  have ha2 : a < 2 := by omega
  have ha : a < sp_n sg := by omega
  obtain ⟨mm, m1, m2, hmm, -⟩ := hI.i2 a ha
  have kend : ∀ M9 : hm_M, ls_Q cA N b sg M9 → ∀ L : List (Option Value), L.length = 15 → hm_W C 761 5061 (hm_T C (lw_R cA N b (nI 1) sg) r_L_refuses.cells r_L_refuses.slots) M9 1376 L [.int (nI 1)] := fun M9 hQ9 L hL => hr_zret X (tL_at tL_refuses_13_ok 0 rfl) (by rfl) (Nat.le_of_ble_eq_true rfl) (Nat.le_of_ble_eq_true rfl) ⟨rfl, hQ9⟩
  rcases Nat.mod_two_eq_zero_or_one m with hm2 | hm2
  · refine hr_iload_n X (tL_at tL_refuses_0_ok 0 rfl) rfl ?_
    refine hr_iconst (nI 2) X (tL_at tL_refuses_0_ok 1 rfl) (by decide) ?_
    refine hl_irem X (tL_at tL_refuses_0_ok 2 rfl) (by omega) (by decide) (by decide) ?_
    rw [hm2]
    refine hr_if_ne 10 X (tL_at tL_refuses_0_ok 3 rfl) (by decide) (fun c => absurd rfl c) (fun _ => ?_)
    refine hr_iconst (nI 1) X (tL_at tL_refuses_0_ok 4 rfl) (by decide) ?_
    refine hr_goto 11 X (tL_at tL_refuses_0_ok 5 rfl) (by decide) ?_
    refine hr_istore X (tL_at tL_refuses_0_ok 7 rfl) (Nat.le_of_ble_eq_true rfl) ?_
    refine hr_iload X (tL_at tL_refuses_0_ok 8 rfl) rfl ?_
    refine hr_if_eq 27 X (tL_at tL_refuses_0_ok 9 rfl) (by decide) (fun c => absurd c (by decide)) (fun _ => ?_)
    refine hr_iconst ((-1)) X (tL_at tL_refuses_0_ok 10 rfl) (by decide) ?_
    refine hr_iload_n X (tL_at tL_refuses_0_ok 11 rfl) rfl ?_
    refine hr_bipush (nI 50) X (tL_at tL_refuses_0_ok 12 rfl) (by decide) ?_
    refine hl_irem X (tL_at tL_refuses_0_ok 13 rfl) (by omega) (by decide) (by decide) ?_
    refine hr_isub X (tL_at tL_refuses_0_ok 14 rfl) ?_
    refine hr_goto 33 X (tL_at tL_refuses_0_ok 15 rfl) (by decide) ?_
    refine hr_istore X (tL_at tL_refuses_0_ok 21 rfl) (Nat.le_of_ble_eq_true rfl) ?_
    refine hr_iload X (tL_at tL_refuses_0_ok 22 rfl) rfl ?_
    refine hr_if_eq 49 X (tL_at tL_refuses_0_ok 23 rfl) (by decide) (fun c => absurd c (by decide)) (fun _ => ?_)
    refine hr_iconst ((-1)) X (tL_at tL_refuses_0_ok 24 rfl) (by decide) ?_
    refine hr_iload_n X (tL_at tL_refuses_0_ok 25 rfl) rfl ?_
    refine hr_bipush (nI 50) X (tL_at tL_refuses_0_ok 26 rfl) (by decide) ?_
    refine hl_irem X (tL_at tL_refuses_0_ok 27 rfl) (by omega) (by decide) (by decide) ?_
    refine hr_isub X (tL_at tL_refuses_0_ok 28 rfl) ?_
    refine hr_goto 58 X (tL_at tL_refuses_0_ok 29 rfl) (by decide) ?_
    refine hr_istore X (tL_at tL_refuses_0_ok 36 rfl) (Nat.le_of_ble_eq_true rfl) ?_
    refine hr_iload X (tL_at tL_refuses_0_ok 37 rfl) rfl ?_
    refine hr_if_eq 74 X (tL_at tL_refuses_0_ok 38 rfl) (by decide) (fun c => absurd c (by decide)) (fun _ => ?_)
    refine hr_iconst ((-1)) X (tL_at tL_refuses_0_ok 39 rfl) (by decide) ?_
    refine hr_iload_n X (tL_at tL_refuses_0_ok 40 rfl) rfl ?_
    refine hr_bipush (nI 50) X (tL_at tL_refuses_0_ok 41 rfl) (by decide) ?_
    refine hl_irem X (tL_at tL_refuses_0_ok 42 rfl) (by omega) (by decide) (by decide) ?_
    refine hr_isub X (tL_at tL_refuses_0_ok 43 rfl) ?_
    refine hr_goto 81 X (tL_at tL_refuses_0_ok 44 rfl) (by decide) ?_
    refine hr_istore X (tL_at tL_refuses_0_ok 50 rfl) (Nat.le_of_ble_eq_true rfl) ?_
    refine hr_iload X (tL_at tL_refuses_0_ok 51 rfl) rfl ?_
    refine hr_if_eq 97 X (tL_at tL_refuses_0_ok 52 rfl) (by decide) (fun c => absurd c (by decide)) (fun _ => ?_)
    refine hr_iconst ((-1)) X (tL_at tL_refuses_0_ok 53 rfl) (by decide) ?_
    refine hr_iload_n X (tL_at tL_refuses_0_ok 54 rfl) rfl ?_
    refine hr_bipush (nI 50) X (tL_at tL_refuses_0_ok 55 rfl) (by decide) ?_
    refine hl_irem X (tL_at tL_refuses_0_ok 56 rfl) (by omega) (by decide) (by decide) ?_
    refine hr_isub X (tL_at tL_refuses_0_ok 57 rfl) ?_
    refine hr_goto 103 X (tL_at tL_refuses_0_ok 58 rfl) (by decide) ?_
    refine hr_istore X (tL_at tL_refuses_1_ok 4 rfl) (Nat.le_of_ble_eq_true rfl) ?_
    refine hr_iload_n X (tL_at tL_refuses_1_ok 5 rfl) rfl ?_
    refine hr_iconst (nI 2) X (tL_at tL_refuses_1_ok 6 rfl) (by decide) ?_
    refine hl_idiv X (tL_at tL_refuses_1_ok 7 rfl) (by omega) (by decide) (by decide) ?_
    refine hr_iconst (nI 2) X (tL_at tL_refuses_1_ok 8 rfl) (by decide) ?_
    refine hl_irem X (tL_at tL_refuses_1_ok 9 rfl) (by omega) (by decide) (by decide) ?_
    rw [← hae]
    refine hr_istore X (tL_at tL_refuses_1_ok 10 rfl) (Nat.le_of_ble_eq_true rfl) ?_
    refine hr_iload X (tL_at tL_refuses_1_ok 11 rfl) rfl ?_
    refine hr_if_eq 126 X (tL_at tL_refuses_1_ok 12 rfl) (by decide) (fun c => absurd c (by decide)) (fun _ => ?_)
    refine hr_iconst ((-1)) X (tL_at tL_refuses_1_ok 13 rfl) (by decide) ?_
    refine hr_iload_n X (tL_at tL_refuses_1_ok 14 rfl) rfl ?_
    refine hr_bipush (nI 50) X (tL_at tL_refuses_1_ok 15 rfl) (by decide) ?_
    refine hl_irem X (tL_at tL_refuses_1_ok 16 rfl) (by omega) (by decide) (by decide) ?_
    refine hr_isub X (tL_at tL_refuses_1_ok 17 rfl) ?_
    refine hr_goto 135 X (tL_at tL_refuses_1_ok 18 rfl) (by decide) ?_
    refine hr_istore X (tL_at tL_refuses_1_ok 26 rfl) (Nat.le_of_ble_eq_true rfl) ?_
    exact w_RF1 X hI hJ ha ha2 hm (lf_lo (by omega) 3) (lf_sl (by omega)) (lf_lo (by omega) 11) (lf_lo (by omega) 4) (lf_vl (by omega)) hQ (fun M9 hQ9 => w_RF2 X hI hJ ha ha2 hm (e1 a ha2) hnr hcr e2 hQ9 kend)
  · refine hr_iload_n X (tL_at tL_refuses_0_ok 0 rfl) rfl ?_
    refine hr_iconst (nI 2) X (tL_at tL_refuses_0_ok 1 rfl) (by decide) ?_
    refine hl_irem X (tL_at tL_refuses_0_ok 2 rfl) (by omega) (by decide) (by decide) ?_
    rw [hm2]
    refine hr_if_ne 10 X (tL_at tL_refuses_0_ok 3 rfl) (by decide) (fun _ => ?_) (fun c => absurd c (by decide))
    refine hr_iconst (nI 0) X (tL_at tL_refuses_0_ok 6 rfl) (by decide) ?_
    refine hr_istore X (tL_at tL_refuses_0_ok 7 rfl) (Nat.le_of_ble_eq_true rfl) ?_
    refine hr_iload X (tL_at tL_refuses_0_ok 8 rfl) rfl ?_
    refine hr_if_eq 27 X (tL_at tL_refuses_0_ok 9 rfl) (by decide) (fun _ => ?_) (fun c => absurd rfl c)
    refine hr_iconst (nI 4) X (tL_at tL_refuses_0_ok 16 rfl) (by decide) ?_
    refine hr_iload_n X (tL_at tL_refuses_0_ok 17 rfl) rfl ?_
    refine hr_bipush (nI 50) X (tL_at tL_refuses_0_ok 18 rfl) (by decide) ?_
    refine hl_irem X (tL_at tL_refuses_0_ok 19 rfl) (by omega) (by decide) (by decide) ?_
    refine hl_iadd X (tL_at tL_refuses_0_ok 20 rfl) ?_
    refine hr_istore X (tL_at tL_refuses_0_ok 21 rfl) (Nat.le_of_ble_eq_true rfl) ?_
    refine hr_iload X (tL_at tL_refuses_0_ok 22 rfl) rfl ?_
    refine hr_if_eq 49 X (tL_at tL_refuses_0_ok 23 rfl) (by decide) (fun _ => ?_) (fun c => absurd rfl c)
    refine hr_aload_n X (tL_at tL_refuses_0_ok 30 rfl) rfl (Or.inr ⟨_, rfl⟩) ?_
    obtain ⟨ta, ad, hR, hok, hb⟩ := id hQ
    subst hb
    refine hr_callV X kCL_129 (tL_at tL_refuses_0_ok 31 rfl) (c_X5_sheets cA hR hI) hR.c0 rfl rfl rfl rfl (Nat.le_of_ble_eq_true rfl) ⟨⟨(Nat.le_of_ble_eq_true rfl), (Nat.le_of_ble_eq_true rfl)⟩, (Nat.le_of_ble_eq_true rfl), (Nat.le_of_ble_eq_true rfl)⟩ (fun v0 M1 hp => ?_)
    obtain ⟨rfl, rfl⟩ := hp
    refine hr_widen (k2 := 0) (n2 := 0) (Nat.le_of_ble_eq_true rfl) (Nat.le_of_ble_eq_true rfl) ?_
    refine hr_iload_n X (tL_at tL_refuses_0_ok 32 rfl) rfl ?_
    refine hr_bipush (nI 50) X (tL_at tL_refuses_0_ok 33 rfl) (by decide) ?_
    refine hl_irem X (tL_at tL_refuses_0_ok 34 rfl) (by omega) (by decide) (by decide) ?_
    refine hr_iadd X (tL_at tL_refuses_0_ok 35 rfl) ?_
    refine hr_istore X (tL_at tL_refuses_0_ok 36 rfl) (Nat.le_of_ble_eq_true rfl) ?_
    refine hr_iload X (tL_at tL_refuses_0_ok 37 rfl) rfl ?_
    refine hr_if_eq 74 X (tL_at tL_refuses_0_ok 38 rfl) (by decide) (fun _ => ?_) (fun c => absurd rfl c)
    refine hr_bipush (nI 12) X (tL_at tL_refuses_0_ok 45 rfl) (by decide) ?_
    refine hr_iload_n X (tL_at tL_refuses_0_ok 46 rfl) rfl ?_
    refine hr_bipush (nI 50) X (tL_at tL_refuses_0_ok 47 rfl) (by decide) ?_
    refine hl_irem X (tL_at tL_refuses_0_ok 48 rfl) (by omega) (by decide) (by decide) ?_
    refine hl_iadd X (tL_at tL_refuses_0_ok 49 rfl) ?_
    refine hr_istore X (tL_at tL_refuses_0_ok 50 rfl) (Nat.le_of_ble_eq_true rfl) ?_
    refine hr_iload X (tL_at tL_refuses_0_ok 51 rfl) rfl ?_
    refine hr_if_eq 97 X (tL_at tL_refuses_0_ok 52 rfl) (by decide) (fun _ => ?_) (fun c => absurd rfl c)
    refine hr_iconst (nI 5) X (tL_at tL_refuses_0_ok 59 rfl) (by decide) ?_
    refine hr_iload_n X (tL_at tL_refuses_1_ok 0 rfl) rfl ?_
    refine hr_bipush (nI 50) X (tL_at tL_refuses_1_ok 1 rfl) (by decide) ?_
    refine hl_irem X (tL_at tL_refuses_1_ok 2 rfl) (by omega) (by decide) (by decide) ?_
    refine hl_iadd X (tL_at tL_refuses_1_ok 3 rfl) ?_
    refine hr_istore X (tL_at tL_refuses_1_ok 4 rfl) (Nat.le_of_ble_eq_true rfl) ?_
    refine hr_iload_n X (tL_at tL_refuses_1_ok 5 rfl) rfl ?_
    refine hr_iconst (nI 2) X (tL_at tL_refuses_1_ok 6 rfl) (by decide) ?_
    refine hl_idiv X (tL_at tL_refuses_1_ok 7 rfl) (by omega) (by decide) (by decide) ?_
    refine hr_iconst (nI 2) X (tL_at tL_refuses_1_ok 8 rfl) (by decide) ?_
    refine hl_irem X (tL_at tL_refuses_1_ok 9 rfl) (by omega) (by decide) (by decide) ?_
    rw [← hae]
    refine hr_istore X (tL_at tL_refuses_1_ok 10 rfl) (Nat.le_of_ble_eq_true rfl) ?_
    refine hr_iload X (tL_at tL_refuses_1_ok 11 rfl) rfl ?_
    refine hr_if_eq 126 X (tL_at tL_refuses_1_ok 12 rfl) (by decide) (fun _ => ?_) (fun c => absurd rfl c)
    refine hr_aload_n X (tL_at tL_refuses_1_ok 19 rfl) rfl (Or.inr ⟨_, rfl⟩) ?_
    refine hr_iload X (tL_at tL_refuses_1_ok 20 rfl) rfl ?_
    refine hl_iald X (tL_at tL_refuses_1_ok 21 rfl) (ls_at hQ hnr) ha2 (by decide) ?_
    rw [← e1 a ha2]
    refine hr_iload_n X (tL_at tL_refuses_1_ok 22 rfl) rfl ?_
    refine hr_bipush (nI 50) X (tL_at tL_refuses_1_ok 23 rfl) (by decide) ?_
    refine hl_irem X (tL_at tL_refuses_1_ok 24 rfl) (by omega) (by decide) (by decide) ?_
    refine hr_iadd X (tL_at tL_refuses_1_ok 25 rfl) ?_
    refine hr_istore X (tL_at tL_refuses_1_ok 26 rfl) (Nat.le_of_ble_eq_true rfl) ?_
    exact w_RF1 X hI hJ ha ha2 hm (lf_hi (b := 3) (by omega) (by omega) 0) (lf_sh hI (by omega)) (lf_hi (b := 11) (by omega) (by omega) 0) (lf_hi (b := 4) (by omega) (by omega) 0) (lf_vm hI ha hmm m2 (by omega)) hQ (fun M9 hQ9 => w_RF2 X hI hJ ha ha2 hm (e1 a ha2) hnr hcr e2 hQ9 kend)
