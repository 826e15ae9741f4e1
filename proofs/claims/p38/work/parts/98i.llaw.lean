/-! the law: the walk -/
set_option maxHeartbeats 4000000 in
set_option maxRecDepth 100000 in
theorem w_L3 {C : hm_C} {nm : String} {Q : State → Prop} {cA : Nat → ClassId} {M : hm_M} {sc a b nr cr t : Nat} {sg : mm_S} {Z : hm_M} {fn fc : Nat → Int32} {k m : Nat} {r : Int32} (X : hm_X C RL cL_law 12 (some .boolean) nm room_1 cA) {kr sr : Nat} (hkr : kr + 4567 ≤ 609012) (hsr : sr + 27897 ≤ 7274735) (hI : sp_I sg) (hJ : sp_J sg) (hK : sp_K sg) (hfn : lz_N sg fn) (hfc : lz_C sg fc) (hnr : Z nr = some (cr_iw cA 0 2 fn)) (hcr : Z cr = some (cr_iw cA 0 2 fc)) (hnc : nr ≠ cr) (hT : lt_Q cA Z a b sg sg M) (hm : m < 2 ^ 31) (hk : k < 44) (kk : ∀ M9 : hm_M, lz_J cA a b nr cr M9 → hm_W C (kr + 4567) (sr + 27897) Q M9 86 [some (.ref sc), some (.ref a), some (.ref b), some (.ref nr), some (.ref cr), some (.int (nI 1)), some (.int (nI t)), some (.int (nI (k + 1))), none, none, none, none] []) : hm_W C kr sr Q M 286 [some (.ref sc), some (.ref a), some (.ref b), some (.ref nr), some (.ref cr), some (.int (nI 1)), some (.int (nI t)), some (.int (nI k)), some (.int (nI m)), some (.int (nI (m % 32))), some (.int (nI (lA_sh m))), some (.int (r))] [] := by
  have h2 : 2 ≤ sp_n sg := by rw [hK.1]; exact Nat.le_refl 2
  have J357 : ∀ M9 : hm_M, lt_Q cA Z a b sg sg M9 → hm_W C (kr + 4567) (sr + 27897) Q M9 357 [some (.ref sc), some (.ref a), some (.ref b), some (.ref nr), some (.ref cr), some (.int (nI 1)), some (.int (nI t)), some (.int (nI k)), some (.int (nI m)), some (.int (nI (m % 32))), some (.int (nI (lA_sh m))), some (.int (r))] [] := by
    intro M9 hT9
    refine hr_iconst (nI 1) X (tL_at tL_law_3_ok 20 rfl) (by decide) ?_
    refine hr_goto 362 X (tL_at tL_law_3_ok 21 rfl) (by decide) ?_
    refine hr_istore X (tL_at tL_law_3_ok 23 rfl) (Nat.le_of_ble_eq_true rfl) ?_
    refine hl_iinc X (tL_at tL_law_3_ok 24 rfl) rfl ?_
    refine hr_goto 86 X (tL_at tL_law_3_ok 25 rfl) (by decide) ?_
    refine hr_sub (L2 := [some (.ref sc), some (.ref a), some (.ref b), some (.ref nr), some (.ref cr), some (.int (nI 1)), some (.int (nI t)), some (.int (nI (k + 1))), none, none, none, none]) ⟨rfl, rfl, rfl, rfl, rfl, rfl, rfl, rfl, trivial⟩ ?_
    exact kk _ ⟨sg, Z, fn, fc, hI, hJ, hK, hfn, hfc, hnr, hcr, hnc, hT9⟩
  have J334 : ∀ M9 : hm_M, lt_Q cA Z a b sg sg M9 → hm_W C (kr + 1985) (sr + 12405) Q M9 334 [some (.ref sc), some (.ref a), some (.ref b), some (.ref nr), some (.ref cr), some (.int (nI 1)), some (.int (nI t)), some (.int (nI k)), some (.int (nI m)), some (.int (nI (m % 32))), some (.int (nI (lA_sh m))), some (.int (r))] [] := by
    intro M9 hT9
    refine hr_iload X (tL_at tL_law_3_ok 8 rfl) rfl ?_
    refine hr_bipush (nI 6) X (tL_at tL_law_3_ok 9 rfl) (by decide) ?_
    refine hl_irem X (tL_at tL_law_3_ok 10 rfl) (by omega) (by decide) (by decide) ?_
    refine hr_if_gt 357 X (tL_at tL_law_3_ok 11 rfl) (by decide) (fun c => ?_) (fun c => ?_)
    · refine hr_widen (k2 := (kr + 4567)) (n2 := (sr + 27897)) (by omega) (by omega) ?_
      exact J357 _ hT9
    · obtain ⟨N, h1, h2⟩ := hT9.swap
      refine hr_aload_n X (tL_at tL_law_3_ok 12 rfl) rfl (Or.inr ⟨_, rfl⟩) ?_
      refine hr_aload_n X (tL_at tL_law_3_ok 13 rfl) rfl (Or.inr ⟨_, rfl⟩) ?_
      refine hr_aload X (tL_at tL_law_3_ok 14 rfl) rfl (Or.inr ⟨_, rfl⟩) ?_
      refine hr_iload X (tL_at tL_law_3_ok 15 rfl) rfl ?_
      refine hr_bipush (nI 7) X (tL_at tL_law_3_ok 16 rfl) (by decide) ?_
      refine hl_idiv X (tL_at tL_law_3_ok 17 rfl) (by omega) (by decide) (by decide) ?_
      refine hl_callS X kCL_248 (tL_at tL_law_3_ok 18 rfl) (c_L_holds cA (m := m / 7) hI hJ hK (by omega) h1 hfn (ls_at h2 hnr) (ls_at h2 hcr) hfc.2) rfl rfl rfl (Nat.le_of_ble_eq_true rfl) (kr + 4567) (sr + 27897) ⟨⟨(Nat.le_of_ble_eq_true rfl), (Nat.le_of_ble_eq_true rfl)⟩, (show kr + 1985 + 2582 ≤ 609012 by omega), (show sr + 12405 + 15492 ≤ 7274735 by omega)⟩ (show kr + 1985 + 2582 ≤ kr + 4567 by omega) (show sr + 12405 + 15492 ≤ sr + 27897 by omega) (fun M1 hQ1 => ?_)
      refine hr_if_eq 361 X (tL_at tL_law_3_ok 19 rfl) (by decide) (fun c => absurd c (by decide)) (fun _ => ?_)
      exact J357 _ (lt_Q.swap ⟨N, hQ1, h2⟩)
  have J314 : ∀ M9 : hm_M, lt_Q cA Z a b sg sg M9 → hm_W C (kr + 761) (sr + 5061) Q M9 314 [some (.ref sc), some (.ref a), some (.ref b), some (.ref nr), some (.ref cr), some (.int (nI 1)), some (.int (nI t)), some (.int (nI k)), some (.int (nI m)), some (.int (nI (m % 32))), some (.int (nI (lA_sh m))), some (.int (r))] [] := by
    intro M9 hT9
    refine hr_iload X (tL_at tL_law_2_ok 56 rfl) rfl ?_
    refine hr_iconst (nI 2) X (tL_at tL_law_2_ok 57 rfl) (by decide) ?_
    refine hl_irem X (tL_at tL_law_2_ok 58 rfl) (by omega) (by decide) (by decide) ?_
    refine hr_if_gt 334 X (tL_at tL_law_2_ok 59 rfl) (by decide) (fun c => ?_) (fun c => ?_)
    · refine hr_widen (k2 := (kr + 1985)) (n2 := (sr + 12405)) (by omega) (by omega) ?_
      exact J334 _ hT9
    · refine hr_aload_n X (tL_at tL_law_3_ok 0 rfl) rfl (Or.inr ⟨_, rfl⟩) ?_
      refine hr_aload_n X (tL_at tL_law_3_ok 1 rfl) rfl (Or.inr ⟨_, rfl⟩) ?_
      refine hr_aload_n X (tL_at tL_law_3_ok 2 rfl) rfl (Or.inr ⟨_, rfl⟩) ?_
      refine hr_iload X (tL_at tL_law_3_ok 3 rfl) rfl ?_
      refine hr_iconst (nI 3) X (tL_at tL_law_3_ok 4 rfl) (by decide) ?_
      refine hl_idiv X (tL_at tL_law_3_ok 5 rfl) (by omega) (by decide) (by decide) ?_
      refine hr_callS X kCL_244 (tL_at tL_law_3_ok 6 rfl) (c_L_alike cA (m := m / 3) hI hJ (by omega) hT9 h2 hfn hnr) rfl rfl rfl (Nat.le_of_ble_eq_true rfl) ⟨⟨(Nat.le_of_ble_eq_true rfl), (Nat.le_of_ble_eq_true rfl)⟩, (show kr + 761 + 1224 ≤ 609012 by omega), (show sr + 5061 + 7344 ≤ 7274735 by omega)⟩ (fun v0 M1 hp => ?_)
      obtain ⟨rfl, hT1⟩ := hp
      refine hr_widen (k2 := (kr + 1985)) (n2 := (sr + 12405)) (show kr + 761 + 1224 ≤ kr + 1985 by omega) (show sr + 5061 + 7344 ≤ sr + 12405 by omega) ?_
      refine hr_if_eq 361 X (tL_at tL_law_3_ok 7 rfl) (by decide) (fun c => absurd c (by decide)) (fun _ => ?_)
      exact J334 _ hT1
  refine hr_iload X (tL_at tL_law_2_ok 42 rfl) rfl ?_
  refine hr_if_eq 361 X (tL_at tL_law_2_ok 43 rfl) (by decide) (fun c => absurd c (by decide)) (fun _ => ?_)
  refine hr_iload X (tL_at tL_law_2_ok 44 rfl) rfl ?_
  refine hr_iconst (nI 3) X (tL_at tL_law_2_ok 45 rfl) (by decide) ?_
  refine hl_irem X (tL_at tL_law_2_ok 46 rfl) (by omega) (by decide) (by decide) ?_
  refine hr_if_gt 314 X (tL_at tL_law_2_ok 47 rfl) (by decide) (fun c => ?_) (fun c => ?_)
  · refine hr_widen (k2 := (kr + 761)) (n2 := (sr + 5061)) (by omega) (by omega) ?_
    exact J314 _ hT
  · obtain ⟨N, h1, h3⟩ := hT.swap
    refine hr_aload_n X (tL_at tL_law_2_ok 48 rfl) rfl (Or.inr ⟨_, rfl⟩) ?_
    refine hr_aload_n X (tL_at tL_law_2_ok 49 rfl) rfl (Or.inr ⟨_, rfl⟩) ?_
    refine hr_aload X (tL_at tL_law_2_ok 50 rfl) rfl (Or.inr ⟨_, rfl⟩) ?_
    refine hr_iload X (tL_at tL_law_2_ok 51 rfl) rfl ?_
    refine hr_sipush (nI 499) X (tL_at tL_law_2_ok 52 rfl) (by decide) ?_
    refine hl_irem X (tL_at tL_law_2_ok 53 rfl) (by omega) (by decide) (by decide) ?_
    refine hl_callS X kCL_240 (tL_at tL_law_2_ok 54 rfl) (c_L_refuses cA (m := m % 499) hI hJ h2 (by omega) hfn (ls_at h3 hnr) (ls_at h3 hcr) hfc.2 h1) rfl rfl rfl (Nat.le_of_ble_eq_true rfl) (kr + 761) (sr + 5061) ⟨⟨(Nat.le_of_ble_eq_true rfl), (Nat.le_of_ble_eq_true rfl)⟩, (show kr + 0 + 761 ≤ 609012 by omega), (show sr + 0 + 5061 ≤ 7274735 by omega)⟩ (show kr + 0 + 761 ≤ kr + 761 by omega) (show sr + 0 + 5061 ≤ sr + 5061 by omega) (fun M1 hQ1 => ?_)
    refine hr_if_eq 361 X (tL_at tL_law_2_ok 55 rfl) (by decide) (fun c => absurd c (by decide)) (fun _ => ?_)
    exact J314 _ (lt_Q.swap ⟨N, hQ1, h3⟩)
set_option maxHeartbeats 4000000 in
set_option maxRecDepth 100000 in
theorem w_L2 {C : hm_C} {nm : String} {Q : State → Prop} {cA : Nat → ClassId} {M : hm_M} {sc a b nr cr t : Nat} {sg sg' : mm_S} {Z : hm_M} {fn fc : Nat → Int32} {k m : Nat} {r : Int32} (X : hm_X C RL cL_law 12 (some .boolean) nm room_1 cA) (hk : k < 44) {kr sr : Nat} (hkr : kr + 4567 ≤ 609012) (hsr : sr + 27897 ≤ 7274735) (hm : m < 2 ^ 31) (hP : la_P sg m r sg') (hfn : lz_N sg fn) (hfc : lz_C sg fc) (hnr : Z nr = some (cr_iw cA 0 2 fn)) (hcr : Z cr = some (cr_iw cA 0 2 fc)) (hnc : nr ≠ cr) (hT : lt_Q cA Z a b sg' sg' M) (kk : ∀ M9 : hm_M, lz_J cA a b nr cr M9 → hm_W C (kr + 4567) (sr + 27897) Q M9 86 [some (.ref sc), some (.ref a), some (.ref b), some (.ref nr), some (.ref cr), some (.int (nI 1)), some (.int (nI t)), some (.int (nI (k + 1))), none, none, none, none] []) : hm_W C kr sr Q M 221 [some (.ref sc), some (.ref a), some (.ref b), some (.ref nr), some (.ref cr), some (.int (nI 1)), some (.int (nI t)), some (.int (nI k)), some (.int (nI m)), some (.int (nI (m % 32))), some (.int (nI (lA_sh m))), some (.int (r))] [] := by
  obtain ⟨⟨hI', hJ'⟩, hK', hn5, hc11⟩ := id hP
  have hs2 := lA_sh2 m
  have J245 : ∀ (bb : Nat), bb = (if m % 32 < 8 ∧ 0 ≤ r then 1 else 0) → ∀ M9 : hm_M, lt_Q cA (hm_up Z nr (cr_iw cA 0 2 (upd fn (lA_sh m) (fn (lA_sh m) + nI bb)))) a b sg' sg' M9 → hm_W C kr sr Q M9 245 [some (.ref sc), some (.ref a), some (.ref b), some (.ref nr), some (.ref cr), some (.int (nI 1)), some (.int (nI t)), some (.int (nI k)), some (.int (nI m)), some (.int (nI (m % 32))), some (.int (nI (lA_sh m))), some (.int (r))] [] := by
    intro bb hbb M9 hT9
    have hfn' := lz_N1 hfn hP hbb
    have hnr' : (hm_up Z nr (cr_iw cA 0 2 (upd fn (lA_sh m) (fn (lA_sh m) + nI bb)))) nr = some (cr_iw cA 0 2 (upd fn (lA_sh m) (fn (lA_sh m) + nI bb))) := hm_up_s
    have hcr' : (hm_up Z nr (cr_iw cA 0 2 (upd fn (lA_sh m) (fn (lA_sh m) + nI bb)))) cr = some (cr_iw cA 0 2 fc) := (hm_up_n hnc.symm).trans hcr
    have no : ¬ (m % 32 = 20 ∧ m / 64 / 4 % 4 = 0 ∧ 0 ≤ r) → hm_W C kr sr Q M9 286 [some (.ref sc), some (.ref a), some (.ref b), some (.ref nr), some (.ref cr), some (.int (nI 1)), some (.int (nI t)), some (.int (nI k)), some (.int (nI m)), some (.int (nI (m % 32))), some (.int (nI (lA_sh m))), some (.int (r))] [] := fun hno => w_L3 X hkr hsr hI' hJ' hK' hfn' (lz_C0 hfc hP hno) hnr' hcr' hnc hT9 hm hk kk
    refine hr_iload X (tL_at tL_law_2_ok 16 rfl) rfl ?_
    refine hr_bipush (nI 20) X (tL_at tL_law_2_ok 17 rfl) (by decide) ?_
    refine hr_icmp_ne 286 X (tL_at tL_law_2_ok 18 rfl) (by decide) (fun c1 => ?_) (fun c1 => ?_)
    · exact no (fun q => c1 (by rw [q.1]))
    · refine hr_iload X (tL_at tL_law_2_ok 19 rfl) rfl ?_
      refine hr_bipush (nI 64) X (tL_at tL_law_2_ok 20 rfl) (by decide) ?_
      refine hl_idiv X (tL_at tL_law_2_ok 21 rfl) (by omega) (by decide) (by decide) ?_
      refine hr_iconst (nI 4) X (tL_at tL_law_2_ok 22 rfl) (by decide) ?_
      refine hl_idiv X (tL_at tL_law_2_ok 23 rfl) (by omega) (by decide) (by decide) ?_
      refine hr_iconst (nI 4) X (tL_at tL_law_2_ok 24 rfl) (by decide) ?_
      refine hl_irem X (tL_at tL_law_2_ok 25 rfl) (by omega) (by decide) (by decide) ?_
      refine hr_if_ne 286 X (tL_at tL_law_2_ok 26 rfl) (by decide) (fun c2 => ?_) (fun c2 => ?_)
      · exact no (fun q => c2 (by rw [q.2.1]; decide))
      · refine hr_iload X (tL_at tL_law_2_ok 27 rfl) rfl ?_
        refine hr_if_lt 286 X (tL_at tL_law_2_ok 28 rfl) (by decide) (fun c3 => ?_) (fun c3 => ?_)
        · exact no (fun q => Int32.not_lt.mpr q.2.2 c3)
        · have hyes : m % 32 = 20 ∧ m / 64 / 4 % 4 = 0 ∧ 0 ≤ r := ⟨(nI_eq (b := 20) (by omega) (by decide)).mp c1, (nI_eq (b := 0) (by omega) (by decide)).mp c2, Int32.not_lt.mp c3⟩
          refine hr_aload X (tL_at tL_law_2_ok 29 rfl) rfl (Or.inr ⟨_, rfl⟩) ?_
          refine hr_iload X (tL_at tL_law_2_ok 30 rfl) rfl ?_
          refine hr_dup2 X (tL_at tL_law_2_ok 31 rfl) rfl rfl ?_
          refine hl_iald X (tL_at tL_law_2_ok 32 rfl) (hT9.at hcr') hs2 (by decide) ?_
          refine hr_iconst (nI 1) X (tL_at tL_law_2_ok 33 rfl) (by decide) ?_
          refine hr_iload X (tL_at tL_law_2_ok 34 rfl) rfl ?_
          refine hr_bipush (nI 64) X (tL_at tL_law_2_ok 35 rfl) (by decide) ?_
          refine hl_idiv X (tL_at tL_law_2_ok 36 rfl) (by omega) (by decide) (by decide) ?_
          refine hr_iconst (nI 4) X (tL_at tL_law_2_ok 37 rfl) (by decide) ?_
          refine hl_irem X (tL_at tL_law_2_ok 38 rfl) (by omega) (by decide) (by decide) ?_
          refine hr_ishl X (tL_at tL_law_2_ok 39 rfl) ?_
          refine hr_ior X (tL_at tL_law_2_ok 40 rfl) ?_
          refine hl_iast X (tL_at tL_law_2_ok 41 rfl) (hT9.at hcr') hs2 (by decide) ?_
          exact w_L3 X hkr hsr hI' hJ' hK' hfn' (lz_C1 hfc hP hyes) ((hm_up_n hnc).trans hnr') hm_up_s hnc (hT9.set hcr') hm hk kk
  have J243 : ∀ (bb : Nat), bb = (if m % 32 < 8 ∧ 0 ≤ r then 1 else 0) → hm_W C kr sr Q M 243 [some (.ref sc), some (.ref a), some (.ref b), some (.ref nr), some (.ref cr), some (.int (nI 1)), some (.int (nI t)), some (.int (nI k)), some (.int (nI m)), some (.int (nI (m % 32))), some (.int (nI (lA_sh m))), some (.int (r))] [.int (nI bb), .int (fn (lA_sh m)), .int (nI (lA_sh m)), .ref nr] := by
    intro bb hbb
    refine hr_iadd X (tL_at tL_law_2_ok 14 rfl) ?_
    refine hl_iast X (tL_at tL_law_2_ok 15 rfl) (hT.at hnr) hs2 (by decide) ?_
    exact J245 bb hbb _ (hT.set hnr)
  refine hr_aload_n X (tL_at tL_law_2_ok 2 rfl) rfl (Or.inr ⟨_, rfl⟩) ?_
  refine hr_iload X (tL_at tL_law_2_ok 3 rfl) rfl ?_
  refine hr_dup2 X (tL_at tL_law_2_ok 4 rfl) rfl rfl ?_
  refine hl_iald X (tL_at tL_law_2_ok 5 rfl) (hT.at hnr) hs2 (by decide) ?_
  refine hr_iload X (tL_at tL_law_2_ok 6 rfl) rfl ?_
  refine hr_bipush (nI 8) X (tL_at tL_law_2_ok 7 rfl) (by decide) ?_
  refine hr_icmp_ge 242 X (tL_at tL_law_2_ok 8 rfl) (by decide) (fun c1 => ?_) (fun c1 => ?_)
  · refine hr_iconst (nI 0) X (tL_at tL_law_2_ok 13 rfl) (by decide) ?_
    exact J243 0 (if_neg (fun q => nI_ge q.1 (by decide) c1)).symm
  · refine hr_iload X (tL_at tL_law_2_ok 9 rfl) rfl ?_
    refine hr_if_lt 242 X (tL_at tL_law_2_ok 10 rfl) (by decide) (fun c2 => ?_) (fun c2 => ?_)
    · refine hr_iconst (nI 0) X (tL_at tL_law_2_ok 13 rfl) (by decide) ?_
      exact J243 0 (if_neg (fun q => Int32.not_lt.mpr q.2 c2)).symm
    · refine hr_iconst (nI 1) X (tL_at tL_law_2_ok 11 rfl) (by decide) ?_
      refine hr_goto 243 X (tL_at tL_law_2_ok 12 rfl) (by decide) ?_
      exact J243 1 (if_pos ⟨Nat.lt_of_not_le (fun q => c1 (nI_le q (by omega))), Int32.not_lt.mp c2⟩).symm
set_option maxHeartbeats 4000000 in
set_option maxRecDepth 100000 in
theorem w_L1 {C : hm_C} {nm : String} {Q : State → Prop} {cA : Nat → ClassId} {M : hm_M} {sc a b nr cr t : Nat} {k m : Nat} (X : hm_X C RL cL_law 12 (some .boolean) nm room_1 cA) {kr sr : Nat} (hkr : kr + 5360 ≤ 609012) (hsr : sr + 33290 ≤ 7274735) (hm : m < 2 ^ 31) (hk : k < 44) (hJ0 : lz_J cA a b nr cr M) (kk : ∀ M9 : hm_M, lz_J cA a b nr cr M9 → hm_W C (kr + 5360) (sr + 33290) Q M9 86 [some (.ref sc), some (.ref a), some (.ref b), some (.ref nr), some (.ref cr), some (.int (nI 1)), some (.int (nI t)), some (.int (nI (k + 1))), none, none, none, none] []) : hm_W C kr sr Q M 153 [some (.ref sc), some (.ref a), some (.ref b), some (.ref nr), some (.ref cr), some (.int (nI 1)), some (.int (nI t)), some (.int (nI k)), some (.int (nI m)), none, none, none] [] := by
  obtain ⟨sg, Z, fn, fc, hI, hJ, hK, hfn, hfc, hnr, hcr, hnc, hT⟩ := hJ0
  have h2 : 2 ≤ sp_n sg := by rw [hK.1]; exact Nat.le_refl 2
  obtain ⟨r, sg', hP, hact⟩ := c_act (fn := fn) hI hJ hK hm hfn
  have J175 : hm_W C kr sr Q M 175 [some (.ref sc), some (.ref a), some (.ref b), some (.ref nr), some (.ref cr), some (.int (nI 1)), some (.int (nI t)), some (.int (nI k)), some (.int (nI m)), some (.int (nI (m % 32))), none, none] [.int (nI (lA_sh m))] := by
    refine hr_istore X (tL_at tL_law_1_ok 38 rfl) (Nat.le_of_ble_eq_true rfl) ?_
    refine hr_aload_n X (tL_at tL_law_1_ok 39 rfl) rfl (Or.inr ⟨_, rfl⟩) ?_
    refine hr_aload_n X (tL_at tL_law_1_ok 40 rfl) rfl (Or.inr ⟨_, rfl⟩) ?_
    refine hr_iload X (tL_at tL_law_1_ok 41 rfl) rfl ?_
    obtain ⟨N, h1, h3⟩ := hT
    refine hl_callS X kCL_236 (tL_at tL_law_1_ok 42 rfl) (hact cA N _ a nr h1 (ls_at h3 hnr)) rfl rfl rfl (Nat.le_of_ble_eq_true rfl) (kr + 16) (sr + 166) ⟨⟨(Nat.le_of_ble_eq_true rfl), (Nat.le_of_ble_eq_true rfl)⟩, (show kr + 0 + 16 ≤ 609012 by omega), (show sr + 0 + 166 ≤ 7274735 by omega)⟩ (show kr + 0 + 16 ≤ kr + 16 by omega) (show sr + 0 + 166 ≤ sr + 166 by omega) (fun M1 hQ1 => ?_)
    obtain ⟨N2, h4, h5⟩ := lt_Q.swap (show lt_Q cA Z a b sg' sg M1 from ⟨N, hQ1, h3⟩)
    refine hr_istore X (tL_at tL_law_1_ok 43 rfl) (Nat.le_of_ble_eq_true rfl) ?_
    refine hr_aload_n X (tL_at tL_law_1_ok 44 rfl) rfl (Or.inr ⟨_, rfl⟩) ?_
    refine hr_aload_n X (tL_at tL_law_1_ok 45 rfl) rfl (Or.inr ⟨_, rfl⟩) ?_
    refine hr_aload X (tL_at tL_law_1_ok 46 rfl) rfl (Or.inr ⟨_, rfl⟩) ?_
    refine hr_iload X (tL_at tL_law_1_ok 47 rfl) rfl ?_
    refine hr_sipush (nI 9973) X (tL_at tL_law_1_ok 48 rfl) (by decide) ?_
    refine hl_irem X (tL_at tL_law_1_ok 49 rfl) (by omega) (by decide) (by decide) ?_
    refine hl_callS X kCL_240 (tL_at tL_law_1_ok 50 rfl) (c_L_refuses cA (m := m % 9973) hI hJ h2 (by omega) hfn (ls_at h5 hnr) (ls_at h5 hcr) hfc.2 h4) rfl rfl rfl (Nat.le_of_ble_eq_true rfl) (kr + 777) (sr + 5227) ⟨⟨(Nat.le_of_ble_eq_true rfl), (Nat.le_of_ble_eq_true rfl)⟩, (show kr + 16 + 761 ≤ 609012 by omega), (show sr + 166 + 5061 ≤ 7274735 by omega)⟩ (show kr + 16 + 761 ≤ kr + 777 by omega) (show sr + 166 + 5061 ≤ sr + 5227 by omega) (fun M2 hQ2 => ?_)
    refine hr_if_eq 218 X (tL_at tL_law_1_ok 51 rfl) (by decide) (fun c => absurd c (by decide)) (fun _ => ?_)
    refine hr_aload_n X (tL_at tL_law_1_ok 52 rfl) rfl (Or.inr ⟨_, rfl⟩) ?_
    refine hr_aload_n X (tL_at tL_law_1_ok 53 rfl) rfl (Or.inr ⟨_, rfl⟩) ?_
    refine hr_iload X (tL_at tL_law_1_ok 54 rfl) rfl ?_
    refine hl_callS X kCL_236 (tL_at tL_law_1_ok 55 rfl) (hact cA N2 _ b nr hQ2 (ls_at h5 hnr)) rfl rfl rfl (Nat.le_of_ble_eq_true rfl) (kr + 793) (sr + 5393) ⟨⟨(Nat.le_of_ble_eq_true rfl), (Nat.le_of_ble_eq_true rfl)⟩, (show kr + 777 + 16 ≤ 609012 by omega), (show sr + 5227 + 166 ≤ 7274735 by omega)⟩ (show kr + 777 + 16 ≤ kr + 793 by omega) (show sr + 5227 + 166 ≤ sr + 5393 by omega) (fun M3 hQ3 => ?_)
    refine hr_iload X (tL_at tL_law_1_ok 56 rfl) rfl ?_
    refine hr_icmp_ne 218 X (tL_at tL_law_1_ok 57 rfl) (by decide) (fun c => absurd rfl c) (fun _ => ?_)
    refine hr_iconst (nI 1) X (tL_at tL_law_1_ok 58 rfl) (by decide) ?_
    refine hr_goto 219 X (tL_at tL_law_1_ok 59 rfl) (by decide) ?_
    refine hr_istore X (tL_at tL_law_2_ok 1 rfl) (Nat.le_of_ble_eq_true rfl) ?_
    refine w_L2 X hk (by omega) (by omega) hm hP hfn hfc hnr hcr hnc (lt_Q.swap ⟨N2, hQ3, h5⟩) (fun M9 h9 => ?_)
    exact hr_widen (by omega) (by omega) (kk M9 h9)
  refine hr_iload X (tL_at tL_law_1_ok 25 rfl) rfl ?_
  refine hr_bipush (nI 32) X (tL_at tL_law_1_ok 26 rfl) (by decide) ?_
  refine hl_irem X (tL_at tL_law_1_ok 27 rfl) (by omega) (by decide) (by decide) ?_
  refine hr_istore X (tL_at tL_law_1_ok 28 rfl) (Nat.le_of_ble_eq_true rfl) ?_
  refine hr_iload X (tL_at tL_law_1_ok 29 rfl) rfl ?_
  refine hr_bipush (nI 32) X (tL_at tL_law_1_ok 30 rfl) (by decide) ?_
  refine hl_idiv X (tL_at tL_law_1_ok 31 rfl) (by omega) (by decide) (by decide) ?_
  refine hr_iconst (nI 4) X (tL_at tL_law_1_ok 32 rfl) (by decide) ?_
  refine hl_irem X (tL_at tL_law_1_ok 33 rfl) (by omega) (by decide) (by decide) ?_
  refine hr_if_ne 174 X (tL_at tL_law_1_ok 34 rfl) (by decide) (fun c => ?_) (fun c => ?_)
  · rw [show lA_sh m = 0 from if_neg (fun q => c (by rw [q]; rfl))] at J175
    refine hr_iconst (nI 0) X (tL_at tL_law_1_ok 37 rfl) (by decide) ?_
    exact J175
  · rw [show lA_sh m = 1 from if_pos ((nI_eq (b := 0) (by omega) (by decide)).mp c)] at J175
    refine hr_iconst (nI 1) X (tL_at tL_law_1_ok 35 rfl) (by decide) ?_
    refine hr_goto 175 X (tL_at tL_law_1_ok 36 rfl) (by decide) ?_
    exact J175
set_option maxHeartbeats 4000000 in
set_option maxRecDepth 100000 in
theorem w_L0 {C : hm_C} {nm : String} {Q : State → Prop} {cA : Nat → ClassId} {M : hm_M} {sc N0 a b nr cr t : Nat} {xs : Nat → Int32} {k : Nat} (X : hm_X C RL cL_law 12 (some .boolean) nm room_1 cA) (S : hm_Scr C sc N0 xs) (hN : N0 ≤ 260) {kr sr : Nat} (hkr : kr + 5360 ≤ 609012) (hsr : sr + 33290 ≤ 7274735) (hk : k < t) (ht : t ≤ 44) (hJ0 : lz_J cA a b nr cr M) (kk : ∀ M9 : hm_M, lz_J cA a b nr cr M9 → hm_W C (kr + 5360) (sr + 33290) Q M9 86 [some (.ref sc), some (.ref a), some (.ref b), some (.ref nr), some (.ref cr), some (.int (nI 1)), some (.int (nI t)), some (.int (nI (k + 1))), none, none, none, none] []) : hm_W C kr sr Q M 86 [some (.ref sc), some (.ref a), some (.ref b), some (.ref nr), some (.ref cr), some (.int (nI 1)), some (.int (nI t)), some (.int (nI k)), none, none, none, none] [] := by
  refine hr_iload X (tL_at tL_law_0_ok 50 rfl) rfl ?_
  refine hr_iload X (tL_at tL_law_0_ok 51 rfl) rfl ?_
  refine hr_icmp_ge 370 X (tL_at tL_law_0_ok 52 rfl) (by decide) (fun c => absurd c (nI_ge hk (by omega))) (fun _ => ?_)
  refine hr_iload X (tL_at tL_law_0_ok 53 rfl) rfl ?_
  refine hr_if_eq 370 X (tL_at tL_law_0_ok 54 rfl) (by decide) (fun c => absurd c (by decide)) (fun _ => ?_)
  refine hr_aload_n X (tL_at tL_law_0_ok 55 rfl) rfl (Or.inr ⟨_, rfl⟩) ?_
  refine hr_iconst (nI 1) X (tL_at tL_law_0_ok 56 rfl) (by decide) ?_
  refine hr_iload X (tL_at tL_law_0_ok 57 rfl) rfl ?_
  refine hl_iadd X (tL_at tL_law_0_ok 58 rfl) ?_
  refine hr_callSS X S kCL_232 (tL_at tL_law_0_ok 59 rfl) (c_L_drawn cA (k := (1 + k)) (by omega) (by omega)) rfl rfl rfl (Nat.le_of_ble_eq_true rfl) ⟨⟨(Nat.le_of_ble_eq_true rfl), (Nat.le_of_ble_eq_true rfl)⟩, (show kr + 0 + 0 ≤ 609012 by omega), (show sr + 0 + 0 ≤ 7274735 by omega)⟩ (fun v0 M0 hp => ?_)
  obtain ⟨⟨d, hd, rfl⟩, rfl⟩ := hp
  refine hr_widen (k2 := (kr + 0)) (n2 := (sr + 0)) (show kr + 0 + 0 ≤ kr + 0 by omega) (show sr + 0 + 0 ≤ sr + 0 by omega) ?_
  have J151 : ∀ m : Nat, m < 2 ^ 31 → hm_W C (kr + 0) (sr + 0) Q M 151 [some (.ref sc), some (.ref a), some (.ref b), some (.ref nr), some (.ref cr), some (.int (nI 1)), some (.int (nI t)), some (.int (nI k)), some (.int (nI d)), none, none, none] [.int (nI m)] := by
    intro m hm
    refine hr_istore X (tL_at tL_law_1_ok 24 rfl) (Nat.le_of_ble_eq_true rfl) ?_
    exact w_L1 X hkr hsr hm (by omega) hJ0 kk
  refine hr_istore X (tL_at tL_law_1_ok 0 rfl) (Nat.le_of_ble_eq_true rfl) ?_
  refine hr_iload X (tL_at tL_law_1_ok 1 rfl) rfl ?_
  refine hr_iconst (nI 5) X (tL_at tL_law_1_ok 2 rfl) (by decide) ?_
  refine hr_icmp_ge 128 X (tL_at tL_law_1_ok 3 rfl) (by decide) (fun c1 => ?_) (fun c1 => ?_)
  · refine hr_iload X (tL_at tL_law_1_ok 12 rfl) rfl ?_
    refine hr_bipush (nI 9) X (tL_at tL_law_1_ok 13 rfl) (by decide) ?_
    refine hr_icmp_ge 149 X (tL_at tL_law_1_ok 14 rfl) (by decide) (fun c2 => ?_) (fun c2 => ?_)
    · refine hr_iload X (tL_at tL_law_1_ok 23 rfl) rfl ?_
      exact J151 _ hd
    · refine hr_iload X (tL_at tL_law_1_ok 15 rfl) rfl ?_
      refine hr_bipush (nI 32) X (tL_at tL_law_1_ok 16 rfl) (by decide) ?_
      refine hl_idiv X (tL_at tL_law_1_ok 17 rfl) (by omega) (by decide) (by decide) ?_
      refine hr_bipush (nI 32) X (tL_at tL_law_1_ok 18 rfl) (by decide) ?_
      refine hl_imul X (tL_at tL_law_1_ok 19 rfl) ?_
      refine hr_bipush (nI 15) X (tL_at tL_law_1_ok 20 rfl) (by decide) ?_
      refine hl_iadd X (tL_at tL_law_1_ok 21 rfl) ?_
      refine hr_goto 151 X (tL_at tL_law_1_ok 22 rfl) (by decide) ?_
      exact J151 _ (by omega)
  · have hk5 : k < 5 := Nat.lt_of_not_le (fun q => c1 (nI_le q (by omega)))
    refine hr_iload X (tL_at tL_law_1_ok 4 rfl) rfl ?_
    refine hr_bipush (nI 32) X (tL_at tL_law_1_ok 5 rfl) (by decide) ?_
    refine hl_idiv X (tL_at tL_law_1_ok 6 rfl) (by omega) (by decide) (by decide) ?_
    refine hr_bipush (nI 32) X (tL_at tL_law_1_ok 7 rfl) (by decide) ?_
    refine hl_imul X (tL_at tL_law_1_ok 8 rfl) ?_
    refine hr_iload X (tL_at tL_law_1_ok 9 rfl) rfl ?_
    refine hl_iadd X (tL_at tL_law_1_ok 10 rfl) ?_
    refine hr_goto 151 X (tL_at tL_law_1_ok 11 rfl) (by decide) ?_
    exact J151 _ (by omega)
set_option maxHeartbeats 4000000 in
set_option maxRecDepth 100000 in
theorem w_L4 {C : hm_C} {nm : String} {Q : State → Prop} {cA : Nat → ClassId} {M : hm_M} {sc N0 a b nr cr t : Nat} {xs : Nat → Int32} (X : hm_X C RL cL_law 12 (some .boolean) nm room_1 cA) (S : hm_Scr C sc N0 xs) (hN : N0 ≤ 260) {kr sr : Nat} (hkr : kr + 7569 ≤ 609012) (hsr : sr + 45557 ≤ 7274735) (hJ0 : lz_J cA a b nr cr M) (kend : ∀ M9 : hm_M, hm_W C (kr + 7569) (sr + 45557) Q M9 458 [some (.ref sc), some (.ref a), some (.ref b), some (.ref nr), some (.ref cr), some (.int (nI 1)), some (.int (nI t)), some (.int (nI t)), none, none, none, none] [.int (nI 1)]) : hm_W C kr sr Q M 370 [some (.ref sc), some (.ref a), some (.ref b), some (.ref nr), some (.ref cr), some (.int (nI 1)), some (.int (nI t)), some (.int (nI t)), none, none, none, none] [] := by
  obtain ⟨sg, Z, fn, fc, hI, hJ, hK, hfn, hfc, hnr, hcr, hnc, hT⟩ := hJ0
  obtain ⟨N, h1, h3⟩ := hT
  refine hr_iload X (tL_at tL_law_3_ok 26 rfl) rfl ?_
  refine hr_if_eq 457 X (tL_at tL_law_3_ok 27 rfl) (by decide) (fun c => absurd c (by decide)) (fun _ => ?_)
  refine hr_aload_n X (tL_at tL_law_3_ok 28 rfl) rfl (Or.inr ⟨_, rfl⟩) ?_
  refine hr_aload_n X (tL_at tL_law_3_ok 29 rfl) rfl (Or.inr ⟨_, rfl⟩) ?_
  refine hr_aload X (tL_at tL_law_3_ok 30 rfl) rfl (Or.inr ⟨_, rfl⟩) ?_
  refine hr_aload_n X (tL_at tL_law_3_ok 31 rfl) rfl (Or.inr ⟨_, rfl⟩) ?_
  refine hr_iconst (nI 0) X (tL_at tL_law_3_ok 32 rfl) (by decide) ?_
  refine hr_callSS X S kCL_232 (tL_at tL_law_3_ok 33 rfl) (c_L_drawn cA (k := 0) (by omega) (by omega)) rfl rfl rfl (Nat.le_of_ble_eq_true rfl) ⟨⟨(Nat.le_of_ble_eq_true rfl), (Nat.le_of_ble_eq_true rfl)⟩, (show kr + 0 + 0 ≤ 609012 by omega), (show sr + 0 + 0 ≤ 7274735 by omega)⟩ (fun v0 M0 hp => ?_)
  obtain ⟨⟨d1, hd1, rfl⟩, rfl⟩ := hp
  refine hr_widen (k2 := (kr + 0)) (n2 := (sr + 0)) (show kr + 0 + 0 ≤ kr + 0 by omega) (show sr + 0 + 0 ≤ sr + 0 by omega) ?_
  refine hr_bipush (nI 25) X (tL_at tL_law_3_ok 34 rfl) (by decide) ?_
  refine hl_idiv X (tL_at tL_law_3_ok 35 rfl) (by omega) (by decide) (by decide) ?_
  refine hl_callS X kCL_248 (tL_at tL_law_3_ok 36 rfl) (c_L_holds cA (m := d1 / 25) hI hJ hK (by omega) h1 hfn (ls_at h3 hnr) (ls_at h3 hcr) hfc.2) rfl rfl rfl (Nat.le_of_ble_eq_true rfl) (kr + 2582) (sr + 15492) ⟨⟨(Nat.le_of_ble_eq_true rfl), (Nat.le_of_ble_eq_true rfl)⟩, (show kr + 0 + 2582 ≤ 609012 by omega), (show sr + 0 + 15492 ≤ 7274735 by omega)⟩ (show kr + 0 + 2582 ≤ kr + 2582 by omega) (show sr + 0 + 15492 ≤ sr + 15492 by omega) (fun M1 hQ1 => ?_)
  refine hr_if_eq 457 X (tL_at tL_law_3_ok 37 rfl) (by decide) (fun c => absurd c (by decide)) (fun _ => ?_)
  refine hr_aload_n X (tL_at tL_law_3_ok 38 rfl) rfl (Or.inr ⟨_, rfl⟩) ?_
  refine hr_aload_n X (tL_at tL_law_3_ok 39 rfl) rfl (Or.inr ⟨_, rfl⟩) ?_
  refine hr_aload_n X (tL_at tL_law_3_ok 40 rfl) rfl (Or.inr ⟨_, rfl⟩) ?_
  refine hr_iconst (nI 0) X (tL_at tL_law_3_ok 41 rfl) (by decide) ?_
  refine hr_callSS X S kCL_232 (tL_at tL_law_3_ok 42 rfl) (c_L_drawn cA (k := 0) (by omega) (by omega)) rfl rfl rfl (Nat.le_of_ble_eq_true rfl) ⟨⟨(Nat.le_of_ble_eq_true rfl), (Nat.le_of_ble_eq_true rfl)⟩, (show kr + 2582 + 0 ≤ 609012 by omega), (show sr + 15492 + 0 ≤ 7274735 by omega)⟩ (fun v0 M0 hp => ?_)
  obtain ⟨⟨d2, hd2, rfl⟩, rfl⟩ := hp
  refine hr_widen (k2 := (kr + 2582)) (n2 := (sr + 15492)) (show kr + 2582 + 0 ≤ kr + 2582 by omega) (show sr + 15492 + 0 ≤ sr + 15492 by omega) ?_
  refine hr_bipush (nI 27) X (tL_at tL_law_3_ok 43 rfl) (by decide) ?_
  refine hl_idiv X (tL_at tL_law_3_ok 44 rfl) (by omega) (by decide) (by decide) ?_
  refine hr_callS X kCL_251 (tL_at tL_law_3_ok 45 rfl) (c_L_ends cA (m := d2 / 27) (G := sp_K) (fun s9 s v a b c d => lk_fold a b c d) hK hI hJ (by omega) hQ1 (by rw [hK.1]; exact Nat.le_refl 2) hfn (ls_at h3 hnr)) rfl rfl rfl (Nat.le_of_ble_eq_true rfl) ⟨⟨(Nat.le_of_ble_eq_true rfl), (Nat.le_of_ble_eq_true rfl)⟩, (show kr + 2582 + 1110 ≤ 609012 by omega), (show sr + 15492 + 6660 ≤ 7274735 by omega)⟩ (fun v0 M2 hp => ?_)
  obtain ⟨rfl, s9, hR9, hQ2⟩ := hp
  refine hr_widen (k2 := (kr + 3692)) (n2 := (sr + 22152)) (show kr + 2582 + 1110 ≤ kr + 3692 by omega) (show sr + 15492 + 6660 ≤ sr + 22152 by omega) ?_
  obtain ⟨i1, i2, i3, i4, i5, i6⟩ := hR9
  refine hr_if_eq 457 X (tL_at tL_law_3_ok 46 rfl) (by decide) (fun c => absurd c (by decide)) (fun _ => ?_)
  refine hr_aload_n X (tL_at tL_law_3_ok 47 rfl) rfl (Or.inr ⟨_, rfl⟩) ?_
  refine hr_aload_n X (tL_at tL_law_3_ok 48 rfl) rfl (Or.inr ⟨_, rfl⟩) ?_
  refine hr_aload X (tL_at tL_law_3_ok 49 rfl) rfl (Or.inr ⟨_, rfl⟩) ?_
  refine hr_aload_n X (tL_at tL_law_3_ok 50 rfl) rfl (Or.inr ⟨_, rfl⟩) ?_
  refine hr_iconst (nI 0) X (tL_at tL_law_3_ok 51 rfl) (by decide) ?_
  refine hr_callSS X S kCL_232 (tL_at tL_law_3_ok 52 rfl) (c_L_drawn cA (k := 0) (by omega) (by omega)) rfl rfl rfl (Nat.le_of_ble_eq_true rfl) ⟨⟨(Nat.le_of_ble_eq_true rfl), (Nat.le_of_ble_eq_true rfl)⟩, (show kr + 3692 + 0 ≤ 609012 by omega), (show sr + 22152 + 0 ≤ 7274735 by omega)⟩ (fun v0 M0 hp => ?_)
  obtain ⟨⟨d3, hd3, rfl⟩, rfl⟩ := hp
  refine hr_widen (k2 := (kr + 3692)) (n2 := (sr + 22152)) (show kr + 3692 + 0 ≤ kr + 3692 by omega) (show sr + 22152 + 0 ≤ sr + 22152 by omega) ?_
  refine hr_bipush (nI 29) X (tL_at tL_law_3_ok 53 rfl) (by decide) ?_
  refine hl_idiv X (tL_at tL_law_3_ok 54 rfl) (by omega) (by decide) (by decide) ?_
  refine hl_callS X kCL_248 (tL_at tL_law_3_ok 55 rfl) (c_L_holds cA (m := d3 / 29) i1 i2 i3 (by omega) hQ2 (fun x hx => by rw [i4]; exact hfn x hx) (ls_at h3 hnr) (ls_at h3 hcr) (fun x g hx hg => by rw [i5]; exact hfc.2 x g hx hg)) rfl rfl rfl (Nat.le_of_ble_eq_true rfl) (kr + 6274) (sr + 37644) ⟨⟨(Nat.le_of_ble_eq_true rfl), (Nat.le_of_ble_eq_true rfl)⟩, (show kr + 3692 + 2582 ≤ 609012 by omega), (show sr + 22152 + 15492 ≤ 7274735 by omega)⟩ (show kr + 3692 + 2582 ≤ kr + 6274 by omega) (show sr + 22152 + 15492 ≤ sr + 37644 by omega) (fun M3 hQ3 => ?_)
  refine hr_if_eq 457 X (tL_at tL_law_3_ok 56 rfl) (by decide) (fun c => absurd c (by decide)) (fun _ => ?_)
  obtain ⟨N2, h4, h5⟩ := lt_Q.swap (show lt_Q cA Z a b s9 sg M3 from ⟨N, hQ3, h3⟩)
  refine hr_aload_n X (tL_at tL_law_3_ok 57 rfl) rfl (Or.inr ⟨_, rfl⟩) ?_
  refine hr_aload_n X (tL_at tL_law_3_ok 58 rfl) rfl (Or.inr ⟨_, rfl⟩) ?_
  refine hr_aload X (tL_at tL_law_3_ok 59 rfl) rfl (Or.inr ⟨_, rfl⟩) ?_
  refine hr_callS X kCL_255 (tL_at tL_law_4_ok 0 rfl) (c_L_twins cA hI hJ hK h4) rfl rfl rfl (Nat.le_of_ble_eq_true rfl) ⟨⟨(Nat.le_of_ble_eq_true rfl), (Nat.le_of_ble_eq_true rfl)⟩, (show kr + 6274 + 185 ≤ 609012 by omega), (show sr + 37644 + 1253 ≤ 7274735 by omega)⟩ (fun v0 M4 hp => ?_)
  obtain ⟨rfl, s8, j1, j2, j3, j4, hQ4⟩ := hp
  refine hr_widen (k2 := (kr + 6459)) (n2 := (sr + 38897)) (show kr + 6274 + 185 ≤ kr + 6459 by omega) (show sr + 37644 + 1253 ≤ sr + 38897 by omega) ?_
  refine hr_if_eq 457 X (tL_at tL_law_4_ok 1 rfl) (by decide) (fun c => absurd c (by decide)) (fun _ => ?_)
  refine hr_aload_n X (tL_at tL_law_4_ok 2 rfl) rfl (Or.inr ⟨_, rfl⟩) ?_
  refine hr_aload_n X (tL_at tL_law_4_ok 3 rfl) rfl (Or.inr ⟨_, rfl⟩) ?_
  refine hr_aload_n X (tL_at tL_law_4_ok 4 rfl) rfl (Or.inr ⟨_, rfl⟩) ?_
  refine hr_iconst (nI 0) X (tL_at tL_law_4_ok 5 rfl) (by decide) ?_
  refine hr_callSS X S kCL_232 (tL_at tL_law_4_ok 6 rfl) (c_L_drawn cA (k := 0) (by omega) (by omega)) rfl rfl rfl (Nat.le_of_ble_eq_true rfl) ⟨⟨(Nat.le_of_ble_eq_true rfl), (Nat.le_of_ble_eq_true rfl)⟩, (show kr + 6459 + 0 ≤ 609012 by omega), (show sr + 38897 + 0 ≤ 7274735 by omega)⟩ (fun v0 M0 hp => ?_)
  obtain ⟨⟨d4, hd4, rfl⟩, rfl⟩ := hp
  refine hr_widen (k2 := (kr + 6459)) (n2 := (sr + 38897)) (show kr + 6459 + 0 ≤ kr + 6459 by omega) (show sr + 38897 + 0 ≤ sr + 38897 by omega) ?_
  refine hr_bipush (nI 31) X (tL_at tL_law_4_ok 7 rfl) (by decide) ?_
  refine hl_idiv X (tL_at tL_law_4_ok 8 rfl) (by omega) (by decide) (by decide) ?_
  refine hr_callS X kCL_251 (tL_at tL_law_4_ok 9 rfl) (c_L_ends cA (m := d4 / 31) (G := fun _ => True) (fun _ _ _ _ _ _ _ => trivial) trivial j1 j2 (by omega) hQ4 (by rw [j3]; decide) (fun x hx => (j4 x hx).trans (hfn x hx)) (ls_at h5 hnr)) rfl rfl rfl (Nat.le_of_ble_eq_true rfl) ⟨⟨(Nat.le_of_ble_eq_true rfl), (Nat.le_of_ble_eq_true rfl)⟩, (show kr + 6459 + 1110 ≤ 609012 by omega), (show sr + 38897 + 6660 ≤ 7274735 by omega)⟩ (fun v0 M5 hp => ?_)
  obtain ⟨rfl, s7, -, -⟩ := hp
  refine hr_widen (k2 := (kr + 7569)) (n2 := (sr + 45557)) (show kr + 6459 + 1110 ≤ kr + 7569 by omega) (show sr + 38897 + 6660 ≤ sr + 45557 by omega) ?_
  refine hr_if_eq 457 X (tL_at tL_law_4_ok 10 rfl) (by decide) (fun c => absurd c (by decide)) (fun _ => ?_)
  refine hr_iconst (nI 1) X (tL_at tL_law_4_ok 11 rfl) (by decide) ?_
  refine hr_goto 458 X (tL_at tL_law_4_ok 12 rfl) (by decide) ?_
  exact kend _
set_option maxHeartbeats 4000000 in
set_option maxRecDepth 100000 in
theorem w_LB {C : hm_C} {nm : String} {Q : State → Prop} {cA : Nat → ClassId} {sc N0 : Nat} {xs : Nat → Int32} (X : hm_X C RL cL_law 12 (some .boolean) nm room_1 cA) (S : hm_Scr C sc N0 xs) (hN : N0 ≤ 260) (kend : ∀ (k n : Nat) (M9 : hm_M) (L : List (Option Value)), L.length = 12 → k ≤ 609012 → n ≤ 7274735 → hm_W C k n Q M9 458 L [.int (nI 1)]) : hm_W C 0 0 Q (fun _ => none) 0 [some (.ref sc), none, none, none, none, none, none, none, none, none, none, none] [] := by
  refine hr_new [.null, .int 0, .null, .null, .null, .null, .null] X kNL_8 (tL_at tL_law_0_ok 0 rfl) (by intro j hj; rcases j with _ | _ | _ | _ | _ | _ | _ | j <;> first | rfl | omega) ⟨(Nat.le_of_ble_eq_true rfl), (Nat.le_of_ble_eq_true rfl)⟩ (fun a ha => ?_)
  refine hr_dup X (tL_at tL_law_0_ok 1 rfl) rfl ?_
  refine hr_callI X kCL_231 (tL_at tL_law_0_ok 2 rfl) (c_X5_init cA ha) rfl rfl rfl (Nat.le_of_ble_eq_true rfl) ⟨⟨(Nat.le_of_ble_eq_true rfl), (Nat.le_of_ble_eq_true rfl)⟩, (Nat.le_of_ble_eq_true rfl), (Nat.le_of_ble_eq_true rfl)⟩ (fun v0 Ma hp => ?_)
  obtain ⟨rfl, ada, rfl, hRa⟩ := hp
  refine hr_widen (k2 := 19) (n2 := 650) (Nat.le_of_ble_eq_true rfl) (Nat.le_of_ble_eq_true rfl) ?_
  refine hr_astore_n X (tL_at tL_law_0_ok 3 rfl) (Nat.le_of_ble_eq_true rfl) (Or.inr ⟨_, rfl⟩) ?_
  refine hr_new [.null, .int 0, .null, .null, .null, .null, .null] X kNL_8 (tL_at tL_law_0_ok 4 rfl) (by intro j hj; rcases j with _ | _ | _ | _ | _ | _ | _ | j <;> first | rfl | omega) ⟨(Nat.le_of_ble_eq_true rfl), (Nat.le_of_ble_eq_true rfl)⟩ (fun b hb => ?_)
  refine hr_dup X (tL_at tL_law_0_ok 5 rfl) rfl ?_
  refine hr_callI X kCL_231 (tL_at tL_law_0_ok 6 rfl) (c_X5_init cA hb) rfl rfl rfl (Nat.le_of_ble_eq_true rfl) ⟨⟨(Nat.le_of_ble_eq_true rfl), (Nat.le_of_ble_eq_true rfl)⟩, (Nat.le_of_ble_eq_true rfl), (Nat.le_of_ble_eq_true rfl)⟩ (fun v0 Mb hp => ?_)
  obtain ⟨rfl, adb, rfl, hRb⟩ := hp
  refine hr_widen (k2 := 38) (n2 := 1300) (Nat.le_of_ble_eq_true rfl) (Nat.le_of_ble_eq_true rfl) ?_
  refine hr_astore_n X (tL_at tL_law_0_ok 7 rfl) (Nat.le_of_ble_eq_true rfl) (Or.inr ⟨_, rfl⟩) ?_
  have hT0 : lt_Q cA (fun _ => none) (ada 0 0) (adb 0 0) (sp_S0 4 320) (sp_S0 4 320) Mb := lt_Q.swap ⟨Ma, ⟨_, adb, hRb, cr_ok_S0, rfl⟩, ⟨_, ada, hRa, cr_ok_S0, rfl⟩⟩
  generalize ada 0 0 = a at hT0 ⊢
  generalize adb 0 0 = b at hT0 ⊢
  refine hr_iconst (nI 2) X (tL_at tL_law_0_ok 8 rfl) (by decide) ?_
  refine hr_newa 0 .int 2 (2, .inl (fun _ => 0)) X (tL_at tL_law_0_ok 9 rfl) rfl kA_int (fun _ => rfl) (by decide) (by decide) (by decide) ⟨(Nat.le_of_ble_eq_true rfl), (Nat.le_of_ble_eq_true rfl)⟩ hm_nuI (fun nr hnr => ?_)
  refine hr_widen (k2 := 39) (n2 := 1302) (Nat.le_of_ble_eq_true rfl) (Nat.le_of_ble_eq_true rfl) ?_
  refine hr_astore_n X (tL_at tL_law_0_ok 10 rfl) (Nat.le_of_ble_eq_true rfl) (Or.inr ⟨_, rfl⟩) ?_
  have hTnr := hT0.up (e := cr_iw cA 0 2 (fun _ => 0)) hnr
  refine hr_iconst (nI 2) X (tL_at tL_law_0_ok 11 rfl) (by decide) ?_
  refine hr_newa 0 .int 2 (2, .inl (fun _ => 0)) X (tL_at tL_law_0_ok 12 rfl) rfl kA_int (fun _ => rfl) (by decide) (by decide) (by decide) ⟨(Nat.le_of_ble_eq_true rfl), (Nat.le_of_ble_eq_true rfl)⟩ hm_nuI (fun cr hcr => ?_)
  refine hr_widen (k2 := 40) (n2 := 1304) (Nat.le_of_ble_eq_true rfl) (Nat.le_of_ble_eq_true rfl) ?_
  refine hr_astore X (tL_at tL_law_0_ok 13 rfl) (Nat.le_of_ble_eq_true rfl) (Or.inr ⟨_, rfl⟩) ?_
  have hTcr := hTnr.up (e := cr_iw cA 0 2 (fun _ => 0)) hcr
  have hnc : nr ≠ cr := fun z => by rw [← z] at hcr; exact absurd (hm_up_s.symm.trans hcr) (by simp)
  refine hr_aload_n X (tL_at tL_law_0_ok 14 rfl) rfl (Or.inr ⟨_, rfl⟩) ?_
  refine hl_call1 (v := (sp_S0 4 320) 1 0) (sg2 := (sp_addS (sp_S0 4 320))) X kSL_sheets (tL_at tL_law_0_ok 15 rfl) hTcr (fun N h => by have := c_L_sheets cA sp_I_S0 sp_J_S0 h; rw [lcf_0 lz_w, if_pos lz_w] at this; exact this) rfl rfl rfl (Nat.le_of_ble_eq_true rfl) 48 1360 ⟨⟨(Nat.le_of_ble_eq_true rfl), (Nat.le_of_ble_eq_true rfl)⟩, (Nat.le_of_ble_eq_true rfl), (Nat.le_of_ble_eq_true rfl)⟩ (Nat.le_of_ble_eq_true rfl) (Nat.le_of_ble_eq_true rfl) (fun M1 hT1 => ?_)
  refine hr_if_ne 59 X (tL_at tL_law_0_ok 16 rfl) (by decide) (fun c => absurd rfl c) (fun _ => ?_)
  refine hr_aload_n X (tL_at tL_law_0_ok 17 rfl) rfl (Or.inr ⟨_, rfl⟩) ?_
  refine hl_call1 (v := (sp_addS (sp_S0 4 320)) 1 0) (sg2 := (sp_addS (sp_addS (sp_S0 4 320)))) X kSL_sheets (tL_at tL_law_0_ok 18 rfl) hT1 (fun N h => by have := c_L_sheets cA lz_I1.1 lz_I1.2 h; rw [lcf_0 lz_w1, if_pos lz_w1] at this; exact this) rfl rfl rfl (Nat.le_of_ble_eq_true rfl) 56 1416 ⟨⟨(Nat.le_of_ble_eq_true rfl), (Nat.le_of_ble_eq_true rfl)⟩, (Nat.le_of_ble_eq_true rfl), (Nat.le_of_ble_eq_true rfl)⟩ (Nat.le_of_ble_eq_true rfl) (Nat.le_of_ble_eq_true rfl) (fun M2 hT2 => ?_)
  rw [lz_1]
  refine hr_iconst (nI 1) X (tL_at tL_law_0_ok 19 rfl) (by decide) ?_
  refine hr_icmp_ne 59 X (tL_at tL_law_0_ok 20 rfl) (by decide) (fun c => absurd rfl c) (fun _ => ?_)
  refine hr_aload_n X (tL_at tL_law_0_ok 21 rfl) rfl (Or.inr ⟨_, rfl⟩) ?_
  refine hl_call2 (v := (sp_S0 4 320) 1 0) (sg2 := (sp_addS (sp_S0 4 320))) X kSL_sheets (tL_at tL_law_0_ok 22 rfl) hT2 (fun N h => by have := c_L_sheets cA sp_I_S0 sp_J_S0 h; rw [lcf_0 lz_w, if_pos lz_w] at this; exact this) rfl rfl rfl (Nat.le_of_ble_eq_true rfl) 64 1472 ⟨⟨(Nat.le_of_ble_eq_true rfl), (Nat.le_of_ble_eq_true rfl)⟩, (Nat.le_of_ble_eq_true rfl), (Nat.le_of_ble_eq_true rfl)⟩ (Nat.le_of_ble_eq_true rfl) (Nat.le_of_ble_eq_true rfl) (fun M3 hT3 => ?_)
  refine hr_if_ne 59 X (tL_at tL_law_0_ok 23 rfl) (by decide) (fun c => absurd rfl c) (fun _ => ?_)
  refine hr_aload_n X (tL_at tL_law_0_ok 24 rfl) rfl (Or.inr ⟨_, rfl⟩) ?_
  refine hl_call2 (v := (sp_addS (sp_S0 4 320)) 1 0) (sg2 := (sp_addS (sp_addS (sp_S0 4 320)))) X kSL_sheets (tL_at tL_law_0_ok 25 rfl) hT3 (fun N h => by have := c_L_sheets cA lz_I1.1 lz_I1.2 h; rw [lcf_0 lz_w1, if_pos lz_w1] at this; exact this) rfl rfl rfl (Nat.le_of_ble_eq_true rfl) 72 1528 ⟨⟨(Nat.le_of_ble_eq_true rfl), (Nat.le_of_ble_eq_true rfl)⟩, (Nat.le_of_ble_eq_true rfl), (Nat.le_of_ble_eq_true rfl)⟩ (Nat.le_of_ble_eq_true rfl) (Nat.le_of_ble_eq_true rfl) (fun M4 hT4 => ?_)
  rw [lz_1]
  refine hr_iconst (nI 1) X (tL_at tL_law_0_ok 26 rfl) (by decide) ?_
  refine hr_icmp_ne 59 X (tL_at tL_law_0_ok 27 rfl) (by decide) (fun c => absurd rfl c) (fun _ => ?_)
  refine hr_iconst (nI 1) X (tL_at tL_law_0_ok 28 rfl) (by decide) ?_
  refine hr_goto 60 X (tL_at tL_law_0_ok 29 rfl) (by decide) ?_
  refine hr_istore X (tL_at tL_law_0_ok 31 rfl) (Nat.le_of_ble_eq_true rfl) ?_
  refine hr_aload_n X (tL_at tL_law_0_ok 32 rfl) rfl (Or.inr ⟨_, rfl⟩) ?_
  refine hr_iconst (nI 0) X (tL_at tL_law_0_ok 33 rfl) (by decide) ?_
  refine hr_iconst (nI 1) X (tL_at tL_law_0_ok 34 rfl) (by decide) ?_
  have hz1 : (hm_up (hm_up (fun _ => none) nr (cr_iw cA 0 2 (fun _ => 0))) cr (cr_iw cA 0 2 (fun _ => 0))) nr = some (cr_iw cA 0 2 (fun _ => 0)) := (hm_up_n hnc).trans hm_up_s
  refine hl_iast X (tL_at tL_law_0_ok 35 rfl) (hT4.at hz1) (by decide) (by decide) ?_
  have hTa := hT4.set (e' := cr_iw cA 0 2 (upd (fun _ => 0) 0 (nI 1))) hz1
  refine hr_aload_n X (tL_at tL_law_0_ok 36 rfl) rfl (Or.inr ⟨_, rfl⟩) ?_
  refine hr_iconst (nI 1) X (tL_at tL_law_0_ok 37 rfl) (by decide) ?_
  refine hr_iconst (nI 1) X (tL_at tL_law_0_ok 38 rfl) (by decide) ?_
  refine hl_iast X (tL_at tL_law_0_ok 39 rfl) (hTa.at hm_up_s) (by decide) (by decide) ?_
  have hTb := hTa.set (e' := cr_iw cA 0 2 (upd (upd (fun _ => 0) 0 (nI 1)) 1 (nI 1))) hm_up_s
  have hJ0 : lz_J cA a b nr cr _ := ⟨_, _, upd (upd (fun _ => 0) 0 (nI 1)) 1 (nI 1), fun _ => 0, lz_I2.1, lz_I2.2, lz_K, fun x hx => by
      rw [lz_5 x hx]
      rcases (show x = 0 ∨ x = 1 by omega) with rfl | rfl <;> rfl, ⟨fun x _ => ⟨0, by decide, rfl⟩, fun x g _ hg => by
      rw [lz_11]
      exact (show ∀ g, g < 4 → ((0 : Int32) >>> (nI g &&& 31)) &&& nI 1 = 0 by decide +kernel) g hg⟩, hm_up_s, (hm_up_n hnc.symm).trans ((hm_up_n hnc.symm).trans hm_up_s), hnc, hTb⟩
  refine hr_bipush (nI 20) X (tL_at tL_law_0_ok 40 rfl) (by decide) ?_
  refine hr_aload_n X (tL_at tL_law_0_ok 41 rfl) rfl (Or.inr ⟨_, rfl⟩) ?_
  refine hr_iconst (nI 0) X (tL_at tL_law_0_ok 42 rfl) (by decide) ?_
  refine hr_callSS X S kCL_232 (tL_at tL_law_0_ok 43 rfl) (c_L_drawn cA (k := 0) (by omega) (by omega)) rfl rfl rfl (Nat.le_of_ble_eq_true rfl) ⟨⟨(Nat.le_of_ble_eq_true rfl), (Nat.le_of_ble_eq_true rfl)⟩, (Nat.le_of_ble_eq_true rfl), (Nat.le_of_ble_eq_true rfl)⟩ (fun v0 M0 hp => ?_)
  obtain ⟨⟨d, hd, rfl⟩, rfl⟩ := hp
  refine hr_widen (k2 := 72) (n2 := 1528) (Nat.le_of_ble_eq_true rfl) (Nat.le_of_ble_eq_true rfl) ?_
  refine hr_bipush (nI 25) X (tL_at tL_law_0_ok 44 rfl) (by decide) ?_
  refine hl_irem X (tL_at tL_law_0_ok 45 rfl) (by omega) (by decide) (by decide) ?_
  refine hl_iadd X (tL_at tL_law_0_ok 46 rfl) ?_
  refine hr_istore X (tL_at tL_law_0_ok 47 rfl) (Nat.le_of_ble_eq_true rfl) ?_
  obtain ⟨t, ht⟩ : ∃ t, t = 20 + d % 25 := ⟨_, rfl⟩
  rw [← ht]
  refine hr_iconst (nI 0) X (tL_at tL_law_0_ok 48 rfl) (by decide) ?_
  refine hr_istore X (tL_at tL_law_0_ok 49 rfl) (Nat.le_of_ble_eq_true rfl) ?_
  refine hl_for (L := fun i => [some (.ref sc), some (.ref a), some (.ref b), some (.ref nr), some (.ref cr), some (.int (nI 1)), some (.int (nI t)), some (.int (nI i)), none, none, none, none]) (I := fun _ M9 => lz_J cA a b nr cr M9) t 5360 33290 72 1528 (fun i M9 kr9 sr9 hi h9 hk9 hs9 kk9 => w_L0 X S hN (by omega) (by omega) hi (by omega) h9 kk9) (fun M9 h9 => ?_) hJ0
  refine hr_widen (k2 := 235912) (n2 := 1466288) (by omega) (by omega) ?_
  refine hr_iload X (tL_at tL_law_0_ok 50 rfl) rfl ?_
  refine hr_iload X (tL_at tL_law_0_ok 51 rfl) rfl ?_
  refine hr_icmp_ge 370 X (tL_at tL_law_0_ok 52 rfl) (by decide) (fun _ => ?_) (fun c => absurd (Int32.le_refl _) c)
  exact w_L4 (kr := 235912) (sr := 1466288) X S hN (Nat.le_of_ble_eq_true rfl) (Nat.le_of_ble_eq_true rfl) h9 (fun M8 => kend _ _ _ _ rfl (Nat.le_of_ble_eq_true rfl) (Nat.le_of_ble_eq_true rfl))
