/-! two servers alike: the walk -/
abbrev r_L_alike : Room := { frames := 10, cells := 1224, slots := 7344, locals := 260 }
theorem lh_lcl {sg : mm_S} {s p q : Int32} : lcf lNI lNI lNI (sp_w (sp_isS sg s && sp_in p 0 11 && sp_in q 0 11)) (sp_like sg s p q) = lcf lNI lNI lNI (sp_w (sp_isS sg s && sp_in q 0 11 && sp_in p 0 11)) (sp_like sg s q p) := by
  rw [lh_like, Bool.and_right_comm]
set_option maxHeartbeats 4000000 in
set_option maxRecDepth 100000 in
theorem w_E1 {C : hm_C} {nm : String} {Q : State → Prop} {cA : Nat → ClassId} {sg : mm_S} {Z M : hm_M} {a b nr m s : Nat} {i : Nat} (X : hm_X C RL cL_alike 7 (some .boolean) nm r_L_alike cA) (hI : sp_I sg) (hJ : sp_J sg) (hm : m < 2 ^ 31) (hT : lt_Q cA Z a b sg sg M) {kr sr : Nat} (hkr : kr + 10 ≤ 1224) (hsr : sr + 60 ≤ 7344) (hi : i < 4) (kk : ∀ M9 : hm_M, lt_Q cA Z a b sg sg M9 → hm_W C (kr + 10) (sr + 60) Q M9 57 [some (.ref a), some (.ref b), some (.ref nr), some (.int (nI m)), some (.int (nI 1)), some (.int (nI s)), some (.int (nI (i + 1)))] []) : hm_W C kr sr Q M 57 [some (.ref a), some (.ref b), some (.ref nr), some (.int (nI m)), some (.int (nI 1)), some (.int (nI s)), some (.int (nI i))] [] := by
  refine hr_iload X (tL_at tL_alike_0_ok 29 rfl) rfl ?_
  refine hr_iconst (nI 4) X (tL_at tL_alike_0_ok 30 rfl) (by decide) ?_
  refine hr_icmp_ge 134 X (tL_at tL_alike_0_ok 31 rfl) (by decide) (fun c => absurd c (nI_ge hi (by decide))) (fun _ => ?_)
  refine hr_iload X (tL_at tL_alike_0_ok 32 rfl) rfl ?_
  refine hr_if_eq 134 X (tL_at tL_alike_0_ok 33 rfl) (by decide) (fun c => absurd c (by decide)) (fun _ => ?_)
  refine hr_aload_n X (tL_at tL_alike_0_ok 34 rfl) rfl (Or.inr ⟨_, rfl⟩) ?_
  refine hr_iload X (tL_at tL_alike_0_ok 35 rfl) rfl ?_
  refine hr_iload X (tL_at tL_alike_0_ok 36 rfl) rfl ?_
  refine hl_call1 X kSL_head (tL_at tL_alike_0_ok 37 rfl) hT (fun N hQ => c_L_head cA hI hJ hQ (nI i) (nI s)) rfl rfl rfl (Nat.le_of_ble_eq_true rfl) (kr + 2) (sr + 12) ⟨⟨(Nat.le_of_ble_eq_true rfl), (Nat.le_of_ble_eq_true rfl)⟩, (show kr + 0 + 2 ≤ 1224 by omega), (show sr + 0 + 12 ≤ 7344 by omega)⟩ (show kr + 0 + 2 ≤ kr + 2 by omega) (show sr + 0 + 12 ≤ sr + 12 by omega) (fun M1 hT1 => ?_)
  refine hr_aload_n X (tL_at tL_alike_0_ok 38 rfl) rfl (Or.inr ⟨_, rfl⟩) ?_
  refine hr_iload X (tL_at tL_alike_0_ok 39 rfl) rfl ?_
  refine hr_iload X (tL_at tL_alike_0_ok 40 rfl) rfl ?_
  refine hl_call2 X kSL_head (tL_at tL_alike_0_ok 41 rfl) hT1 (fun N hQ => c_L_head cA hI hJ hQ (nI i) (nI s)) rfl rfl rfl (Nat.le_of_ble_eq_true rfl) (kr + 4) (sr + 24) ⟨⟨(Nat.le_of_ble_eq_true rfl), (Nat.le_of_ble_eq_true rfl)⟩, (show kr + 2 + 2 ≤ 1224 by omega), (show sr + 12 + 12 ≤ 7344 by omega)⟩ (show kr + 2 + 2 ≤ kr + 4 by omega) (show sr + 12 + 12 ≤ sr + 24 by omega) (fun M2 hT2 => ?_)
  refine hr_icmp_ne 125 X (tL_at tL_alike_0_ok 42 rfl) (by decide) (fun c => absurd rfl c) (fun _ => ?_)
  refine hr_aload_n X (tL_at tL_alike_0_ok 43 rfl) rfl (Or.inr ⟨_, rfl⟩) ?_
  refine hr_iload X (tL_at tL_alike_0_ok 44 rfl) rfl ?_
  refine hl_call1 X kSL_used (tL_at tL_alike_0_ok 45 rfl) hT2 (fun N hQ => c_L_used cA hI hJ hQ (nI i)) rfl rfl rfl (Nat.le_of_ble_eq_true rfl) (kr + 5) (sr + 30) ⟨⟨(Nat.le_of_ble_eq_true rfl), (Nat.le_of_ble_eq_true rfl)⟩, (show kr + 4 + 1 ≤ 1224 by omega), (show sr + 24 + 6 ≤ 7344 by omega)⟩ (show kr + 4 + 1 ≤ kr + 5 by omega) (show sr + 24 + 6 ≤ sr + 30 by omega) (fun M3 hT3 => ?_)
  refine hr_aload_n X (tL_at tL_alike_0_ok 46 rfl) rfl (Or.inr ⟨_, rfl⟩) ?_
  refine hr_iload X (tL_at tL_alike_0_ok 47 rfl) rfl ?_
  refine hl_call2 X kSL_used (tL_at tL_alike_0_ok 48 rfl) hT3 (fun N hQ => c_L_used cA hI hJ hQ (nI i)) rfl rfl rfl (Nat.le_of_ble_eq_true rfl) (kr + 6) (sr + 36) ⟨⟨(Nat.le_of_ble_eq_true rfl), (Nat.le_of_ble_eq_true rfl)⟩, (show kr + 5 + 1 ≤ 1224 by omega), (show sr + 30 + 6 ≤ 7344 by omega)⟩ (show kr + 5 + 1 ≤ kr + 6 by omega) (show sr + 30 + 6 ≤ sr + 36 by omega) (fun M4 hT4 => ?_)
  refine hr_icmp_ne 125 X (tL_at tL_alike_0_ok 49 rfl) (by decide) (fun c => absurd rfl c) (fun _ => ?_)
  refine hr_aload_n X (tL_at tL_alike_0_ok 50 rfl) rfl (Or.inr ⟨_, rfl⟩) ?_
  refine hr_iload X (tL_at tL_alike_0_ok 51 rfl) rfl ?_
  refine hr_iload X (tL_at tL_alike_0_ok 52 rfl) rfl ?_
  refine hl_call1 X kSL_average (tL_at tL_alike_0_ok 53 rfl) hT4 (fun N hQ => c_L_average cA hI hJ hQ (nI i) (nI s)) rfl rfl rfl (Nat.le_of_ble_eq_true rfl) (kr + 8) (sr + 48) ⟨⟨(Nat.le_of_ble_eq_true rfl), (Nat.le_of_ble_eq_true rfl)⟩, (show kr + 6 + 2 ≤ 1224 by omega), (show sr + 36 + 12 ≤ 7344 by omega)⟩ (show kr + 6 + 2 ≤ kr + 8 by omega) (show sr + 36 + 12 ≤ sr + 48 by omega) (fun M5 hT5 => ?_)
  refine hr_aload_n X (tL_at tL_alike_0_ok 54 rfl) rfl (Or.inr ⟨_, rfl⟩) ?_
  refine hr_iload X (tL_at tL_alike_0_ok 55 rfl) rfl ?_
  refine hr_iload X (tL_at tL_alike_0_ok 56 rfl) rfl ?_
  refine hl_call2 X kSL_average (tL_at tL_alike_0_ok 57 rfl) hT5 (fun N hQ => c_L_average cA hI hJ hQ (nI i) (nI s)) rfl rfl rfl (Nat.le_of_ble_eq_true rfl) (kr + 10) (sr + 60) ⟨⟨(Nat.le_of_ble_eq_true rfl), (Nat.le_of_ble_eq_true rfl)⟩, (show kr + 8 + 2 ≤ 1224 by omega), (show sr + 48 + 12 ≤ 7344 by omega)⟩ (show kr + 8 + 2 ≤ kr + 10 by omega) (show sr + 48 + 12 ≤ sr + 60 by omega) (fun M6 hT6 => ?_)
  refine hr_icmp_ne 125 X (tL_at tL_alike_0_ok 58 rfl) (by decide) (fun c => absurd rfl c) (fun _ => ?_)
  refine hr_iconst (nI 1) X (tL_at tL_alike_0_ok 59 rfl) (by decide) ?_
  refine hr_goto 126 X (tL_at tL_alike_1_ok 0 rfl) (by decide) ?_
  refine hr_istore X (tL_at tL_alike_1_ok 2 rfl) (Nat.le_of_ble_eq_true rfl) ?_
  refine hl_iinc X (tL_at tL_alike_1_ok 3 rfl) rfl ?_
  refine hr_goto 57 X (tL_at tL_alike_1_ok 4 rfl) (by decide) ?_
  refine hr_widen (k2 := kr + 10) (n2 := sr + 60) (by omega) (by omega) ?_
  refine hr_sub (L2 := [some (.ref a), some (.ref b), some (.ref nr), some (.int (nI m)), some (.int (nI 1)), some (.int (nI s)), some (.int (nI (i + 1)))]) ⟨rfl, rfl, rfl, rfl, rfl, rfl, rfl, trivial⟩ ?_
  exact kk _ hT6
set_option maxHeartbeats 4000000 in
set_option maxRecDepth 100000 in
theorem w_E2 {C : hm_C} {nm : String} {Q : State → Prop} {cA : Nat → ClassId} {sg : mm_S} {Z M : hm_M} {a b nr m s : Nat} {i nn : Nat} {fn : Nat → Int32} (X : hm_X C RL cL_alike 7 (some .boolean) nm r_L_alike cA) (hI : sp_I sg) (hJ : sp_J sg) (hm : m < 2 ^ 31) (hT : lt_Q cA Z a b sg sg M) {kr sr : Nat} (hkr : kr + 16 ≤ 1224) (hsr : sr + 96 ≤ 7344) (hi : i < nn) (hn16 : nn ≤ 16) (hs2 : s < 2) (hfn : fn s = nI nn) (hnr : Z nr = some (cr_iw cA 0 2 fn)) (kk : ∀ M9 : hm_M, lt_Q cA Z a b sg sg M9 → hm_W C (kr + 16) (sr + 96) Q M9 137 [some (.ref a), some (.ref b), some (.ref nr), some (.int (nI m)), some (.int (nI 1)), some (.int (nI s)), some (.int (nI (i + 1)))] []) : hm_W C kr sr Q M 137 [some (.ref a), some (.ref b), some (.ref nr), some (.int (nI m)), some (.int (nI 1)), some (.int (nI s)), some (.int (nI i))] [] := by
  refine hr_iload X (tL_at tL_alike_1_ok 7 rfl) rfl ?_
  refine hr_aload_n X (tL_at tL_alike_1_ok 8 rfl) rfl (Or.inr ⟨_, rfl⟩) ?_
  refine hr_iload X (tL_at tL_alike_1_ok 9 rfl) rfl ?_
  refine hl_iald X (tL_at tL_alike_1_ok 10 rfl) (hT.at hnr) hs2 (by decide) ?_
  rw [hfn]
  refine hr_icmp_ge 237 X (tL_at tL_alike_1_ok 11 rfl) (by decide) (fun c => absurd c (nI_ge hi (by omega))) (fun _ => ?_)
  refine hr_iload X (tL_at tL_alike_1_ok 12 rfl) rfl ?_
  refine hr_if_eq 237 X (tL_at tL_alike_1_ok 13 rfl) (by decide) (fun c => absurd c (by decide)) (fun _ => ?_)
  refine hr_aload_n X (tL_at tL_alike_1_ok 14 rfl) rfl (Or.inr ⟨_, rfl⟩) ?_
  refine hr_iload X (tL_at tL_alike_1_ok 15 rfl) rfl ?_
  refine hr_iload X (tL_at tL_alike_1_ok 16 rfl) rfl ?_
  refine hl_call1 X kSL_parent (tL_at tL_alike_1_ok 17 rfl) hT (fun N hQ => c_L_parent cA hI hJ hQ (nI s) (nI i)) rfl rfl rfl (Nat.le_of_ble_eq_true rfl) (kr + 2) (sr + 12) ⟨⟨(Nat.le_of_ble_eq_true rfl), (Nat.le_of_ble_eq_true rfl)⟩, (show kr + 0 + 2 ≤ 1224 by omega), (show sr + 0 + 12 ≤ 7344 by omega)⟩ (show kr + 0 + 2 ≤ kr + 2 by omega) (show sr + 0 + 12 ≤ sr + 12 by omega) (fun M1 hT1 => ?_)
  refine hr_aload_n X (tL_at tL_alike_1_ok 18 rfl) rfl (Or.inr ⟨_, rfl⟩) ?_
  refine hr_iload X (tL_at tL_alike_1_ok 19 rfl) rfl ?_
  refine hr_iload X (tL_at tL_alike_1_ok 20 rfl) rfl ?_
  refine hl_call2 X kSL_parent (tL_at tL_alike_1_ok 21 rfl) hT1 (fun N hQ => c_L_parent cA hI hJ hQ (nI s) (nI i)) rfl rfl rfl (Nat.le_of_ble_eq_true rfl) (kr + 4) (sr + 24) ⟨⟨(Nat.le_of_ble_eq_true rfl), (Nat.le_of_ble_eq_true rfl)⟩, (show kr + 2 + 2 ≤ 1224 by omega), (show sr + 12 + 12 ≤ 7344 by omega)⟩ (show kr + 2 + 2 ≤ kr + 4 by omega) (show sr + 12 + 12 ≤ sr + 24 by omega) (fun M2 hT2 => ?_)
  refine hr_icmp_ne 228 X (tL_at tL_alike_1_ok 22 rfl) (by decide) (fun c => absurd rfl c) (fun _ => ?_)
  refine hr_aload_n X (tL_at tL_alike_1_ok 23 rfl) rfl (Or.inr ⟨_, rfl⟩) ?_
  refine hr_iload X (tL_at tL_alike_1_ok 24 rfl) rfl ?_
  refine hr_iload X (tL_at tL_alike_1_ok 25 rfl) rfl ?_
  refine hr_iload_n X (tL_at tL_alike_1_ok 26 rfl) rfl ?_
  refine hr_iconst (nI 5) X (tL_at tL_alike_1_ok 27 rfl) (by decide) ?_
  refine hl_irem X (tL_at tL_alike_1_ok 28 rfl) (by omega) (by decide) (by decide) ?_
  refine hl_call1 X kSL_toldIn (tL_at tL_alike_1_ok 29 rfl) hT2 (fun N hQ => c_L_toldIn cA hI hJ hQ (nI s) (nI i) (nI (m % 5))) rfl rfl rfl (Nat.le_of_ble_eq_true rfl) (kr + 7) (sr + 42) ⟨⟨(Nat.le_of_ble_eq_true rfl), (Nat.le_of_ble_eq_true rfl)⟩, (show kr + 4 + 3 ≤ 1224 by omega), (show sr + 24 + 18 ≤ 7344 by omega)⟩ (show kr + 4 + 3 ≤ kr + 7 by omega) (show sr + 24 + 18 ≤ sr + 42 by omega) (fun M3 hT3 => ?_)
  refine hr_aload_n X (tL_at tL_alike_1_ok 30 rfl) rfl (Or.inr ⟨_, rfl⟩) ?_
  refine hr_iload X (tL_at tL_alike_1_ok 31 rfl) rfl ?_
  refine hr_iload X (tL_at tL_alike_1_ok 32 rfl) rfl ?_
  refine hr_iload_n X (tL_at tL_alike_1_ok 33 rfl) rfl ?_
  refine hr_iconst (nI 5) X (tL_at tL_alike_1_ok 34 rfl) (by decide) ?_
  refine hl_irem X (tL_at tL_alike_1_ok 35 rfl) (by omega) (by decide) (by decide) ?_
  refine hl_call2 X kSL_toldIn (tL_at tL_alike_1_ok 36 rfl) hT3 (fun N hQ => c_L_toldIn cA hI hJ hQ (nI s) (nI i) (nI (m % 5))) rfl rfl rfl (Nat.le_of_ble_eq_true rfl) (kr + 10) (sr + 60) ⟨⟨(Nat.le_of_ble_eq_true rfl), (Nat.le_of_ble_eq_true rfl)⟩, (show kr + 7 + 3 ≤ 1224 by omega), (show sr + 42 + 18 ≤ 7344 by omega)⟩ (show kr + 7 + 3 ≤ kr + 10 by omega) (show sr + 42 + 18 ≤ sr + 60 by omega) (fun M4 hT4 => ?_)
  refine hr_icmp_ne 228 X (tL_at tL_alike_1_ok 37 rfl) (by decide) (fun c => absurd rfl c) (fun _ => ?_)
  refine hr_aload_n X (tL_at tL_alike_1_ok 38 rfl) rfl (Or.inr ⟨_, rfl⟩) ?_
  refine hr_iload X (tL_at tL_alike_1_ok 39 rfl) rfl ?_
  refine hr_iload X (tL_at tL_alike_1_ok 40 rfl) rfl ?_
  refine hr_iload_n X (tL_at tL_alike_1_ok 41 rfl) rfl ?_
  refine hr_iconst (nI 5) X (tL_at tL_alike_1_ok 42 rfl) (by decide) ?_
  refine hl_idiv X (tL_at tL_alike_1_ok 43 rfl) (by omega) (by decide) (by decide) ?_
  refine hr_iconst (nI 5) X (tL_at tL_alike_1_ok 44 rfl) (by decide) ?_
  refine hl_irem X (tL_at tL_alike_1_ok 45 rfl) (by omega) (by decide) (by decide) ?_
  refine hl_call1 X kSL_kind (tL_at tL_alike_1_ok 46 rfl) hT4 (fun N hQ => c_L_kind cA hI hJ hQ (nI s) (nI i) (nI ((m / 5) % 5))) rfl rfl rfl (Nat.le_of_ble_eq_true rfl) (kr + 13) (sr + 78) ⟨⟨(Nat.le_of_ble_eq_true rfl), (Nat.le_of_ble_eq_true rfl)⟩, (show kr + 10 + 3 ≤ 1224 by omega), (show sr + 60 + 18 ≤ 7344 by omega)⟩ (show kr + 10 + 3 ≤ kr + 13 by omega) (show sr + 60 + 18 ≤ sr + 78 by omega) (fun M5 hT5 => ?_)
  refine hr_aload_n X (tL_at tL_alike_1_ok 47 rfl) rfl (Or.inr ⟨_, rfl⟩) ?_
  refine hr_iload X (tL_at tL_alike_1_ok 48 rfl) rfl ?_
  refine hr_iload X (tL_at tL_alike_1_ok 49 rfl) rfl ?_
  refine hr_iload_n X (tL_at tL_alike_1_ok 50 rfl) rfl ?_
  refine hr_iconst (nI 5) X (tL_at tL_alike_1_ok 51 rfl) (by decide) ?_
  refine hl_idiv X (tL_at tL_alike_1_ok 52 rfl) (by omega) (by decide) (by decide) ?_
  refine hr_iconst (nI 5) X (tL_at tL_alike_1_ok 53 rfl) (by decide) ?_
  refine hl_irem X (tL_at tL_alike_1_ok 54 rfl) (by omega) (by decide) (by decide) ?_
  refine hl_call2 X kSL_kind (tL_at tL_alike_1_ok 55 rfl) hT5 (fun N hQ => c_L_kind cA hI hJ hQ (nI s) (nI i) (nI ((m / 5) % 5))) rfl rfl rfl (Nat.le_of_ble_eq_true rfl) (kr + 16) (sr + 96) ⟨⟨(Nat.le_of_ble_eq_true rfl), (Nat.le_of_ble_eq_true rfl)⟩, (show kr + 13 + 3 ≤ 1224 by omega), (show sr + 78 + 18 ≤ 7344 by omega)⟩ (show kr + 13 + 3 ≤ kr + 16 by omega) (show sr + 78 + 18 ≤ sr + 96 by omega) (fun M6 hT6 => ?_)
  refine hr_icmp_ne 228 X (tL_at tL_alike_1_ok 56 rfl) (by decide) (fun c => absurd rfl c) (fun _ => ?_)
  refine hr_iconst (nI 1) X (tL_at tL_alike_1_ok 57 rfl) (by decide) ?_
  refine hr_goto 229 X (tL_at tL_alike_1_ok 58 rfl) (by decide) ?_
  refine hr_istore X (tL_at tL_alike_2_ok 0 rfl) (Nat.le_of_ble_eq_true rfl) ?_
  refine hl_iinc X (tL_at tL_alike_2_ok 1 rfl) rfl ?_
  refine hr_goto 137 X (tL_at tL_alike_2_ok 2 rfl) (by decide) ?_
  refine hr_widen (k2 := kr + 16) (n2 := sr + 96) (by omega) (by omega) ?_
  refine hr_sub (L2 := [some (.ref a), some (.ref b), some (.ref nr), some (.int (nI m)), some (.int (nI 1)), some (.int (nI s)), some (.int (nI (i + 1)))]) ⟨rfl, rfl, rfl, rfl, rfl, rfl, rfl, trivial⟩ ?_
  exact kk _ hT6
set_option maxHeartbeats 4000000 in
set_option maxRecDepth 100000 in
theorem w_E3 {C : hm_C} {nm : String} {Q : State → Prop} {cA : Nat → ClassId} {sg : mm_S} {Z M : hm_M} {a b nr m s : Nat} {i : Nat} (X : hm_X C RL cL_alike 7 (some .boolean) nm r_L_alike cA) (hI : sp_I sg) (hJ : sp_J sg) (hm : m < 2 ^ 31) (hT : lt_Q cA Z a b sg sg M) {kr sr : Nat} (hkr : kr + 26 ≤ 1224) (hsr : sr + 156 ≤ 7344) (hi : i < 12) (kk : ∀ M9 : hm_M, lt_Q cA Z a b sg sg M9 → hm_W C (kr + 26) (sr + 156) Q M9 240 [some (.ref a), some (.ref b), some (.ref nr), some (.int (nI m)), some (.int (nI 1)), some (.int (nI s)), some (.int (nI (i + 1)))] []) : hm_W C kr sr Q M 240 [some (.ref a), some (.ref b), some (.ref nr), some (.int (nI m)), some (.int (nI 1)), some (.int (nI s)), some (.int (nI i))] [] := by
  refine hr_iload X (tL_at tL_alike_2_ok 5 rfl) rfl ?_
  refine hr_bipush (nI 12) X (tL_at tL_alike_2_ok 6 rfl) (by decide) ?_
  refine hr_icmp_ge 397 X (tL_at tL_alike_2_ok 7 rfl) (by decide) (fun c => absurd c (nI_ge hi (by decide))) (fun _ => ?_)
  refine hr_iload X (tL_at tL_alike_2_ok 8 rfl) rfl ?_
  refine hr_if_eq 397 X (tL_at tL_alike_2_ok 9 rfl) (by decide) (fun c => absurd c (by decide)) (fun _ => ?_)
  refine hr_aload_n X (tL_at tL_alike_2_ok 10 rfl) rfl (Or.inr ⟨_, rfl⟩) ?_
  refine hr_iload X (tL_at tL_alike_2_ok 11 rfl) rfl ?_
  refine hr_iload X (tL_at tL_alike_2_ok 12 rfl) rfl ?_
  refine hl_call1 X kSL_answer (tL_at tL_alike_2_ok 13 rfl) hT (fun N hQ => c_L_answer cA hI hJ hQ (nI i) (nI s)) rfl rfl rfl (Nat.le_of_ble_eq_true rfl) (kr + 2) (sr + 12) ⟨⟨(Nat.le_of_ble_eq_true rfl), (Nat.le_of_ble_eq_true rfl)⟩, (show kr + 0 + 2 ≤ 1224 by omega), (show sr + 0 + 12 ≤ 7344 by omega)⟩ (show kr + 0 + 2 ≤ kr + 2 by omega) (show sr + 0 + 12 ≤ sr + 12 by omega) (fun M1 hT1 => ?_)
  refine hr_aload_n X (tL_at tL_alike_2_ok 14 rfl) rfl (Or.inr ⟨_, rfl⟩) ?_
  refine hr_iload X (tL_at tL_alike_2_ok 15 rfl) rfl ?_
  refine hr_iload X (tL_at tL_alike_2_ok 16 rfl) rfl ?_
  refine hl_call2 X kSL_answer (tL_at tL_alike_2_ok 17 rfl) hT1 (fun N hQ => c_L_answer cA hI hJ hQ (nI i) (nI s)) rfl rfl rfl (Nat.le_of_ble_eq_true rfl) (kr + 4) (sr + 24) ⟨⟨(Nat.le_of_ble_eq_true rfl), (Nat.le_of_ble_eq_true rfl)⟩, (show kr + 2 + 2 ≤ 1224 by omega), (show sr + 12 + 12 ≤ 7344 by omega)⟩ (show kr + 2 + 2 ≤ kr + 4 by omega) (show sr + 12 + 12 ≤ sr + 24 by omega) (fun M2 hT2 => ?_)
  refine hr_icmp_ne 388 X (tL_at tL_alike_2_ok 18 rfl) (by decide) (fun c => absurd rfl c) (fun _ => ?_)
  refine hr_aload_n X (tL_at tL_alike_2_ok 19 rfl) rfl (Or.inr ⟨_, rfl⟩) ?_
  refine hr_iload X (tL_at tL_alike_2_ok 20 rfl) rfl ?_
  refine hr_iload X (tL_at tL_alike_2_ok 21 rfl) rfl ?_
  refine hl_call1 X kSL_mark (tL_at tL_alike_2_ok 22 rfl) hT2 (fun N hQ => c_L_mark cA hI hJ hQ (nI i) (nI s)) rfl rfl rfl (Nat.le_of_ble_eq_true rfl) (kr + 6) (sr + 36) ⟨⟨(Nat.le_of_ble_eq_true rfl), (Nat.le_of_ble_eq_true rfl)⟩, (show kr + 4 + 2 ≤ 1224 by omega), (show sr + 24 + 12 ≤ 7344 by omega)⟩ (show kr + 4 + 2 ≤ kr + 6 by omega) (show sr + 24 + 12 ≤ sr + 36 by omega) (fun M3 hT3 => ?_)
  refine hr_aload_n X (tL_at tL_alike_2_ok 23 rfl) rfl (Or.inr ⟨_, rfl⟩) ?_
  refine hr_iload X (tL_at tL_alike_2_ok 24 rfl) rfl ?_
  refine hr_iload X (tL_at tL_alike_2_ok 25 rfl) rfl ?_
  refine hl_call2 X kSL_mark (tL_at tL_alike_2_ok 26 rfl) hT3 (fun N hQ => c_L_mark cA hI hJ hQ (nI i) (nI s)) rfl rfl rfl (Nat.le_of_ble_eq_true rfl) (kr + 8) (sr + 48) ⟨⟨(Nat.le_of_ble_eq_true rfl), (Nat.le_of_ble_eq_true rfl)⟩, (show kr + 6 + 2 ≤ 1224 by omega), (show sr + 36 + 12 ≤ 7344 by omega)⟩ (show kr + 6 + 2 ≤ kr + 8 by omega) (show sr + 36 + 12 ≤ sr + 48 by omega) (fun M4 hT4 => ?_)
  refine hr_icmp_ne 388 X (tL_at tL_alike_2_ok 27 rfl) (by decide) (fun c => absurd rfl c) (fun _ => ?_)
  refine hr_aload_n X (tL_at tL_alike_2_ok 28 rfl) rfl (Or.inr ⟨_, rfl⟩) ?_
  refine hr_iload X (tL_at tL_alike_2_ok 29 rfl) rfl ?_
  refine hr_iload X (tL_at tL_alike_2_ok 30 rfl) rfl ?_
  refine hl_call1 X kSL_told (tL_at tL_alike_2_ok 31 rfl) hT4 (fun N hQ => c_L_told cA hI hJ hQ (nI i) (nI s)) rfl rfl rfl (Nat.le_of_ble_eq_true rfl) (kr + 10) (sr + 60) ⟨⟨(Nat.le_of_ble_eq_true rfl), (Nat.le_of_ble_eq_true rfl)⟩, (show kr + 8 + 2 ≤ 1224 by omega), (show sr + 48 + 12 ≤ 7344 by omega)⟩ (show kr + 8 + 2 ≤ kr + 10 by omega) (show sr + 48 + 12 ≤ sr + 60 by omega) (fun M5 hT5 => ?_)
  refine hr_aload_n X (tL_at tL_alike_2_ok 32 rfl) rfl (Or.inr ⟨_, rfl⟩) ?_
  refine hr_iload X (tL_at tL_alike_2_ok 33 rfl) rfl ?_
  refine hr_iload X (tL_at tL_alike_2_ok 34 rfl) rfl ?_
  refine hl_call2 X kSL_told (tL_at tL_alike_2_ok 35 rfl) hT5 (fun N hQ => c_L_told cA hI hJ hQ (nI i) (nI s)) rfl rfl rfl (Nat.le_of_ble_eq_true rfl) (kr + 12) (sr + 72) ⟨⟨(Nat.le_of_ble_eq_true rfl), (Nat.le_of_ble_eq_true rfl)⟩, (show kr + 10 + 2 ≤ 1224 by omega), (show sr + 60 + 12 ≤ 7344 by omega)⟩ (show kr + 10 + 2 ≤ kr + 12 by omega) (show sr + 60 + 12 ≤ sr + 72 by omega) (fun M6 hT6 => ?_)
  refine hr_icmp_ne 388 X (tL_at tL_alike_2_ok 36 rfl) (by decide) (fun c => absurd rfl c) (fun _ => ?_)
  refine hr_aload_n X (tL_at tL_alike_2_ok 37 rfl) rfl (Or.inr ⟨_, rfl⟩) ?_
  refine hr_iload X (tL_at tL_alike_2_ok 38 rfl) rfl ?_
  refine hr_iload X (tL_at tL_alike_2_ok 39 rfl) rfl ?_
  refine hl_call1 X kSL_due (tL_at tL_alike_2_ok 40 rfl) hT6 (fun N hQ => c_L_due cA hI hJ hQ (nI i) (nI s)) rfl rfl rfl (Nat.le_of_ble_eq_true rfl) (kr + 14) (sr + 84) ⟨⟨(Nat.le_of_ble_eq_true rfl), (Nat.le_of_ble_eq_true rfl)⟩, (show kr + 12 + 2 ≤ 1224 by omega), (show sr + 72 + 12 ≤ 7344 by omega)⟩ (show kr + 12 + 2 ≤ kr + 14 by omega) (show sr + 72 + 12 ≤ sr + 84 by omega) (fun M7 hT7 => ?_)
  refine hr_aload_n X (tL_at tL_alike_2_ok 41 rfl) rfl (Or.inr ⟨_, rfl⟩) ?_
  refine hr_iload X (tL_at tL_alike_2_ok 42 rfl) rfl ?_
  refine hr_iload X (tL_at tL_alike_2_ok 43 rfl) rfl ?_
  refine hl_call2 X kSL_due (tL_at tL_alike_2_ok 44 rfl) hT7 (fun N hQ => c_L_due cA hI hJ hQ (nI i) (nI s)) rfl rfl rfl (Nat.le_of_ble_eq_true rfl) (kr + 16) (sr + 96) ⟨⟨(Nat.le_of_ble_eq_true rfl), (Nat.le_of_ble_eq_true rfl)⟩, (show kr + 14 + 2 ≤ 1224 by omega), (show sr + 84 + 12 ≤ 7344 by omega)⟩ (show kr + 14 + 2 ≤ kr + 16 by omega) (show sr + 84 + 12 ≤ sr + 96 by omega) (fun M8 hT8 => ?_)
  refine hr_icmp_ne 388 X (tL_at tL_alike_2_ok 45 rfl) (by decide) (fun c => absurd rfl c) (fun _ => ?_)
  refine hr_iload X (tL_at tL_alike_2_ok 46 rfl) rfl ?_
  refine hr_iconst (nI 3) X (tL_at tL_alike_2_ok 47 rfl) (by decide) ?_
  refine hl_irem X (tL_at tL_alike_2_ok 48 rfl) (by omega) (by decide) (by decide) ?_
  refine hr_iload_n X (tL_at tL_alike_2_ok 49 rfl) rfl ?_
  refine hr_iconst (nI 3) X (tL_at tL_alike_2_ok 50 rfl) (by decide) ?_
  refine hl_irem X (tL_at tL_alike_2_ok 51 rfl) (by omega) (by decide) (by decide) ?_
  refine hr_icmp_ne 384 X (tL_at tL_alike_2_ok 52 rfl) (by decide) (fun c => ?_) (fun c => ?_)
  · refine hr_iconst (nI 1) X (tL_at tL_alike_3_ok 17 rfl) (by decide) ?_
    refine hr_goto 389 X (tL_at tL_alike_3_ok 18 rfl) (by decide) ?_
    refine hr_istore X (tL_at tL_alike_3_ok 20 rfl) (Nat.le_of_ble_eq_true rfl) ?_
    refine hl_iinc X (tL_at tL_alike_3_ok 21 rfl) rfl ?_
    refine hr_goto 240 X (tL_at tL_alike_3_ok 22 rfl) (by decide) ?_
    refine hr_widen (k2 := kr + 26) (n2 := sr + 156) (by omega) (by omega) ?_
    refine hr_sub (L2 := [some (.ref a), some (.ref b), some (.ref nr), some (.int (nI m)), some (.int (nI 1)), some (.int (nI s)), some (.int (nI (i + 1)))]) ⟨rfl, rfl, rfl, rfl, rfl, rfl, rfl, trivial⟩ ?_
    exact kk _ hT8
  · refine hr_aload_n X (tL_at tL_alike_2_ok 53 rfl) rfl (Or.inr ⟨_, rfl⟩) ?_
    refine hr_iload X (tL_at tL_alike_2_ok 54 rfl) rfl ?_
    refine hr_iload X (tL_at tL_alike_2_ok 55 rfl) rfl ?_
    refine hl_call1 X kSL_prints (tL_at tL_alike_2_ok 56 rfl) hT8 (fun N hQ => c_L_prints cA hI hJ hQ (nI i) (nI s)) rfl rfl rfl (Nat.le_of_ble_eq_true rfl) (kr + 18) (sr + 108) ⟨⟨(Nat.le_of_ble_eq_true rfl), (Nat.le_of_ble_eq_true rfl)⟩, (show kr + 16 + 2 ≤ 1224 by omega), (show sr + 96 + 12 ≤ 7344 by omega)⟩ (show kr + 16 + 2 ≤ kr + 18 by omega) (show sr + 96 + 12 ≤ sr + 108 by omega) (fun M9 hT9 => ?_)
    refine hr_aload_n X (tL_at tL_alike_2_ok 57 rfl) rfl (Or.inr ⟨_, rfl⟩) ?_
    refine hr_iload X (tL_at tL_alike_2_ok 58 rfl) rfl ?_
    refine hr_iload X (tL_at tL_alike_2_ok 59 rfl) rfl ?_
    refine hl_call2 X kSL_prints (tL_at tL_alike_3_ok 0 rfl) hT9 (fun N hQ => c_L_prints cA hI hJ hQ (nI i) (nI s)) rfl rfl rfl (Nat.le_of_ble_eq_true rfl) (kr + 20) (sr + 120) ⟨⟨(Nat.le_of_ble_eq_true rfl), (Nat.le_of_ble_eq_true rfl)⟩, (show kr + 18 + 2 ≤ 1224 by omega), (show sr + 108 + 12 ≤ 7344 by omega)⟩ (show kr + 18 + 2 ≤ kr + 20 by omega) (show sr + 108 + 12 ≤ sr + 120 by omega) (fun M10 hT10 => ?_)
    refine hr_icmp_ne 388 X (tL_at tL_alike_3_ok 1 rfl) (by decide) (fun c => absurd rfl c) (fun _ => ?_)
    refine hr_aload_n X (tL_at tL_alike_3_ok 2 rfl) rfl (Or.inr ⟨_, rfl⟩) ?_
    refine hr_iload X (tL_at tL_alike_3_ok 3 rfl) rfl ?_
    refine hr_iload X (tL_at tL_alike_3_ok 4 rfl) rfl ?_
    refine hr_iload_n X (tL_at tL_alike_3_ok 5 rfl) rfl ?_
    refine hr_bipush (nI 12) X (tL_at tL_alike_3_ok 6 rfl) (by decide) ?_
    refine hl_irem X (tL_at tL_alike_3_ok 7 rfl) (by omega) (by decide) (by decide) ?_
    refine hl_call1 X kSL_likeness (tL_at tL_alike_3_ok 8 rfl) hT10 (fun N hQ => c_L_likeness cA hI hJ hQ (nI s) (nI i) (nI (m % 12))) rfl rfl rfl (Nat.le_of_ble_eq_true rfl) (kr + 23) (sr + 138) ⟨⟨(Nat.le_of_ble_eq_true rfl), (Nat.le_of_ble_eq_true rfl)⟩, (show kr + 20 + 3 ≤ 1224 by omega), (show sr + 120 + 18 ≤ 7344 by omega)⟩ (show kr + 20 + 3 ≤ kr + 23 by omega) (show sr + 120 + 18 ≤ sr + 138 by omega) (fun M11 hT11 => ?_)
    refine hr_aload_n X (tL_at tL_alike_3_ok 9 rfl) rfl (Or.inr ⟨_, rfl⟩) ?_
    refine hr_iload X (tL_at tL_alike_3_ok 10 rfl) rfl ?_
    refine hr_iload_n X (tL_at tL_alike_3_ok 11 rfl) rfl ?_
    refine hr_bipush (nI 12) X (tL_at tL_alike_3_ok 12 rfl) (by decide) ?_
    refine hl_irem X (tL_at tL_alike_3_ok 13 rfl) (by omega) (by decide) (by decide) ?_
    refine hr_iload X (tL_at tL_alike_3_ok 14 rfl) rfl ?_
    refine hl_call2 X kSL_likeness (tL_at tL_alike_3_ok 15 rfl) hT11 (fun N hQ => c_L_likeness cA hI hJ hQ (nI s) (nI (m % 12)) (nI i)) rfl rfl rfl (Nat.le_of_ble_eq_true rfl) (kr + 26) (sr + 156) ⟨⟨(Nat.le_of_ble_eq_true rfl), (Nat.le_of_ble_eq_true rfl)⟩, (show kr + 23 + 3 ≤ 1224 by omega), (show sr + 138 + 18 ≤ 7344 by omega)⟩ (show kr + 23 + 3 ≤ kr + 26 by omega) (show sr + 138 + 18 ≤ sr + 156 by omega) (fun M12 hT12 => ?_)
    refine hr_icmp_ne 388 X (tL_at tL_alike_3_ok 16 rfl) (by decide) (fun c => absurd lh_lcl c) (fun _ => ?_)
    refine hr_iconst (nI 1) X (tL_at tL_alike_3_ok 17 rfl) (by decide) ?_
    refine hr_goto 389 X (tL_at tL_alike_3_ok 18 rfl) (by decide) ?_
    refine hr_istore X (tL_at tL_alike_3_ok 20 rfl) (Nat.le_of_ble_eq_true rfl) ?_
    refine hl_iinc X (tL_at tL_alike_3_ok 21 rfl) rfl ?_
    refine hr_goto 240 X (tL_at tL_alike_3_ok 22 rfl) (by decide) ?_
    refine hr_widen (k2 := kr + 26) (n2 := sr + 156) (by omega) (by omega) ?_
    refine hr_sub (L2 := [some (.ref a), some (.ref b), some (.ref nr), some (.int (nI m)), some (.int (nI 1)), some (.int (nI s)), some (.int (nI (i + 1)))]) ⟨rfl, rfl, rfl, rfl, rfl, rfl, rfl, trivial⟩ ?_
    exact kk _ hT12
set_option maxHeartbeats 4000000 in
set_option maxRecDepth 100000 in
theorem w_E4 {C : hm_C} {nm : String} {Q : State → Prop} {cA : Nat → ClassId} {sg : mm_S} {Z M : hm_M} {a b nr m s : Nat} {fn : Nat → Int32} (X : hm_X C RL cL_alike 7 (some .boolean) nm r_L_alike cA) (hI : sp_I sg) (hJ : sp_J sg) (hm : m < 2 ^ 31) (hT : lt_Q cA Z a b sg sg M) {kr sr : Nat} (hkr : kr + 612 ≤ 1224) (hsr : sr + 3672 ≤ 7344) (h2 : 2 ≤ sp_n sg) (hs2 : s < 2) (e1 : ∀ a, a < 2 → sg 5 a = fn a) (hnr : Z nr = some (cr_iw cA 0 2 fn)) (kk : ∀ M9 : hm_M, lt_Q cA Z a b sg sg M9 → hm_W C (kr + 612) (sr + 3672) Q M9 6 [some (.ref a), some (.ref b), some (.ref nr), some (.int (nI m)), some (.int (nI 1)), some (.int (nI (s + 1))), none] []) : hm_W C kr sr Q M 6 [some (.ref a), some (.ref b), some (.ref nr), some (.int (nI m)), some (.int (nI 1)), some (.int (nI s)), none] [] := by
  obtain ⟨nn, n1, n2, h5, -⟩ := hI.i2 s (by omega)
  refine hr_iload X (tL_at tL_alike_0_ok 4 rfl) rfl ?_
  refine hr_iconst (nI 2) X (tL_at tL_alike_0_ok 5 rfl) (by decide) ?_
  refine hr_icmp_ge 403 X (tL_at tL_alike_0_ok 6 rfl) (by decide) (fun c => absurd c (nI_ge hs2 (by decide))) (fun _ => ?_)
  refine hr_iload X (tL_at tL_alike_0_ok 7 rfl) rfl ?_
  refine hr_if_eq 403 X (tL_at tL_alike_0_ok 8 rfl) (by decide) (fun c => absurd c (by decide)) (fun _ => ?_)
  refine hr_aload_n X (tL_at tL_alike_0_ok 9 rfl) rfl (Or.inr ⟨_, rfl⟩) ?_
  refine hr_iload X (tL_at tL_alike_0_ok 10 rfl) rfl ?_
  refine hl_call1 X kSL_versions (tL_at tL_alike_0_ok 11 rfl) hT (fun N hQ => c_L_versions cA hI hJ hQ (nI s)) rfl rfl rfl (Nat.le_of_ble_eq_true rfl) (kr + 1) (sr + 6) ⟨⟨(Nat.le_of_ble_eq_true rfl), (Nat.le_of_ble_eq_true rfl)⟩, (show kr + 0 + 1 ≤ 1224 by omega), (show sr + 0 + 6 ≤ 7344 by omega)⟩ (show kr + 0 + 1 ≤ kr + 1 by omega) (show sr + 0 + 6 ≤ sr + 6 by omega) (fun M1 hT1 => ?_)
  refine hr_aload_n X (tL_at tL_alike_0_ok 12 rfl) rfl (Or.inr ⟨_, rfl⟩) ?_
  refine hr_iload X (tL_at tL_alike_0_ok 13 rfl) rfl ?_
  refine hl_call2 X kSL_versions (tL_at tL_alike_0_ok 14 rfl) hT1 (fun N hQ => c_L_versions cA hI hJ hQ (nI s)) rfl rfl rfl (Nat.le_of_ble_eq_true rfl) (kr + 2) (sr + 12) ⟨⟨(Nat.le_of_ble_eq_true rfl), (Nat.le_of_ble_eq_true rfl)⟩, (show kr + 1 + 1 ≤ 1224 by omega), (show sr + 6 + 6 ≤ 7344 by omega)⟩ (show kr + 1 + 1 ≤ kr + 2 by omega) (show sr + 6 + 6 ≤ sr + 12 by omega) (fun M2 hT2 => ?_)
  refine hr_icmp_ne 51 X (tL_at tL_alike_0_ok 15 rfl) (by decide) (fun c => absurd rfl c) (fun _ => ?_)
  refine hr_aload_n X (tL_at tL_alike_0_ok 16 rfl) rfl (Or.inr ⟨_, rfl⟩) ?_
  refine hr_iload X (tL_at tL_alike_0_ok 17 rfl) rfl ?_
  refine hl_call1 X kSL_pairs (tL_at tL_alike_0_ok 18 rfl) hT2 (fun N hQ => c_L_pairs cA hI hJ hQ (nI s)) rfl rfl rfl (Nat.le_of_ble_eq_true rfl) (kr + 3) (sr + 18) ⟨⟨(Nat.le_of_ble_eq_true rfl), (Nat.le_of_ble_eq_true rfl)⟩, (show kr + 2 + 1 ≤ 1224 by omega), (show sr + 12 + 6 ≤ 7344 by omega)⟩ (show kr + 2 + 1 ≤ kr + 3 by omega) (show sr + 12 + 6 ≤ sr + 18 by omega) (fun M3 hT3 => ?_)
  refine hr_aload_n X (tL_at tL_alike_0_ok 19 rfl) rfl (Or.inr ⟨_, rfl⟩) ?_
  refine hr_iload X (tL_at tL_alike_0_ok 20 rfl) rfl ?_
  refine hl_call2 X kSL_pairs (tL_at tL_alike_0_ok 21 rfl) hT3 (fun N hQ => c_L_pairs cA hI hJ hQ (nI s)) rfl rfl rfl (Nat.le_of_ble_eq_true rfl) (kr + 4) (sr + 24) ⟨⟨(Nat.le_of_ble_eq_true rfl), (Nat.le_of_ble_eq_true rfl)⟩, (show kr + 3 + 1 ≤ 1224 by omega), (show sr + 18 + 6 ≤ 7344 by omega)⟩ (show kr + 3 + 1 ≤ kr + 4 by omega) (show sr + 18 + 6 ≤ sr + 24 by omega) (fun M4 hT4 => ?_)
  refine hr_icmp_ne 51 X (tL_at tL_alike_0_ok 22 rfl) (by decide) (fun c => absurd rfl c) (fun _ => ?_)
  refine hr_iconst (nI 1) X (tL_at tL_alike_0_ok 23 rfl) (by decide) ?_
  refine hr_goto 52 X (tL_at tL_alike_0_ok 24 rfl) (by decide) ?_
  refine hr_istore X (tL_at tL_alike_0_ok 26 rfl) (Nat.le_of_ble_eq_true rfl) ?_
  refine hr_iconst (nI 0) X (tL_at tL_alike_0_ok 27 rfl) (by decide) ?_
  refine hr_istore X (tL_at tL_alike_0_ok 28 rfl) (Nat.le_of_ble_eq_true rfl) ?_
  refine hl_for (L := fun i => [some (.ref a), some (.ref b), some (.ref nr), some (.int (nI m)), some (.int (nI 1)), some (.int (nI s)), some (.int (nI i))]) (I := fun _ M9 => lt_Q cA Z a b sg sg M9) 4 10 60 (kr + 4) (sr + 24) (fun i M9 kr9 sr9 hi h9 hk9 hs9 kk9 => w_E1 X hI hJ hm h9 (by omega) (by omega) hi kk9) (fun M9 h9 => ?_) hT4
  refine hr_widen (k2 := kr + 44) (n2 := sr + 264) (by omega) (by omega) ?_
  refine hr_iload X (tL_at tL_alike_0_ok 29 rfl) rfl ?_
  refine hr_iconst (nI 4) X (tL_at tL_alike_0_ok 30 rfl) (by decide) ?_
  refine hr_icmp_ge 134 X (tL_at tL_alike_0_ok 31 rfl) (by decide) (fun _ => ?_) (fun c => absurd (Int32.le_refl _) c)
  refine hr_iconst (nI 0) X (tL_at tL_alike_1_ok 5 rfl) (by decide) ?_
  refine hr_istore X (tL_at tL_alike_1_ok 6 rfl) (Nat.le_of_ble_eq_true rfl) ?_
  refine hl_for (L := fun i => [some (.ref a), some (.ref b), some (.ref nr), some (.int (nI m)), some (.int (nI 1)), some (.int (nI s)), some (.int (nI i))]) (I := fun _ M9 => lt_Q cA Z a b sg sg M9) nn 16 96 (kr + 44) (sr + 264) (fun i M9 kr9 sr9 hi h9 hk9 hs9 kk9 => w_E2 X hI hJ hm h9 (by omega) (by omega) hi n2 hs2 ((e1 s hs2).symm.trans h5) hnr kk9) (fun M9 h9 => ?_) h9
  refine hr_widen (k2 := kr + 300) (n2 := sr + 1800) (by omega) (by omega) ?_
  refine hr_iload X (tL_at tL_alike_1_ok 7 rfl) rfl ?_
  refine hr_aload_n X (tL_at tL_alike_1_ok 8 rfl) rfl (Or.inr ⟨_, rfl⟩) ?_
  refine hr_iload X (tL_at tL_alike_1_ok 9 rfl) rfl ?_
  refine hl_iald X (tL_at tL_alike_1_ok 10 rfl) (h9.at hnr) hs2 (by decide) ?_
  rw [← e1 s hs2, h5]
  refine hr_icmp_ge 237 X (tL_at tL_alike_1_ok 11 rfl) (by decide) (fun _ => ?_) (fun c => absurd (Int32.le_refl _) c)
  refine hr_iconst (nI 0) X (tL_at tL_alike_2_ok 3 rfl) (by decide) ?_
  refine hr_istore X (tL_at tL_alike_2_ok 4 rfl) (Nat.le_of_ble_eq_true rfl) ?_
  refine hl_for (L := fun i => [some (.ref a), some (.ref b), some (.ref nr), some (.int (nI m)), some (.int (nI 1)), some (.int (nI s)), some (.int (nI i))]) (I := fun _ M9 => lt_Q cA Z a b sg sg M9) 12 26 156 (kr + 300) (sr + 1800) (fun i M9 kr9 sr9 hi h9 hk9 hs9 kk9 => w_E3 X hI hJ hm h9 (by omega) (by omega) hi kk9) (fun M9 h9 => ?_) h9
  refine hr_widen (k2 := kr + 612) (n2 := sr + 3672) (by omega) (by omega) ?_
  refine hr_iload X (tL_at tL_alike_2_ok 5 rfl) rfl ?_
  refine hr_bipush (nI 12) X (tL_at tL_alike_2_ok 6 rfl) (by decide) ?_
  refine hr_icmp_ge 397 X (tL_at tL_alike_2_ok 7 rfl) (by decide) (fun _ => ?_) (fun c => absurd (Int32.le_refl _) c)
  refine hl_iinc X (tL_at tL_alike_3_ok 23 rfl) rfl ?_
  refine hr_goto 6 X (tL_at tL_alike_3_ok 24 rfl) (by decide) ?_
  refine hr_widen (k2 := kr + 612) (n2 := sr + 3672) (by omega) (by omega) ?_
  refine hr_sub (L2 := [some (.ref a), some (.ref b), some (.ref nr), some (.int (nI m)), some (.int (nI 1)), some (.int (nI (s + 1))), none]) ⟨rfl, rfl, rfl, rfl, rfl, rfl, trivial⟩ ?_
  exact kk _ h9
set_option maxHeartbeats 4000000 in
set_option maxRecDepth 100000 in
theorem c_L_alike (cA : Nat → ClassId) {sg : mm_S} {Z M : hm_M} {a b nr m : Nat} {fn : Nat → Int32} (hI : sp_I sg) (hJ : sp_J sg) (hm : m < 2 ^ 31) (hT : lt_Q cA Z a b sg sg M) (h2 : 2 ≤ sp_n sg) (e1 : ∀ a, a < 2 → sg 5 a = fn a) (hnr : Z nr = some (cr_iw cA 0 2 fn)) : hm_Met cA yL_alike cL_alike 7 (some .boolean) r_L_alike [.ref a, .ref b, .ref nr, .int (nI m)] M (fun v M' => v = some (.int (nI 1)) ∧ lt_Q cA Z a b sg sg M') := by
  refine hm_met 3 (by decide +kernel) (fun w h => by simp only [List.mem_cons, List.not_mem_nil, or_false] at h; rcases h with rfl | rfl | rfl | rfl <;> rfl) rfl (fun C X => ?_)
  show hm_W C 0 0 _ M 0 [some (.ref a), some (.ref b), some (.ref nr), some (.int (nI m)), none, none, none] []
  refine hr_iconst (nI 1) X (tL_at tL_alike_0_ok 0 rfl) (by decide) ?_
  refine hr_istore X (tL_at tL_alike_0_ok 1 rfl) (Nat.le_of_ble_eq_true rfl) ?_
  refine hr_iconst (nI 0) X (tL_at tL_alike_0_ok 2 rfl) (by decide) ?_
  refine hr_istore X (tL_at tL_alike_0_ok 3 rfl) (Nat.le_of_ble_eq_true rfl) ?_
  refine hl_for (L := fun i => [some (.ref a), some (.ref b), some (.ref nr), some (.int (nI m)), some (.int (nI 1)), some (.int (nI i)), none]) (I := fun _ M9 => lt_Q cA Z a b sg sg M9) 2 612 3672 0 0 (fun i M9 kr9 sr9 hi h9 hk9 hs9 kk9 => w_E4 X hI hJ hm h9 (by omega) (by omega) h2 hi e1 hnr kk9) (fun M9 h9 => ?_) hT
  refine hr_widen (k2 := 1224) (n2 := 7344) (by omega) (by omega) ?_
  refine hr_iload X (tL_at tL_alike_0_ok 4 rfl) rfl ?_
  refine hr_iconst (nI 2) X (tL_at tL_alike_0_ok 5 rfl) (by decide) ?_
  refine hr_icmp_ge 403 X (tL_at tL_alike_0_ok 6 rfl) (by decide) (fun _ => ?_) (fun c => absurd (Int32.le_refl _) c)
  refine hr_iload X (tL_at tL_alike_3_ok 25 rfl) rfl ?_
  exact hr_zret X (tL_at tL_alike_3_ok 26 rfl) (by rfl) (Nat.le_of_ble_eq_true rfl) (Nat.le_of_ble_eq_true rfl) ⟨rfl, h9⟩
