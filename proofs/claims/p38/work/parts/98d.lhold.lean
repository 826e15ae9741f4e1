/-! what is held of every state: the walk -/
abbrev r_L_holds : Room := { frames := 10, cells := 2582, slots := 15492, locals := 260 }
set_option maxHeartbeats 4000000 in
set_option maxRecDepth 100000 in
theorem w_H1 {C : hm_C} {nm : String} {Q : State → Prop} {cA : Nat → ClassId} {sg : mm_S} {N M : hm_M} {b nr cr m : Nat}  {i : Nat} (X : hm_X C RL cL_holds 12 (some .boolean) nm r_L_holds cA) (hI : sp_I sg) (hJ : sp_J sg) (hK : sp_K sg) (hm : m < 2 ^ 31) (hQ : ls_Q cA N b sg M) {kr sr : Nat} (hkr : kr + 3 ≤ 2582) (hsr : sr + 18 ≤ 15492) (hi : i < 4) (kk : ∀ M9 : hm_M, ls_Q cA N b sg M9 → hm_W C (kr + 3) (sr + 18) Q M9 6 [some (.ref b), some (.ref nr), some (.ref cr), some (.int (nI m)), some (.int (nI 1)), some (.int (nI (i + 1))), none, none, none, none, none, none] []) : hm_W C kr sr Q M 6 [some (.ref b), some (.ref nr), some (.ref cr), some (.int (nI m)), some (.int (nI 1)), some (.int (nI i)), none, none, none, none, none, none] [] := by
  refine hr_iload X (tL_at tL_holds_0_ok 4 rfl) rfl ?_
  refine hr_iconst (nI 4) X (tL_at tL_holds_0_ok 5 rfl) (by decide) ?_
  refine hr_icmp_ge 54 X (tL_at tL_holds_0_ok 6 rfl) (by decide) (fun c => absurd c (nI_ge hi (by decide))) (fun _ => ?_)
  refine hr_iload X (tL_at tL_holds_0_ok 7 rfl) rfl ?_
  refine hr_if_eq 54 X (tL_at tL_holds_0_ok 8 rfl) (by decide) (fun c => absurd c (by decide)) (fun _ => ?_)
  refine hr_aload_n X (tL_at tL_holds_0_ok 9 rfl) rfl (Or.inr ⟨_, rfl⟩) ?_
  refine hr_iload X (tL_at tL_holds_0_ok 10 rfl) rfl ?_
  refine hl_rq0 X kSL_used (tL_at tL_holds_0_ok 11 rfl) (c_L_used cA hI hJ hQ (nI i)) (lf_w0 (lf_inN (b := 3) (by decide) (by omega))) rfl rfl rfl (Nat.le_of_ble_eq_true rfl) (kr + 1) (sr + 6) ⟨⟨(Nat.le_of_ble_eq_true rfl), (Nat.le_of_ble_eq_true rfl)⟩, (show kr + 0 + 1 ≤ 2582 by omega), (show sr + 0 + 6 ≤ 15492 by omega)⟩ (show kr + 0 + 1 ≤ kr + 1 by omega) (show sr + 0 + 6 ≤ sr + 6 by omega) (fun M1 hQ1 => ?_)
  refine hr_aload_n X (tL_at tL_holds_0_ok 12 rfl) rfl (Or.inr ⟨_, rfl⟩) ?_
  refine hr_iload X (tL_at tL_holds_0_ok 13 rfl) rfl ?_
  refine hl_rq0 X kSL_usedAnew (tL_at tL_holds_0_ok 14 rfl) (c_L_usedAnew cA hI hJ hQ1 (nI i)) (lf_w0 (lf_inN (b := 3) (by decide) (by omega))) rfl rfl rfl (Nat.le_of_ble_eq_true rfl) (kr + 2) (sr + 12) ⟨⟨(Nat.le_of_ble_eq_true rfl), (Nat.le_of_ble_eq_true rfl)⟩, (show kr + 1 + 1 ≤ 2582 by omega), (show sr + 6 + 6 ≤ 15492 by omega)⟩ (show kr + 1 + 1 ≤ kr + 2 by omega) (show sr + 6 + 6 ≤ sr + 12 by omega) (fun M2 hQ2 => ?_)
  refine hr_icmp_ne 45 X (tL_at tL_holds_0_ok 15 rfl) (by decide) (fun c => absurd rfl c) (fun _ => ?_)
  refine hr_aload_n X (tL_at tL_holds_0_ok 16 rfl) rfl (Or.inr ⟨_, rfl⟩) ?_
  refine hr_iload X (tL_at tL_holds_0_ok 17 rfl) rfl ?_
  refine hl_rq0 X kSL_used (tL_at tL_holds_0_ok 18 rfl) (c_L_used cA hI hJ hQ2 (nI i)) (lf_w0 (lf_inN (b := 3) (by decide) (by omega))) rfl rfl rfl (Nat.le_of_ble_eq_true rfl) (kr + 3) (sr + 18) ⟨⟨(Nat.le_of_ble_eq_true rfl), (Nat.le_of_ble_eq_true rfl)⟩, (show kr + 2 + 1 ≤ 2582 by omega), (show sr + 12 + 6 ≤ 15492 by omega)⟩ (show kr + 2 + 1 ≤ kr + 3 by omega) (show sr + 12 + 6 ≤ sr + 18 by omega) (fun M3 hQ3 => ?_)
  refine hr_if_lt 45 X (tL_at tL_holds_0_ok 19 rfl) (by decide) (fun c => absurd c (Int32.not_lt.mpr (lk_pos hI _))) (fun _ => ?_)
  refine hr_iconst (nI 1) X (tL_at tL_holds_0_ok 20 rfl) (by decide) ?_
  refine hr_goto 46 X (tL_at tL_holds_0_ok 21 rfl) (by decide) ?_
  refine hr_istore X (tL_at tL_holds_0_ok 23 rfl) (Nat.le_of_ble_eq_true rfl) ?_
  refine hl_iinc X (tL_at tL_holds_0_ok 24 rfl) rfl ?_
  refine hr_goto 6 X (tL_at tL_holds_0_ok 25 rfl) (by decide) ?_
  refine hr_widen (k2 := kr + 3) (n2 := sr + 18) (by omega) (by omega) ?_
  refine hr_sub (L2 := [some (.ref b), some (.ref nr), some (.ref cr), some (.int (nI m)), some (.int (nI 1)), some (.int (nI (i + 1))), none, none, none, none, none, none]) ⟨rfl, rfl, rfl, rfl, rfl, rfl, trivial⟩ ?_
  exact kk _ hQ3
set_option maxHeartbeats 4000000 in
set_option maxRecDepth 100000 in
theorem w_HV {C : hm_C} {nm : String} {Q : State → Prop} {cA : Nat → ClassId} {sg : mm_S} {N M : hm_M} {b nr cr m a : Nat} {fn : Nat → Int32} {i nn P : Nat} (X : hm_X C RL cL_holds 12 (some .boolean) nm r_L_holds cA) (hI : sp_I sg) (hJ : sp_J sg) (hK : sp_K sg) (hm : m < 2 ^ 31) (hQ : ls_Q cA N b sg M) (ha : a < sp_n sg) (ha2 : a < 2) {kr sr : Nat} (hkr : kr + 20 ≤ 2582) (hsr : sr + 120 ≤ 15492) (hi : i < nn) (hn16 : nn ≤ 16) (h5 : sg 5 a = nI nn) (h5f : sg 5 a = fn a) (hnr : N nr = some (cr_iw cA 0 2 fn)) (kk : ∀ M9 : hm_M, ls_Q cA N b sg M9 → hm_W C (kr + 20) (sr + 120) Q M9 113 [some (.ref b), some (.ref nr), some (.ref cr), some (.int (nI m)), some (.int (nI 1)), some (.int (nI a)), some (.int (nI P)), some (.int (sp_is (fun v => if sg 2 (16 * a + v) = 0 then (0 : Int32) else 1) (i + 1))), some (.int (nI (i + 1))), none, none, none] []) : hm_W C kr sr Q M 113 [some (.ref b), some (.ref nr), some (.ref cr), some (.int (nI m)), some (.int (nI 1)), some (.int (nI a)), some (.int (nI P)), some (.int (sp_is (fun v => if sg 2 (16 * a + v) = 0 then (0 : Int32) else 1) i)), some (.int (nI i)), none, none, none] [] := by
  have ha4 : a < 4 := by omega
  have eA : nN (nI a) = a := nI_clamp (by omega)
  have eI : nN (nI i) = i := nI_clamp (by omega)
  have eT : nN (nI (m % 5)) = m % 5 := nI_clamp (by omega)
  have m5 : m % 5 < 5 := Nat.mod_lt _ (by decide)
  refine hr_iload X (tL_at tL_holds_0_ok 56 rfl) rfl ?_
  refine hr_aload_n X (tL_at tL_holds_0_ok 57 rfl) rfl (Or.inr ⟨_, rfl⟩) ?_
  refine hr_iload X (tL_at tL_holds_0_ok 58 rfl) rfl ?_
  refine hl_iald X (tL_at tL_holds_0_ok 59 rfl) (ls_at hQ hnr) ha2 (by decide) ?_
  rw [← h5f, h5]
  refine hr_icmp_ge 310 X (tL_at tL_holds_1_ok 0 rfl) (by decide) (fun c => absurd c (nI_ge hi (by omega))) (fun _ => ?_)
  refine hr_iload X (tL_at tL_holds_1_ok 1 rfl) rfl ?_
  refine hr_if_eq 310 X (tL_at tL_holds_1_ok 2 rfl) (by decide) (fun c => absurd c (by decide)) (fun _ => ?_)
  refine hr_aload_n X (tL_at tL_holds_1_ok 3 rfl) rfl (Or.inr ⟨_, rfl⟩) ?_
  refine hr_iload X (tL_at tL_holds_1_ok 4 rfl) rfl ?_
  refine hr_iload X (tL_at tL_holds_1_ok 5 rfl) rfl ?_
  by_cases hv : sp_th sg a i
  · have hVT := lf_isV hI ha hv
    have hone : sp_is (fun v => if sg 2 (16 * a + v) = 0 then (0 : Int32) else 1) (i + 1) = sp_is (fun v => if sg 2 (16 * a + v) = 0 then (0 : Int32) else 1) i + nI 1 := sp_is_up (if_neg hv.2)
    refine hl_rq0 X kSL_parent (tL_at tL_holds_1_ok 6 rfl) (c_L_parent cA hI hJ hQ (nI a) (nI i)) (lf_w0 hVT) rfl rfl rfl (Nat.le_of_ble_eq_true rfl) (kr + 2) (sr + 12) ⟨⟨(Nat.le_of_ble_eq_true rfl), (Nat.le_of_ble_eq_true rfl)⟩, (show kr + 0 + 2 ≤ 2582 by omega), (show sr + 0 + 12 ≤ 15492 by omega)⟩ (show kr + 0 + 2 ≤ kr + 2 by omega) (show sr + 0 + 12 ≤ sr + 12 by omega) (fun M1 hQ1 => ?_)
    rw [eA, eI]
    refine hr_istore X (tL_at tL_holds_1_ok 7 rfl) (Nat.le_of_ble_eq_true rfl) ?_
    refine hr_iload X (tL_at tL_holds_1_ok 8 rfl) rfl ?_
    refine hr_ldc lNI X (tL_at tL_holds_1_ok 9 rfl) kKL_22 ?_
    refine hr_icmp_ne 148 X (tL_at tL_holds_1_ok 10 rfl) (by decide) (fun _ => ?_) (fun c => absurd c (lh_par hI ha hv))
    refine hr_aload_n X (tL_at tL_holds_1_ok 13 rfl) rfl (Or.inr ⟨_, rfl⟩) ?_
    refine hr_iload X (tL_at tL_holds_1_ok 14 rfl) rfl ?_
    refine hr_iload X (tL_at tL_holds_1_ok 15 rfl) rfl ?_
    refine hr_iload_n X (tL_at tL_holds_1_ok 16 rfl) rfl ?_
    refine hr_iconst (nI 5) X (tL_at tL_holds_1_ok 17 rfl) (by decide) ?_
    refine hl_irem X (tL_at tL_holds_1_ok 18 rfl) (by omega) (by decide) (by decide) ?_
    refine hl_rq0 X kSL_toldIn (tL_at tL_holds_1_ok 19 rfl) (c_L_toldIn cA hI hJ hQ1 (nI a) (nI i) (nI (m % 5))) (lh_thTask hI ha hv m5) rfl rfl rfl (Nat.le_of_ble_eq_true rfl) (kr + 5) (sr + 30) ⟨⟨(Nat.le_of_ble_eq_true rfl), (Nat.le_of_ble_eq_true rfl)⟩, (show kr + 2 + 3 ≤ 2582 by omega), (show sr + 12 + 18 ≤ 15492 by omega)⟩ (show kr + 2 + 3 ≤ kr + 5 by omega) (show sr + 12 + 18 ≤ sr + 30 by omega) (fun M2 hQ2 => ?_)
    rw [eA, eI, eT]
    refine hr_istore X (tL_at tL_holds_1_ok 20 rfl) (Nat.le_of_ble_eq_true rfl) ?_
    refine hr_iload X (tL_at tL_holds_1_ok 21 rfl) rfl ?_
    refine hr_iload X (tL_at tL_holds_1_ok 22 rfl) rfl ?_
    refine hr_ldc lNI X (tL_at tL_holds_1_ok 23 rfl) kKL_22 ?_
    refine hr_icmp_ne 174 X (tL_at tL_holds_1_ok 24 rfl) (by decide) (fun _ => ?_) (fun c => absurd c (lh_par hI ha hv))
    refine hr_iconst (nI 1) X (tL_at tL_holds_1_ok 27 rfl) (by decide) ?_
    refine hr_iadd X (tL_at tL_holds_1_ok 28 rfl) ?_
    refine hr_istore X (tL_at tL_holds_1_ok 29 rfl) (Nat.le_of_ble_eq_true rfl) ?_
    refine hr_iload X (tL_at tL_holds_1_ok 30 rfl) rfl ?_
    refine hr_ldc lNI X (tL_at tL_holds_1_ok 31 rfl) kKL_22 ?_
    refine hr_icmp_eq 297 X (tL_at tL_holds_1_ok 32 rfl) (by decide) (fun c => absurd c (lh_par hI ha hv)) (fun _ => ?_)
    obtain ⟨pp, ep, hp50⟩ := lk_pts hI ha hv
    refine hr_aload_n X (tL_at tL_holds_1_ok 33 rfl) rfl (Or.inr ⟨_, rfl⟩) ?_
    refine hr_iload X (tL_at tL_holds_1_ok 34 rfl) rfl ?_
    refine hr_iload X (tL_at tL_holds_1_ok 35 rfl) rfl ?_
    refine hl_rq0 X kSL_points (tL_at tL_holds_1_ok 36 rfl) (c_L_points cA hI hJ hQ2 (nI a) (nI i)) (lf_w0 hVT) rfl rfl rfl (Nat.le_of_ble_eq_true rfl) (kr + 7) (sr + 42) ⟨⟨(Nat.le_of_ble_eq_true rfl), (Nat.le_of_ble_eq_true rfl)⟩, (show kr + 5 + 2 ≤ 2582 by omega), (show sr + 30 + 12 ≤ 15492 by omega)⟩ (show kr + 5 + 2 ≤ kr + 7 by omega) (show sr + 30 + 12 ≤ sr + 42 by omega) (fun M3 hQ3 => ?_)
    rw [eA, eI, ep]
    refine hr_if_lt 301 X (tL_at tL_holds_1_ok 37 rfl) (by decide) (fun c => absurd c (nI_pos (by omega))) (fun _ => ?_)
    refine hr_aload_n X (tL_at tL_holds_1_ok 38 rfl) rfl (Or.inr ⟨_, rfl⟩) ?_
    refine hr_iload X (tL_at tL_holds_1_ok 39 rfl) rfl ?_
    refine hr_iload X (tL_at tL_holds_1_ok 40 rfl) rfl ?_
    refine hl_rq0 X kSL_points (tL_at tL_holds_1_ok 41 rfl) (c_L_points cA hI hJ hQ3 (nI a) (nI i)) (lf_w0 hVT) rfl rfl rfl (Nat.le_of_ble_eq_true rfl) (kr + 9) (sr + 54) ⟨⟨(Nat.le_of_ble_eq_true rfl), (Nat.le_of_ble_eq_true rfl)⟩, (show kr + 7 + 2 ≤ 2582 by omega), (show sr + 42 + 12 ≤ 15492 by omega)⟩ (show kr + 7 + 2 ≤ kr + 9 by omega) (show sr + 42 + 12 ≤ sr + 54 by omega) (fun M4 hQ4 => ?_)
    rw [eA, eI, ep]
    refine hr_bipush (nI 50) X (tL_at tL_holds_1_ok 42 rfl) (by decide) ?_
    refine hr_icmp_gt 301 X (tL_at tL_holds_1_ok 43 rfl) (by decide) (fun c => absurd c (nI_nlt hp50 (by decide))) (fun _ => ?_)
    refine hr_iload X (tL_at tL_holds_1_ok 44 rfl) rfl ?_
    rcases (hI.i3 a ha).2 i hv with ⟨h0, hpar, -⟩ | ⟨u, g9, hui, hpar, hu, -⟩
    · subst h0
      refine hr_if_ne 229 X (tL_at tL_holds_1_ok 45 rfl) (by decide) (fun c => absurd rfl c) (fun _ => ?_)
      rw [hpar]
      refine hr_iload X (tL_at tL_holds_1_ok 46 rfl) rfl ?_
      refine hr_iconst ((-1)) X (tL_at tL_holds_1_ok 47 rfl) (by decide) ?_
      refine hr_icmp_ne 301 X (tL_at tL_holds_1_ok 48 rfl) (by decide) (fun c => absurd rfl c) (fun _ => ?_)
      refine hr_iload X (tL_at tL_holds_1_ok 49 rfl) rfl ?_
      refine hr_iconst ((-1)) X (tL_at tL_holds_1_ok 50 rfl) (by decide) ?_
      refine hr_icmp_ne 301 X (tL_at tL_holds_1_ok 51 rfl) (by decide) (fun c => absurd (show sp_o (sp_tel sg a 0 (m % 5)) = -1 by rw [lf_tel0 hI ha m5]; rfl) c) (fun _ => ?_)
      refine hr_goto 297 X (tL_at tL_holds_1_ok 52 rfl) (by decide) ?_
      refine hr_iconst (nI 1) X (tL_at tL_holds_2_ok 29 rfl) (by decide) ?_
      refine hr_goto 302 X (tL_at tL_holds_2_ok 30 rfl) (by decide) ?_
      refine hr_istore X (tL_at tL_holds_2_ok 32 rfl) (Nat.le_of_ble_eq_true rfl) ?_
      refine hl_iinc X (tL_at tL_holds_2_ok 33 rfl) rfl ?_
      refine hr_goto 113 X (tL_at tL_holds_2_ok 34 rfl) (by decide) ?_
      rw [← hone]
      refine hr_widen (k2 := kr + 20) (n2 := sr + 120) (by omega) (by omega) ?_
      refine hr_sub (L2 := [some (.ref b), some (.ref nr), some (.ref cr), some (.int (nI m)), some (.int (nI 1)), some (.int (nI a)), some (.int (nI P)), some (.int (sp_is (fun v => if sg 2 (16 * a + v) = 0 then (0 : Int32) else 1) (0 + 1))), some (.int (nI (0 + 1))), none, none, none]) ⟨rfl, rfl, rfl, rfl, rfl, rfl, rfl, rfl, rfl, trivial⟩ ?_
      exact kk _ hQ4
    · have hu16 := hu.1
      have hv16 := hv.1
      have eU : nN (nI u) = u := nI_clamp (by omega)
      refine hr_if_ne 229 X (tL_at tL_holds_1_ok 45 rfl) (by decide) (fun _ => ?_) (fun c => absurd c (nI_ne0 (by omega) (by omega)))
      rw [hpar]
      refine hr_iload X (tL_at tL_holds_1_ok 53 rfl) rfl ?_
      refine hr_iload X (tL_at tL_holds_1_ok 54 rfl) rfl ?_
      refine hr_icmp_ge 301 X (tL_at tL_holds_1_ok 55 rfl) (by decide) (fun c => absurd c (nI_ge hui (by omega))) (fun _ => ?_)
      refine hr_aload_n X (tL_at tL_holds_1_ok 56 rfl) rfl (Or.inr ⟨_, rfl⟩) ?_
      refine hr_iload X (tL_at tL_holds_1_ok 57 rfl) rfl ?_
      refine hr_iload X (tL_at tL_holds_1_ok 58 rfl) rfl ?_
      refine hl_rq0 X kSL_parent (tL_at tL_holds_1_ok 59 rfl) (c_L_parent cA hI hJ hQ4 (nI a) (nI u)) (lf_w0 (lf_isV hI ha hu)) rfl rfl rfl (Nat.le_of_ble_eq_true rfl) (kr + 11) (sr + 66) ⟨⟨(Nat.le_of_ble_eq_true rfl), (Nat.le_of_ble_eq_true rfl)⟩, (show kr + 9 + 2 ≤ 2582 by omega), (show sr + 54 + 12 ≤ 15492 by omega)⟩ (show kr + 9 + 2 ≤ kr + 11 by omega) (show sr + 54 + 12 ≤ sr + 66 by omega) (fun M5 hQ5 => ?_)
      rw [eA, eU]
      refine hr_ldc lNI X (tL_at tL_holds_2_ok 0 rfl) kKL_22 ?_
      refine hr_icmp_eq 301 X (tL_at tL_holds_2_ok 1 rfl) (by decide) (fun c => absurd c (lh_par hI ha hu)) (fun _ => ?_)
      refine hr_iload X (tL_at tL_holds_2_ok 2 rfl) rfl ?_
      refine hr_iload X (tL_at tL_holds_2_ok 3 rfl) rfl ?_
      refine hr_icmp_eq 297 X (tL_at tL_holds_2_ok 4 rfl) (by decide) (fun c => ?_) (fun c => ?_)
      · refine hr_iconst (nI 1) X (tL_at tL_holds_2_ok 29 rfl) (by decide) ?_
        refine hr_goto 302 X (tL_at tL_holds_2_ok 30 rfl) (by decide) ?_
        refine hr_istore X (tL_at tL_holds_2_ok 32 rfl) (Nat.le_of_ble_eq_true rfl) ?_
        refine hl_iinc X (tL_at tL_holds_2_ok 33 rfl) rfl ?_
        refine hr_goto 113 X (tL_at tL_holds_2_ok 34 rfl) (by decide) ?_
        rw [← hone]
        refine hr_widen (k2 := kr + 20) (n2 := sr + 120) (by omega) (by omega) ?_
        refine hr_sub (L2 := [some (.ref b), some (.ref nr), some (.ref cr), some (.int (nI m)), some (.int (nI 1)), some (.int (nI a)), some (.int (nI P)), some (.int (sp_is (fun v => if sg 2 (16 * a + v) = 0 then (0 : Int32) else 1) (i + 1))), some (.int (nI (i + 1))), none, none, none]) ⟨rfl, rfl, rfl, rfl, rfl, rfl, rfl, rfl, rfl, trivial⟩ ?_
        exact kk _ hQ5
      · obtain ⟨htel, hkind⟩ := lh_has hI ha hv m5 hpar hu hui c
        refine hr_iload X (tL_at tL_holds_2_ok 5 rfl) rfl ?_
        refine hr_aload_n X (tL_at tL_holds_2_ok 6 rfl) rfl (Or.inr ⟨_, rfl⟩) ?_
        refine hr_iload X (tL_at tL_holds_2_ok 7 rfl) rfl ?_
        refine hr_iload X (tL_at tL_holds_2_ok 8 rfl) rfl ?_
        refine hr_iload_n X (tL_at tL_holds_2_ok 9 rfl) rfl ?_
        refine hr_iconst (nI 5) X (tL_at tL_holds_2_ok 10 rfl) (by decide) ?_
        refine hl_irem X (tL_at tL_holds_2_ok 11 rfl) (by omega) (by decide) (by decide) ?_
        refine hl_rq0 X kSL_toldIn (tL_at tL_holds_2_ok 12 rfl) (c_L_toldIn cA hI hJ hQ5 (nI a) (nI u) (nI (m % 5))) (lh_thTask hI ha hu m5) rfl rfl rfl (Nat.le_of_ble_eq_true rfl) (kr + 14) (sr + 84) ⟨⟨(Nat.le_of_ble_eq_true rfl), (Nat.le_of_ble_eq_true rfl)⟩, (show kr + 11 + 3 ≤ 2582 by omega), (show sr + 66 + 18 ≤ 15492 by omega)⟩ (show kr + 11 + 3 ≤ kr + 14 by omega) (show sr + 66 + 18 ≤ sr + 84 by omega) (fun M6 hQ6 => ?_)
        rw [eA, eU, eT]
        refine hr_icmp_ne 301 X (tL_at tL_holds_2_ok 13 rfl) (by decide) (fun c => absurd (congrArg sp_o htel) c) (fun _ => ?_)
        refine hr_aload_n X (tL_at tL_holds_2_ok 14 rfl) rfl (Or.inr ⟨_, rfl⟩) ?_
        refine hr_iload X (tL_at tL_holds_2_ok 15 rfl) rfl ?_
        refine hr_iload X (tL_at tL_holds_2_ok 16 rfl) rfl ?_
        refine hr_iload_n X (tL_at tL_holds_2_ok 17 rfl) rfl ?_
        refine hr_iconst (nI 5) X (tL_at tL_holds_2_ok 18 rfl) (by decide) ?_
        refine hl_irem X (tL_at tL_holds_2_ok 19 rfl) (by omega) (by decide) (by decide) ?_
        refine hl_rq0 X kSL_kind (tL_at tL_holds_2_ok 20 rfl) (c_L_kind cA hI hJ hQ6 (nI a) (nI i) (nI (m % 5))) (lh_thTask hI ha hv m5) rfl rfl rfl (Nat.le_of_ble_eq_true rfl) (kr + 17) (sr + 102) ⟨⟨(Nat.le_of_ble_eq_true rfl), (Nat.le_of_ble_eq_true rfl)⟩, (show kr + 14 + 3 ≤ 2582 by omega), (show sr + 84 + 18 ≤ 15492 by omega)⟩ (show kr + 14 + 3 ≤ kr + 17 by omega) (show sr + 84 + 18 ≤ sr + 102 by omega) (fun M7 hQ7 => ?_)
        rw [eA, eI, eT]
        refine hr_aload_n X (tL_at tL_holds_2_ok 21 rfl) rfl (Or.inr ⟨_, rfl⟩) ?_
        refine hr_iload X (tL_at tL_holds_2_ok 22 rfl) rfl ?_
        refine hr_iload X (tL_at tL_holds_2_ok 23 rfl) rfl ?_
        refine hr_iload_n X (tL_at tL_holds_2_ok 24 rfl) rfl ?_
        refine hr_iconst (nI 5) X (tL_at tL_holds_2_ok 25 rfl) (by decide) ?_
        refine hl_irem X (tL_at tL_holds_2_ok 26 rfl) (by omega) (by decide) (by decide) ?_
        refine hl_rq0 X kSL_kind (tL_at tL_holds_2_ok 27 rfl) (c_L_kind cA hI hJ hQ7 (nI a) (nI u) (nI (m % 5))) (lh_thTask hI ha hu m5) rfl rfl rfl (Nat.le_of_ble_eq_true rfl) (kr + 20) (sr + 120) ⟨⟨(Nat.le_of_ble_eq_true rfl), (Nat.le_of_ble_eq_true rfl)⟩, (show kr + 17 + 3 ≤ 2582 by omega), (show sr + 102 + 18 ≤ 15492 by omega)⟩ (show kr + 17 + 3 ≤ kr + 20 by omega) (show sr + 102 + 18 ≤ sr + 120 by omega) (fun M8 hQ8 => ?_)
        rw [eA, eU, eT]
        refine hr_icmp_ne 301 X (tL_at tL_holds_2_ok 28 rfl) (by decide) (fun c => absurd hkind c) (fun _ => ?_)
        refine hr_iconst (nI 1) X (tL_at tL_holds_2_ok 29 rfl) (by decide) ?_
        refine hr_goto 302 X (tL_at tL_holds_2_ok 30 rfl) (by decide) ?_
        refine hr_istore X (tL_at tL_holds_2_ok 32 rfl) (Nat.le_of_ble_eq_true rfl) ?_
        refine hl_iinc X (tL_at tL_holds_2_ok 33 rfl) rfl ?_
        refine hr_goto 113 X (tL_at tL_holds_2_ok 34 rfl) (by decide) ?_
        rw [← hone]
        refine hr_widen (k2 := kr + 20) (n2 := sr + 120) (by omega) (by omega) ?_
        refine hr_sub (L2 := [some (.ref b), some (.ref nr), some (.ref cr), some (.int (nI m)), some (.int (nI 1)), some (.int (nI a)), some (.int (nI P)), some (.int (sp_is (fun v => if sg 2 (16 * a + v) = 0 then (0 : Int32) else 1) (i + 1))), some (.int (nI (i + 1))), none, none, none]) ⟨rfl, rfl, rfl, rfl, rfl, rfl, rfl, rfl, rfl, trivial⟩ ?_
        exact kk _ hQ8
  · have h2z := lh_th (by omega) hv
    have hone : sp_is (fun v => if sg 2 (16 * a + v) = 0 then (0 : Int32) else 1) (i + 1) = sp_is (fun v => if sg 2 (16 * a + v) = 0 then (0 : Int32) else 1) i + nI 0 := sp_is_up (if_pos h2z)
    refine hl_rq1 X kSL_parent (tL_at tL_holds_1_ok 6 rfl) (c_L_parent cA hI hJ hQ (nI a) (nI i)) (lf_w (lh_isVf hI ha (by omega) hv)) rfl rfl rfl (Nat.le_of_ble_eq_true rfl) (kr + 2) (sr + 12) ⟨⟨(Nat.le_of_ble_eq_true rfl), (Nat.le_of_ble_eq_true rfl)⟩, (show kr + 0 + 2 ≤ 2582 by omega), (show sr + 0 + 12 ≤ 15492 by omega)⟩ (show kr + 0 + 2 ≤ kr + 2 by omega) (show sr + 0 + 12 ≤ sr + 12 by omega) (fun M9 hQ9 => ?_)
    refine hr_istore X (tL_at tL_holds_1_ok 7 rfl) (Nat.le_of_ble_eq_true rfl) ?_
    refine hr_iload X (tL_at tL_holds_1_ok 8 rfl) rfl ?_
    refine hr_ldc lNI X (tL_at tL_holds_1_ok 9 rfl) kKL_22 ?_
    refine hr_icmp_ne 148 X (tL_at tL_holds_1_ok 10 rfl) (by decide) (fun c => absurd rfl c) (fun _ => ?_)
    refine hr_iconst (nI 0) X (tL_at tL_holds_1_ok 11 rfl) (by decide) ?_
    refine hr_goto 159 X (tL_at tL_holds_1_ok 12 rfl) (by decide) ?_
    refine hr_istore X (tL_at tL_holds_1_ok 20 rfl) (Nat.le_of_ble_eq_true rfl) ?_
    refine hr_iload X (tL_at tL_holds_1_ok 21 rfl) rfl ?_
    refine hr_iload X (tL_at tL_holds_1_ok 22 rfl) rfl ?_
    refine hr_ldc lNI X (tL_at tL_holds_1_ok 23 rfl) kKL_22 ?_
    refine hr_icmp_ne 174 X (tL_at tL_holds_1_ok 24 rfl) (by decide) (fun c => absurd rfl c) (fun _ => ?_)
    refine hr_iconst (nI 0) X (tL_at tL_holds_1_ok 25 rfl) (by decide) ?_
    refine hr_goto 175 X (tL_at tL_holds_1_ok 26 rfl) (by decide) ?_
    refine hr_iadd X (tL_at tL_holds_1_ok 28 rfl) ?_
    refine hr_istore X (tL_at tL_holds_1_ok 29 rfl) (Nat.le_of_ble_eq_true rfl) ?_
    refine hr_iload X (tL_at tL_holds_1_ok 30 rfl) rfl ?_
    refine hr_ldc lNI X (tL_at tL_holds_1_ok 31 rfl) kKL_22 ?_
    refine hr_icmp_eq 297 X (tL_at tL_holds_1_ok 32 rfl) (by decide) (fun _ => ?_) (fun c => absurd rfl c)
    refine hr_iconst (nI 1) X (tL_at tL_holds_2_ok 29 rfl) (by decide) ?_
    refine hr_goto 302 X (tL_at tL_holds_2_ok 30 rfl) (by decide) ?_
    refine hr_istore X (tL_at tL_holds_2_ok 32 rfl) (Nat.le_of_ble_eq_true rfl) ?_
    refine hl_iinc X (tL_at tL_holds_2_ok 33 rfl) rfl ?_
    refine hr_goto 113 X (tL_at tL_holds_2_ok 34 rfl) (by decide) ?_
    rw [← hone]
    refine hr_widen (k2 := kr + 20) (n2 := sr + 120) (by omega) (by omega) ?_
    refine hr_sub (L2 := [some (.ref b), some (.ref nr), some (.ref cr), some (.int (nI m)), some (.int (nI 1)), some (.int (nI a)), some (.int (nI P)), some (.int (sp_is (fun v => if sg 2 (16 * a + v) = 0 then (0 : Int32) else 1) (i + 1))), some (.int (nI (i + 1))), none, none, none]) ⟨rfl, rfl, rfl, rfl, rfl, rfl, rfl, rfl, rfl, trivial⟩ ?_
    exact kk _ hQ9
set_option maxHeartbeats 4000000 in
set_option maxRecDepth 100000 in
theorem w_HP {C : hm_C} {nm : String} {Q : State → Prop} {cA : Nat → ClassId} {sg : mm_S} {N M : hm_M} {b nr cr m a : Nat} {fc : Nat → Int32} {i P : Nat} {vs : Int32} (X : hm_X C RL cL_holds 12 (some .boolean) nm r_L_holds cA) (hI : sp_I sg) (hJ : sp_J sg) (hK : sp_K sg) (hm : m < 2 ^ 31) (hQ : ls_Q cA N b sg M) (ha : a < sp_n sg) (ha2 : a < 2) {kr sr : Nat} (hkr : kr + 14 ≤ 2582) (hsr : sr + 84 ≤ 15492) (hi : i < 12) (hcr : N cr = some (cr_iw cA 0 2 fc)) (e2 : ∀ a g, a < 2 → g < 4 → (fc a >>> (nI g &&& 31)) &&& nI 1 = sg 11 (4 * a + g)) (kk : ∀ M9 : hm_M, ls_Q cA N b sg M9 → hm_W C (kr + 14) (sr + 84) Q M9 336 [some (.ref b), some (.ref nr), some (.ref cr), some (.int (nI m)), some (.int (nI 1)), some (.int (nI a)), some (.int (nI P)), some (.int (vs)), some (.int (nI (i + 1))), none, none, none] []) : hm_W C kr sr Q M 336 [some (.ref b), some (.ref nr), some (.ref cr), some (.int (nI m)), some (.int (nI 1)), some (.int (nI a)), some (.int (nI P)), some (.int (vs)), some (.int (nI i)), none, none, none] [] := by
  have ha4 : a < 4 := by omega
  have eK : sp_k (nI i) (nI a) = 12 * a + i := lf_kN ha4 hi
  have hk48 : 12 * a + i < 48 := by omega
  have eC : sp_cls sg (12 * a + i) = sg 11 (4 * a + i / 3) := by
    unfold sp_cls
    rw [show 4 * ((12 * a + i) / 12) + (12 * a + i) % 12 / 3 = 4 * a + i / 3 by omega]
  refine hr_iload X (tL_at tL_holds_2_ok 48 rfl) rfl ?_
  refine hr_bipush (nI 12) X (tL_at tL_holds_2_ok 49 rfl) (by decide) ?_
  refine hr_icmp_ge 530 X (tL_at tL_holds_2_ok 50 rfl) (by decide) (fun c => absurd c (nI_ge hi (by decide))) (fun _ => ?_)
  refine hr_iload X (tL_at tL_holds_2_ok 51 rfl) rfl ?_
  refine hr_if_eq 530 X (tL_at tL_holds_2_ok 52 rfl) (by decide) (fun c => absurd c (by decide)) (fun _ => ?_)
  refine hr_aload_n X (tL_at tL_holds_2_ok 53 rfl) rfl (Or.inr ⟨_, rfl⟩) ?_
  refine hr_iload X (tL_at tL_holds_2_ok 54 rfl) rfl ?_
  refine hr_iload X (tL_at tL_holds_2_ok 55 rfl) rfl ?_
  refine hl_rq0 X kSL_answer (tL_at tL_holds_2_ok 56 rfl) (c_L_answer cA hI hJ hQ (nI i) (nI a)) (lf_w0 (lf_bT hI ha hi)) rfl rfl rfl (Nat.le_of_ble_eq_true rfl) (kr + 2) (sr + 12) ⟨⟨(Nat.le_of_ble_eq_true rfl), (Nat.le_of_ble_eq_true rfl)⟩, (show kr + 0 + 2 ≤ 2582 by omega), (show sr + 0 + 12 ≤ 15492 by omega)⟩ (show kr + 0 + 2 ≤ kr + 2 by omega) (show sr + 0 + 12 ≤ sr + 12 by omega) (fun M1 hQ1 => ?_)
  rw [eK]
  refine hr_istore X (tL_at tL_holds_2_ok 57 rfl) (Nat.le_of_ble_eq_true rfl) ?_
  refine hr_aload_n X (tL_at tL_holds_2_ok 58 rfl) rfl (Or.inr ⟨_, rfl⟩) ?_
  refine hr_iload X (tL_at tL_holds_2_ok 59 rfl) rfl ?_
  refine hr_iload X (tL_at tL_holds_3_ok 0 rfl) rfl ?_
  refine hl_rq0 X kSL_due (tL_at tL_holds_3_ok 1 rfl) (c_L_due cA hI hJ hQ1 (nI i) (nI a)) (lf_w0 (lf_bT hI ha hi)) rfl rfl rfl (Nat.le_of_ble_eq_true rfl) (kr + 4) (sr + 24) ⟨⟨(Nat.le_of_ble_eq_true rfl), (Nat.le_of_ble_eq_true rfl)⟩, (show kr + 2 + 2 ≤ 2582 by omega), (show sr + 12 + 12 ≤ 15492 by omega)⟩ (show kr + 2 + 2 ≤ kr + 4 by omega) (show sr + 12 + 12 ≤ sr + 24 by omega) (fun M2 hQ2 => ?_)
  rw [eK]
  refine hr_istore X (tL_at tL_holds_3_ok 2 rfl) (Nat.le_of_ble_eq_true rfl) ?_
  refine hr_aload_n X (tL_at tL_holds_3_ok 3 rfl) rfl (Or.inr ⟨_, rfl⟩) ?_
  refine hr_iload X (tL_at tL_holds_3_ok 4 rfl) rfl ?_
  refine hl_iald X (tL_at tL_holds_3_ok 5 rfl) (ls_at hQ2 hcr) ha2 (by decide) ?_
  refine hr_iload X (tL_at tL_holds_3_ok 6 rfl) rfl ?_
  refine hr_iconst (nI 3) X (tL_at tL_holds_3_ok 7 rfl) (by decide) ?_
  refine hl_idiv X (tL_at tL_holds_3_ok 8 rfl) (by omega) (by decide) (by decide) ?_
  refine hr_ishr X (tL_at tL_holds_3_ok 9 rfl) ?_
  refine hr_iconst (nI 1) X (tL_at tL_holds_3_ok 10 rfl) (by decide) ?_
  refine hr_iand X (tL_at tL_holds_3_ok 11 rfl) ?_
  rw [e2 a (i / 3) ha2 (by omega)]
  refine hr_iconst (nI 1) X (tL_at tL_holds_3_ok 12 rfl) (by decide) ?_
  have hst : sg 13 (12 * a + i) = 0 ∨ sg 13 (12 * a + i) = 1 ∨ sg 13 (12 * a + i) = 2 := by
    rcases hI.i9 a i ha4 hi with ⟨h, -⟩ | ⟨h | h, -⟩
    · exact Or.inl h
    · exact Or.inr (Or.inl h)
    · exact Or.inr (Or.inr h)
  rcases hI.i4.2.1 (4 * a + i / 3) (by omega) with hcl | hcl <;> rw [hcl]
  · rw [hcl] at eC
    refine hr_icmp_ne 387 X (tL_at tL_holds_3_ok 13 rfl) (by decide) (fun _ => ?_) (fun c => absurd c (by decide))
    refine hr_iconst (nI 0) X (tL_at tL_holds_3_ok 16 rfl) (by decide) ?_
    refine hr_istore X (tL_at tL_holds_3_ok 17 rfl) (Nat.le_of_ble_eq_true rfl) ?_
    refine hr_iload X (tL_at tL_holds_3_ok 18 rfl) rfl ?_
    rcases hst with h13 | h13 | h13
    · rw [h13]
      refine hr_if_ne 399 X (tL_at tL_holds_3_ok 19 rfl) (by decide) (fun c => absurd rfl c) (fun _ => ?_)
      have hdue : sp_rDue sg (12 * a + i) = -1 := if_pos h13
      rw [hdue]
      refine hr_iconst (nI 1) X (tL_at tL_holds_3_ok 20 rfl) (by decide) ?_
      refine hr_goto 400 X (tL_at tL_holds_3_ok 21 rfl) (by decide) ?_
      refine hr_iload X (tL_at tL_holds_3_ok 23 rfl) rfl ?_
      refine hr_iconst ((-1)) X (tL_at tL_holds_3_ok 24 rfl) (by decide) ?_
      refine hr_icmp_ne 410 X (tL_at tL_holds_3_ok 25 rfl) (by decide) (fun c => absurd rfl c) (fun _ => ?_)
      refine hr_iconst (nI 1) X (tL_at tL_holds_3_ok 26 rfl) (by decide) ?_
      refine hr_goto 411 X (tL_at tL_holds_3_ok 27 rfl) (by decide) ?_
      refine hr_icmp_ne 521 X (tL_at tL_holds_3_ok 29 rfl) (by decide) (fun c => absurd rfl c) (fun _ => ?_)
      refine hr_iload X (tL_at tL_holds_3_ok 30 rfl) rfl ?_
      refine hr_iconst (nI 2) X (tL_at tL_holds_3_ok 31 rfl) (by decide) ?_
      refine hr_icmp_ne 424 X (tL_at tL_holds_3_ok 32 rfl) (by decide) (fun _ => ?_) (fun c => absurd c (by decide))
      refine hr_iconst (nI 0) X (tL_at tL_holds_3_ok 35 rfl) (by decide) ?_
      refine hr_aload_n X (tL_at tL_holds_3_ok 36 rfl) rfl (Or.inr ⟨_, rfl⟩) ?_
      refine hr_iload X (tL_at tL_holds_3_ok 37 rfl) rfl ?_
      refine hr_iload X (tL_at tL_holds_3_ok 38 rfl) rfl ?_
      have hmark : sp_rMark sg (12 * a + i) = -1 := if_neg (by rw [h13]; decide)
      refine hl_rq0 X kSL_mark (tL_at tL_holds_3_ok 39 rfl) (c_L_mark cA hI hJ hQ2 (nI i) (nI a)) (lf_w0 (lf_bT hI ha hi)) rfl rfl rfl (Nat.le_of_ble_eq_true rfl) (kr + 6) (sr + 36) ⟨⟨(Nat.le_of_ble_eq_true rfl), (Nat.le_of_ble_eq_true rfl)⟩, (show kr + 4 + 2 ≤ 2582 by omega), (show sr + 24 + 12 ≤ 15492 by omega)⟩ (show kr + 4 + 2 ≤ kr + 6 by omega) (show sr + 24 + 12 ≤ sr + 36 by omega) (fun M3 hQ3 => ?_)
      rw [eK, hmark]
      refine hr_if_lt 440 X (tL_at tL_holds_3_ok 40 rfl) (by decide) (fun _ => ?_) (fun c => absurd (by decide) c)
      refine hr_iconst (nI 0) X (tL_at tL_holds_3_ok 43 rfl) (by decide) ?_
      refine hr_icmp_ne 521 X (tL_at tL_holds_3_ok 44 rfl) (by decide) (fun c => absurd rfl c) (fun _ => ?_)
      refine hr_iload X (tL_at tL_holds_3_ok 45 rfl) rfl ?_
      refine hr_if_eq 455 X (tL_at tL_holds_3_ok 46 rfl) (by decide) (fun _ => ?_) (fun c => absurd rfl c)
      refine hr_iload X (tL_at tL_holds_3_ok 50 rfl) rfl ?_
      refine hr_if_ne 471 X (tL_at tL_holds_3_ok 51 rfl) (by decide) (fun c => absurd rfl c) (fun _ => ?_)
      have htold : sg 16 (12 * a + i) = 0 := hJ.2.1 _ hk48 (by rw [h13]; decide)
      refine hr_aload_n X (tL_at tL_holds_3_ok 52 rfl) rfl (Or.inr ⟨_, rfl⟩) ?_
      refine hr_iload X (tL_at tL_holds_3_ok 53 rfl) rfl ?_
      refine hr_iload X (tL_at tL_holds_3_ok 54 rfl) rfl ?_
      refine hl_rq0 X kSL_told (tL_at tL_holds_3_ok 55 rfl) (c_L_told cA hI hJ hQ3 (nI i) (nI a)) (lf_w0 (lf_bT hI ha hi)) rfl rfl rfl (Nat.le_of_ble_eq_true rfl) (kr + 8) (sr + 48) ⟨⟨(Nat.le_of_ble_eq_true rfl), (Nat.le_of_ble_eq_true rfl)⟩, (show kr + 6 + 2 ≤ 2582 by omega), (show sr + 36 + 12 ≤ 15492 by omega)⟩ (show kr + 6 + 2 ≤ kr + 8 by omega) (show sr + 36 + 12 ≤ sr + 48 by omega) (fun M4 hQ4 => ?_)
      rw [eK, htold]
      refine hr_if_ne 521 X (tL_at tL_holds_3_ok 56 rfl) (by decide) (fun c => absurd rfl c) (fun _ => ?_)
      refine hr_iload X (tL_at tL_holds_3_ok 57 rfl) rfl ?_
      refine hr_iconst (nI 2) X (tL_at tL_holds_3_ok 58 rfl) (by decide) ?_
      refine hr_icmp_ne 495 X (tL_at tL_holds_3_ok 59 rfl) (by decide) (fun _ => ?_) (fun c => absurd c (by decide))
      refine hr_aload_n X (tL_at tL_holds_4_ok 8 rfl) rfl (Or.inr ⟨_, rfl⟩) ?_
      refine hr_iload X (tL_at tL_holds_4_ok 9 rfl) rfl ?_
      refine hr_iload X (tL_at tL_holds_4_ok 10 rfl) rfl ?_
      refine hl_rq0 X kSL_mark (tL_at tL_holds_4_ok 11 rfl) (c_L_mark cA hI hJ hQ4 (nI i) (nI a)) (lf_w0 (lf_bT hI ha hi)) rfl rfl rfl (Nat.le_of_ble_eq_true rfl) (kr + 10) (sr + 60) ⟨⟨(Nat.le_of_ble_eq_true rfl), (Nat.le_of_ble_eq_true rfl)⟩, (show kr + 8 + 2 ≤ 2582 by omega), (show sr + 48 + 12 ≤ 15492 by omega)⟩ (show kr + 8 + 2 ≤ kr + 10 by omega) (show sr + 48 + 12 ≤ sr + 60 by omega) (fun M5 hQ5 => ?_)
      rw [eK, hmark]
      refine hr_if_gt 517 X (tL_at tL_holds_4_ok 12 rfl) (by decide) (fun c => absurd c (by decide)) (fun _ => ?_)
      refine hr_aload_n X (tL_at tL_holds_4_ok 13 rfl) rfl (Or.inr ⟨_, rfl⟩) ?_
      refine hr_iload X (tL_at tL_holds_4_ok 14 rfl) rfl ?_
      refine hr_iload X (tL_at tL_holds_4_ok 15 rfl) rfl ?_
      refine hl_rq0 X kSL_prints (tL_at tL_holds_4_ok 16 rfl) (c_L_prints cA hI hJ hQ5 (nI i) (nI a)) (lf_w0 (lf_bT hI ha hi)) rfl rfl rfl (Nat.le_of_ble_eq_true rfl) (kr + 12) (sr + 72) ⟨⟨(Nat.le_of_ble_eq_true rfl), (Nat.le_of_ble_eq_true rfl)⟩, (show kr + 10 + 2 ≤ 2582 by omega), (show sr + 60 + 12 ≤ 15492 by omega)⟩ (show kr + 10 + 2 ≤ kr + 12 by omega) (show sr + 60 + 12 ≤ sr + 72 by omega) (fun M6 hQ6 => ?_)
      rw [eK, show sp_prs sg (12 * a + i) = [] from if_neg (fun q => absurd (h13.symm.trans q.1) (by decide))]
      refine hr_if_ne 521 X (tL_at tL_holds_4_ok 17 rfl) (by decide) (fun c => absurd rfl c) (fun _ => ?_)
      refine hr_iconst (nI 1) X (tL_at tL_holds_4_ok 18 rfl) (by decide) ?_
      refine hr_goto 522 X (tL_at tL_holds_4_ok 19 rfl) (by decide) ?_
      refine hr_istore X (tL_at tL_holds_4_ok 21 rfl) (Nat.le_of_ble_eq_true rfl) ?_
      refine hl_iinc X (tL_at tL_holds_4_ok 22 rfl) rfl ?_
      refine hr_goto 336 X (tL_at tL_holds_4_ok 23 rfl) (by decide) ?_
      refine hr_widen (k2 := kr + 14) (n2 := sr + 84) (by omega) (by omega) ?_
      refine hr_sub (L2 := [some (.ref b), some (.ref nr), some (.ref cr), some (.int (nI m)), some (.int (nI 1)), some (.int (nI a)), some (.int (nI P)), some (.int (vs)), some (.int (nI (i + 1))), none, none, none]) ⟨rfl, rfl, rfl, rfl, rfl, rfl, rfl, rfl, rfl, trivial⟩ ?_
      exact kk _ hQ6
    · rw [h13]
      refine hr_if_ne 399 X (tL_at tL_holds_3_ok 19 rfl) (by decide) (fun _ => ?_) (fun c => absurd c (by decide))
      obtain ⟨D, eD, hD⟩ := lk_due hI hk48 (by rw [h13]; decide)
      have hdue : sp_rDue sg (12 * a + i) = nI D := (if_neg (by rw [h13]; decide)).trans eD
      rw [hdue]
      refine hr_iconst (nI 0) X (tL_at tL_holds_3_ok 22 rfl) (by decide) ?_
      refine hr_iload X (tL_at tL_holds_3_ok 23 rfl) rfl ?_
      refine hr_iconst ((-1)) X (tL_at tL_holds_3_ok 24 rfl) (by decide) ?_
      refine hr_icmp_ne 410 X (tL_at tL_holds_3_ok 25 rfl) (by decide) (fun _ => ?_) (fun c => absurd c (nI_m1 (by omega)))
      refine hr_iconst (nI 0) X (tL_at tL_holds_3_ok 28 rfl) (by decide) ?_
      refine hr_icmp_ne 521 X (tL_at tL_holds_3_ok 29 rfl) (by decide) (fun c => absurd rfl c) (fun _ => ?_)
      refine hr_iload X (tL_at tL_holds_3_ok 30 rfl) rfl ?_
      refine hr_iconst (nI 2) X (tL_at tL_holds_3_ok 31 rfl) (by decide) ?_
      refine hr_icmp_ne 424 X (tL_at tL_holds_3_ok 32 rfl) (by decide) (fun _ => ?_) (fun c => absurd c (by decide))
      refine hr_iconst (nI 0) X (tL_at tL_holds_3_ok 35 rfl) (by decide) ?_
      refine hr_aload_n X (tL_at tL_holds_3_ok 36 rfl) rfl (Or.inr ⟨_, rfl⟩) ?_
      refine hr_iload X (tL_at tL_holds_3_ok 37 rfl) rfl ?_
      refine hr_iload X (tL_at tL_holds_3_ok 38 rfl) rfl ?_
      have hmark : sp_rMark sg (12 * a + i) = -1 := if_neg (by rw [h13]; decide)
      refine hl_rq0 X kSL_mark (tL_at tL_holds_3_ok 39 rfl) (c_L_mark cA hI hJ hQ2 (nI i) (nI a)) (lf_w0 (lf_bT hI ha hi)) rfl rfl rfl (Nat.le_of_ble_eq_true rfl) (kr + 6) (sr + 36) ⟨⟨(Nat.le_of_ble_eq_true rfl), (Nat.le_of_ble_eq_true rfl)⟩, (show kr + 4 + 2 ≤ 2582 by omega), (show sr + 24 + 12 ≤ 15492 by omega)⟩ (show kr + 4 + 2 ≤ kr + 6 by omega) (show sr + 24 + 12 ≤ sr + 36 by omega) (fun M7 hQ7 => ?_)
      rw [eK, hmark]
      refine hr_if_lt 440 X (tL_at tL_holds_3_ok 40 rfl) (by decide) (fun _ => ?_) (fun c => absurd (by decide) c)
      refine hr_iconst (nI 0) X (tL_at tL_holds_3_ok 43 rfl) (by decide) ?_
      refine hr_icmp_ne 521 X (tL_at tL_holds_3_ok 44 rfl) (by decide) (fun c => absurd rfl c) (fun _ => ?_)
      refine hr_iload X (tL_at tL_holds_3_ok 45 rfl) rfl ?_
      refine hr_if_eq 455 X (tL_at tL_holds_3_ok 46 rfl) (by decide) (fun _ => ?_) (fun c => absurd rfl c)
      refine hr_iload X (tL_at tL_holds_3_ok 50 rfl) rfl ?_
      refine hr_if_ne 471 X (tL_at tL_holds_3_ok 51 rfl) (by decide) (fun c => absurd rfl c) (fun _ => ?_)
      have htold : sg 16 (12 * a + i) = 0 := hJ.2.1 _ hk48 (by rw [h13]; decide)
      refine hr_aload_n X (tL_at tL_holds_3_ok 52 rfl) rfl (Or.inr ⟨_, rfl⟩) ?_
      refine hr_iload X (tL_at tL_holds_3_ok 53 rfl) rfl ?_
      refine hr_iload X (tL_at tL_holds_3_ok 54 rfl) rfl ?_
      refine hl_rq0 X kSL_told (tL_at tL_holds_3_ok 55 rfl) (c_L_told cA hI hJ hQ7 (nI i) (nI a)) (lf_w0 (lf_bT hI ha hi)) rfl rfl rfl (Nat.le_of_ble_eq_true rfl) (kr + 8) (sr + 48) ⟨⟨(Nat.le_of_ble_eq_true rfl), (Nat.le_of_ble_eq_true rfl)⟩, (show kr + 6 + 2 ≤ 2582 by omega), (show sr + 36 + 12 ≤ 15492 by omega)⟩ (show kr + 6 + 2 ≤ kr + 8 by omega) (show sr + 36 + 12 ≤ sr + 48 by omega) (fun M8 hQ8 => ?_)
      rw [eK, htold]
      refine hr_if_ne 521 X (tL_at tL_holds_3_ok 56 rfl) (by decide) (fun c => absurd rfl c) (fun _ => ?_)
      refine hr_iload X (tL_at tL_holds_3_ok 57 rfl) rfl ?_
      refine hr_iconst (nI 2) X (tL_at tL_holds_3_ok 58 rfl) (by decide) ?_
      refine hr_icmp_ne 495 X (tL_at tL_holds_3_ok 59 rfl) (by decide) (fun _ => ?_) (fun c => absurd c (by decide))
      refine hr_aload_n X (tL_at tL_holds_4_ok 8 rfl) rfl (Or.inr ⟨_, rfl⟩) ?_
      refine hr_iload X (tL_at tL_holds_4_ok 9 rfl) rfl ?_
      refine hr_iload X (tL_at tL_holds_4_ok 10 rfl) rfl ?_
      refine hl_rq0 X kSL_mark (tL_at tL_holds_4_ok 11 rfl) (c_L_mark cA hI hJ hQ8 (nI i) (nI a)) (lf_w0 (lf_bT hI ha hi)) rfl rfl rfl (Nat.le_of_ble_eq_true rfl) (kr + 10) (sr + 60) ⟨⟨(Nat.le_of_ble_eq_true rfl), (Nat.le_of_ble_eq_true rfl)⟩, (show kr + 8 + 2 ≤ 2582 by omega), (show sr + 48 + 12 ≤ 15492 by omega)⟩ (show kr + 8 + 2 ≤ kr + 10 by omega) (show sr + 48 + 12 ≤ sr + 60 by omega) (fun M9 hQ9 => ?_)
      rw [eK, hmark]
      refine hr_if_gt 517 X (tL_at tL_holds_4_ok 12 rfl) (by decide) (fun c => absurd c (by decide)) (fun _ => ?_)
      refine hr_aload_n X (tL_at tL_holds_4_ok 13 rfl) rfl (Or.inr ⟨_, rfl⟩) ?_
      refine hr_iload X (tL_at tL_holds_4_ok 14 rfl) rfl ?_
      refine hr_iload X (tL_at tL_holds_4_ok 15 rfl) rfl ?_
      refine hl_rq0 X kSL_prints (tL_at tL_holds_4_ok 16 rfl) (c_L_prints cA hI hJ hQ9 (nI i) (nI a)) (lf_w0 (lf_bT hI ha hi)) rfl rfl rfl (Nat.le_of_ble_eq_true rfl) (kr + 12) (sr + 72) ⟨⟨(Nat.le_of_ble_eq_true rfl), (Nat.le_of_ble_eq_true rfl)⟩, (show kr + 10 + 2 ≤ 2582 by omega), (show sr + 60 + 12 ≤ 15492 by omega)⟩ (show kr + 10 + 2 ≤ kr + 12 by omega) (show sr + 60 + 12 ≤ sr + 72 by omega) (fun M10 hQ10 => ?_)
      rw [eK, show sp_prs sg (12 * a + i) = [] from if_neg (fun q => absurd (h13.symm.trans q.1) (by decide))]
      refine hr_if_ne 521 X (tL_at tL_holds_4_ok 17 rfl) (by decide) (fun c => absurd rfl c) (fun _ => ?_)
      refine hr_iconst (nI 1) X (tL_at tL_holds_4_ok 18 rfl) (by decide) ?_
      refine hr_goto 522 X (tL_at tL_holds_4_ok 19 rfl) (by decide) ?_
      refine hr_istore X (tL_at tL_holds_4_ok 21 rfl) (Nat.le_of_ble_eq_true rfl) ?_
      refine hl_iinc X (tL_at tL_holds_4_ok 22 rfl) rfl ?_
      refine hr_goto 336 X (tL_at tL_holds_4_ok 23 rfl) (by decide) ?_
      refine hr_widen (k2 := kr + 14) (n2 := sr + 84) (by omega) (by omega) ?_
      refine hr_sub (L2 := [some (.ref b), some (.ref nr), some (.ref cr), some (.int (nI m)), some (.int (nI 1)), some (.int (nI a)), some (.int (nI P)), some (.int (vs)), some (.int (nI (i + 1))), none, none, none]) ⟨rfl, rfl, rfl, rfl, rfl, rfl, rfl, rfl, rfl, trivial⟩ ?_
      exact kk _ hQ10
    · rw [h13]
      refine hr_if_ne 399 X (tL_at tL_holds_3_ok 19 rfl) (by decide) (fun _ => ?_) (fun c => absurd c (by decide))
      obtain ⟨D, eD, hD⟩ := lk_due hI hk48 (by rw [h13]; decide)
      have hdue : sp_rDue sg (12 * a + i) = nI D := (if_neg (by rw [h13]; decide)).trans eD
      rw [hdue]
      refine hr_iconst (nI 0) X (tL_at tL_holds_3_ok 22 rfl) (by decide) ?_
      refine hr_iload X (tL_at tL_holds_3_ok 23 rfl) rfl ?_
      refine hr_iconst ((-1)) X (tL_at tL_holds_3_ok 24 rfl) (by decide) ?_
      refine hr_icmp_ne 410 X (tL_at tL_holds_3_ok 25 rfl) (by decide) (fun _ => ?_) (fun c => absurd c (nI_m1 (by omega)))
      refine hr_iconst (nI 0) X (tL_at tL_holds_3_ok 28 rfl) (by decide) ?_
      refine hr_icmp_ne 521 X (tL_at tL_holds_3_ok 29 rfl) (by decide) (fun c => absurd rfl c) (fun _ => ?_)
      refine hr_iload X (tL_at tL_holds_3_ok 30 rfl) rfl ?_
      refine hr_iconst (nI 2) X (tL_at tL_holds_3_ok 31 rfl) (by decide) ?_
      refine hr_icmp_ne 424 X (tL_at tL_holds_3_ok 32 rfl) (by decide) (fun c => absurd rfl c) (fun _ => ?_)
      refine hr_iconst (nI 1) X (tL_at tL_holds_3_ok 33 rfl) (by decide) ?_
      refine hr_goto 425 X (tL_at tL_holds_3_ok 34 rfl) (by decide) ?_
      refine hr_aload_n X (tL_at tL_holds_3_ok 36 rfl) rfl (Or.inr ⟨_, rfl⟩) ?_
      refine hr_iload X (tL_at tL_holds_3_ok 37 rfl) rfl ?_
      refine hr_iload X (tL_at tL_holds_3_ok 38 rfl) rfl ?_
      obtain ⟨hmk0, hmk⟩ := hK.2.1 _ hk48 h13
      obtain ⟨mk, hmk1, emk⟩ := nI_of (Int32.not_lt.mpr hmk0)
      have hmark : sp_rMark sg (12 * a + i) = nI mk := (if_pos h13).trans emk
      obtain ⟨hmd, htold⟩ := hmk eC
      refine hl_rq0 X kSL_mark (tL_at tL_holds_3_ok 39 rfl) (c_L_mark cA hI hJ hQ2 (nI i) (nI a)) (lf_w0 (lf_bT hI ha hi)) rfl rfl rfl (Nat.le_of_ble_eq_true rfl) (kr + 6) (sr + 36) ⟨⟨(Nat.le_of_ble_eq_true rfl), (Nat.le_of_ble_eq_true rfl)⟩, (show kr + 4 + 2 ≤ 2582 by omega), (show sr + 24 + 12 ≤ 15492 by omega)⟩ (show kr + 4 + 2 ≤ kr + 6 by omega) (show sr + 24 + 12 ≤ sr + 36 by omega) (fun M11 hQ11 => ?_)
      rw [eK, hmark]
      refine hr_if_lt 440 X (tL_at tL_holds_3_ok 40 rfl) (by decide) (fun c => absurd c (nI_pos hmk1)) (fun _ => ?_)
      refine hr_iconst (nI 1) X (tL_at tL_holds_3_ok 41 rfl) (by decide) ?_
      refine hr_goto 441 X (tL_at tL_holds_3_ok 42 rfl) (by decide) ?_
      refine hr_icmp_ne 521 X (tL_at tL_holds_3_ok 44 rfl) (by decide) (fun c => absurd rfl c) (fun _ => ?_)
      refine hr_iload X (tL_at tL_holds_3_ok 45 rfl) rfl ?_
      refine hr_if_eq 455 X (tL_at tL_holds_3_ok 46 rfl) (by decide) (fun _ => ?_) (fun c => absurd rfl c)
      refine hr_iload X (tL_at tL_holds_3_ok 50 rfl) rfl ?_
      refine hr_if_ne 471 X (tL_at tL_holds_3_ok 51 rfl) (by decide) (fun c => absurd rfl c) (fun _ => ?_)
      refine hr_aload_n X (tL_at tL_holds_3_ok 52 rfl) rfl (Or.inr ⟨_, rfl⟩) ?_
      refine hr_iload X (tL_at tL_holds_3_ok 53 rfl) rfl ?_
      refine hr_iload X (tL_at tL_holds_3_ok 54 rfl) rfl ?_
      refine hl_rq0 X kSL_told (tL_at tL_holds_3_ok 55 rfl) (c_L_told cA hI hJ hQ11 (nI i) (nI a)) (lf_w0 (lf_bT hI ha hi)) rfl rfl rfl (Nat.le_of_ble_eq_true rfl) (kr + 8) (sr + 48) ⟨⟨(Nat.le_of_ble_eq_true rfl), (Nat.le_of_ble_eq_true rfl)⟩, (show kr + 6 + 2 ≤ 2582 by omega), (show sr + 36 + 12 ≤ 15492 by omega)⟩ (show kr + 6 + 2 ≤ kr + 8 by omega) (show sr + 36 + 12 ≤ sr + 48 by omega) (fun M12 hQ12 => ?_)
      rw [eK, htold]
      refine hr_if_ne 521 X (tL_at tL_holds_3_ok 56 rfl) (by decide) (fun c => absurd rfl c) (fun _ => ?_)
      refine hr_iload X (tL_at tL_holds_3_ok 57 rfl) rfl ?_
      refine hr_iconst (nI 2) X (tL_at tL_holds_3_ok 58 rfl) (by decide) ?_
      refine hr_icmp_ne 495 X (tL_at tL_holds_3_ok 59 rfl) (by decide) (fun c => absurd rfl c) (fun _ => ?_)
      refine hr_iload X (tL_at tL_holds_4_ok 0 rfl) rfl ?_
      refine hr_if_ne 495 X (tL_at tL_holds_4_ok 1 rfl) (by decide) (fun c => absurd rfl c) (fun _ => ?_)
      refine hr_aload_n X (tL_at tL_holds_4_ok 2 rfl) rfl (Or.inr ⟨_, rfl⟩) ?_
      refine hr_iload X (tL_at tL_holds_4_ok 3 rfl) rfl ?_
      refine hr_iload X (tL_at tL_holds_4_ok 4 rfl) rfl ?_
      refine hl_rq0 X kSL_mark (tL_at tL_holds_4_ok 5 rfl) (c_L_mark cA hI hJ hQ12 (nI i) (nI a)) (lf_w0 (lf_bT hI ha hi)) rfl rfl rfl (Nat.le_of_ble_eq_true rfl) (kr + 10) (sr + 60) ⟨⟨(Nat.le_of_ble_eq_true rfl), (Nat.le_of_ble_eq_true rfl)⟩, (show kr + 8 + 2 ≤ 2582 by omega), (show sr + 48 + 12 ≤ 15492 by omega)⟩ (show kr + 8 + 2 ≤ kr + 10 by omega) (show sr + 48 + 12 ≤ sr + 60 by omega) (fun M13 hQ13 => ?_)
      rw [eK, hmark]
      refine hr_iload X (tL_at tL_holds_4_ok 6 rfl) rfl ?_
      refine hr_icmp_ne 521 X (tL_at tL_holds_4_ok 7 rfl) (by decide) (fun c => absurd (emk.symm.trans (hmd.trans eD)) c) (fun _ => ?_)
      refine hr_aload_n X (tL_at tL_holds_4_ok 8 rfl) rfl (Or.inr ⟨_, rfl⟩) ?_
      refine hr_iload X (tL_at tL_holds_4_ok 9 rfl) rfl ?_
      refine hr_iload X (tL_at tL_holds_4_ok 10 rfl) rfl ?_
      refine hl_rq0 X kSL_mark (tL_at tL_holds_4_ok 11 rfl) (c_L_mark cA hI hJ hQ13 (nI i) (nI a)) (lf_w0 (lf_bT hI ha hi)) rfl rfl rfl (Nat.le_of_ble_eq_true rfl) (kr + 12) (sr + 72) ⟨⟨(Nat.le_of_ble_eq_true rfl), (Nat.le_of_ble_eq_true rfl)⟩, (show kr + 10 + 2 ≤ 2582 by omega), (show sr + 60 + 12 ≤ 15492 by omega)⟩ (show kr + 10 + 2 ≤ kr + 12 by omega) (show sr + 60 + 12 ≤ sr + 72 by omega) (fun M14 hQ14 => ?_)
      rw [eK, hmark]
      refine hr_if_gt 517 X (tL_at tL_holds_4_ok 12 rfl) (by decide) (fun c => ?_) (fun c => ?_)
      · refine hr_iconst (nI 1) X (tL_at tL_holds_4_ok 18 rfl) (by decide) ?_
        refine hr_goto 522 X (tL_at tL_holds_4_ok 19 rfl) (by decide) ?_
        refine hr_istore X (tL_at tL_holds_4_ok 21 rfl) (Nat.le_of_ble_eq_true rfl) ?_
        refine hl_iinc X (tL_at tL_holds_4_ok 22 rfl) rfl ?_
        refine hr_goto 336 X (tL_at tL_holds_4_ok 23 rfl) (by decide) ?_
        refine hr_widen (k2 := kr + 14) (n2 := sr + 84) (by omega) (by omega) ?_
        refine hr_sub (L2 := [some (.ref b), some (.ref nr), some (.ref cr), some (.int (nI m)), some (.int (nI 1)), some (.int (nI a)), some (.int (nI P)), some (.int (vs)), some (.int (nI (i + 1))), none, none, none]) ⟨rfl, rfl, rfl, rfl, rfl, rfl, rfl, rfl, rfl, trivial⟩ ?_
        exact kk _ hQ14
      · refine hr_aload_n X (tL_at tL_holds_4_ok 13 rfl) rfl (Or.inr ⟨_, rfl⟩) ?_
        refine hr_iload X (tL_at tL_holds_4_ok 14 rfl) rfl ?_
        refine hr_iload X (tL_at tL_holds_4_ok 15 rfl) rfl ?_
        refine hl_rq0 X kSL_prints (tL_at tL_holds_4_ok 16 rfl) (c_L_prints cA hI hJ hQ14 (nI i) (nI a)) (lf_w0 (lf_bT hI ha hi)) rfl rfl rfl (Nat.le_of_ble_eq_true rfl) (kr + 14) (sr + 84) ⟨⟨(Nat.le_of_ble_eq_true rfl), (Nat.le_of_ble_eq_true rfl)⟩, (show kr + 12 + 2 ≤ 2582 by omega), (show sr + 72 + 12 ≤ 15492 by omega)⟩ (show kr + 12 + 2 ≤ kr + 14 by omega) (show sr + 72 + 12 ≤ sr + 84 by omega) (fun M15 hQ15 => ?_)
        rw [eK, show sp_prs sg (12 * a + i) = [] from if_neg (fun q => c (by rw [← emk]; exact q.2))]
        refine hr_if_ne 521 X (tL_at tL_holds_4_ok 17 rfl) (by decide) (fun c => absurd rfl c) (fun _ => ?_)
        refine hr_iconst (nI 1) X (tL_at tL_holds_4_ok 18 rfl) (by decide) ?_
        refine hr_goto 522 X (tL_at tL_holds_4_ok 19 rfl) (by decide) ?_
        refine hr_istore X (tL_at tL_holds_4_ok 21 rfl) (Nat.le_of_ble_eq_true rfl) ?_
        refine hl_iinc X (tL_at tL_holds_4_ok 22 rfl) rfl ?_
        refine hr_goto 336 X (tL_at tL_holds_4_ok 23 rfl) (by decide) ?_
        refine hr_widen (k2 := kr + 14) (n2 := sr + 84) (by omega) (by omega) ?_
        refine hr_sub (L2 := [some (.ref b), some (.ref nr), some (.ref cr), some (.int (nI m)), some (.int (nI 1)), some (.int (nI a)), some (.int (nI P)), some (.int (vs)), some (.int (nI (i + 1))), none, none, none]) ⟨rfl, rfl, rfl, rfl, rfl, rfl, rfl, rfl, rfl, trivial⟩ ?_
        exact kk _ hQ15
  · rw [hcl] at eC
    refine hr_icmp_ne 387 X (tL_at tL_holds_3_ok 13 rfl) (by decide) (fun c => absurd rfl c) (fun _ => ?_)
    refine hr_iconst (nI 1) X (tL_at tL_holds_3_ok 14 rfl) (by decide) ?_
    refine hr_goto 388 X (tL_at tL_holds_3_ok 15 rfl) (by decide) ?_
    refine hr_istore X (tL_at tL_holds_3_ok 17 rfl) (Nat.le_of_ble_eq_true rfl) ?_
    refine hr_iload X (tL_at tL_holds_3_ok 18 rfl) rfl ?_
    have hst1 : ¬ sg 13 (12 * a + i) = 1 := hK.2.2.1 _ hk48 (by rw [eC]; decide)
    rcases hst with h13 | h13 | h13
    · rw [h13]
      refine hr_if_ne 399 X (tL_at tL_holds_3_ok 19 rfl) (by decide) (fun c => absurd rfl c) (fun _ => ?_)
      have hdue : sp_rDue sg (12 * a + i) = -1 := if_pos h13
      rw [hdue]
      refine hr_iconst (nI 1) X (tL_at tL_holds_3_ok 20 rfl) (by decide) ?_
      refine hr_goto 400 X (tL_at tL_holds_3_ok 21 rfl) (by decide) ?_
      refine hr_iload X (tL_at tL_holds_3_ok 23 rfl) rfl ?_
      refine hr_iconst ((-1)) X (tL_at tL_holds_3_ok 24 rfl) (by decide) ?_
      refine hr_icmp_ne 410 X (tL_at tL_holds_3_ok 25 rfl) (by decide) (fun c => absurd rfl c) (fun _ => ?_)
      refine hr_iconst (nI 1) X (tL_at tL_holds_3_ok 26 rfl) (by decide) ?_
      refine hr_goto 411 X (tL_at tL_holds_3_ok 27 rfl) (by decide) ?_
      refine hr_icmp_ne 521 X (tL_at tL_holds_3_ok 29 rfl) (by decide) (fun c => absurd rfl c) (fun _ => ?_)
      refine hr_iload X (tL_at tL_holds_3_ok 30 rfl) rfl ?_
      refine hr_iconst (nI 2) X (tL_at tL_holds_3_ok 31 rfl) (by decide) ?_
      refine hr_icmp_ne 424 X (tL_at tL_holds_3_ok 32 rfl) (by decide) (fun _ => ?_) (fun c => absurd c (by decide))
      refine hr_iconst (nI 0) X (tL_at tL_holds_3_ok 35 rfl) (by decide) ?_
      refine hr_aload_n X (tL_at tL_holds_3_ok 36 rfl) rfl (Or.inr ⟨_, rfl⟩) ?_
      refine hr_iload X (tL_at tL_holds_3_ok 37 rfl) rfl ?_
      refine hr_iload X (tL_at tL_holds_3_ok 38 rfl) rfl ?_
      have hmark : sp_rMark sg (12 * a + i) = -1 := if_neg (by rw [h13]; decide)
      refine hl_rq0 X kSL_mark (tL_at tL_holds_3_ok 39 rfl) (c_L_mark cA hI hJ hQ2 (nI i) (nI a)) (lf_w0 (lf_bT hI ha hi)) rfl rfl rfl (Nat.le_of_ble_eq_true rfl) (kr + 6) (sr + 36) ⟨⟨(Nat.le_of_ble_eq_true rfl), (Nat.le_of_ble_eq_true rfl)⟩, (show kr + 4 + 2 ≤ 2582 by omega), (show sr + 24 + 12 ≤ 15492 by omega)⟩ (show kr + 4 + 2 ≤ kr + 6 by omega) (show sr + 24 + 12 ≤ sr + 36 by omega) (fun M16 hQ16 => ?_)
      rw [eK, hmark]
      refine hr_if_lt 440 X (tL_at tL_holds_3_ok 40 rfl) (by decide) (fun _ => ?_) (fun c => absurd (by decide) c)
      refine hr_iconst (nI 0) X (tL_at tL_holds_3_ok 43 rfl) (by decide) ?_
      refine hr_icmp_ne 521 X (tL_at tL_holds_3_ok 44 rfl) (by decide) (fun c => absurd rfl c) (fun _ => ?_)
      refine hr_iload X (tL_at tL_holds_3_ok 45 rfl) rfl ?_
      refine hr_if_eq 455 X (tL_at tL_holds_3_ok 46 rfl) (by decide) (fun c => absurd c (by decide)) (fun _ => ?_)
      refine hr_iload X (tL_at tL_holds_3_ok 47 rfl) rfl ?_
      refine hr_iconst (nI 1) X (tL_at tL_holds_3_ok 48 rfl) (by decide) ?_
      refine hr_icmp_eq 521 X (tL_at tL_holds_3_ok 49 rfl) (by decide) (fun c => absurd c (by decide)) (fun _ => ?_)
      refine hr_iload X (tL_at tL_holds_3_ok 50 rfl) rfl ?_
      refine hr_if_ne 471 X (tL_at tL_holds_3_ok 51 rfl) (by decide) (fun _ => ?_) (fun c => absurd c (by decide))
      refine hr_iload X (tL_at tL_holds_3_ok 57 rfl) rfl ?_
      refine hr_iconst (nI 2) X (tL_at tL_holds_3_ok 58 rfl) (by decide) ?_
      refine hr_icmp_ne 495 X (tL_at tL_holds_3_ok 59 rfl) (by decide) (fun _ => ?_) (fun c => absurd c (by decide))
      refine hr_aload_n X (tL_at tL_holds_4_ok 8 rfl) rfl (Or.inr ⟨_, rfl⟩) ?_
      refine hr_iload X (tL_at tL_holds_4_ok 9 rfl) rfl ?_
      refine hr_iload X (tL_at tL_holds_4_ok 10 rfl) rfl ?_
      refine hl_rq0 X kSL_mark (tL_at tL_holds_4_ok 11 rfl) (c_L_mark cA hI hJ hQ16 (nI i) (nI a)) (lf_w0 (lf_bT hI ha hi)) rfl rfl rfl (Nat.le_of_ble_eq_true rfl) (kr + 8) (sr + 48) ⟨⟨(Nat.le_of_ble_eq_true rfl), (Nat.le_of_ble_eq_true rfl)⟩, (show kr + 6 + 2 ≤ 2582 by omega), (show sr + 36 + 12 ≤ 15492 by omega)⟩ (show kr + 6 + 2 ≤ kr + 8 by omega) (show sr + 36 + 12 ≤ sr + 48 by omega) (fun M17 hQ17 => ?_)
      rw [eK, hmark]
      refine hr_if_gt 517 X (tL_at tL_holds_4_ok 12 rfl) (by decide) (fun c => absurd c (by decide)) (fun _ => ?_)
      refine hr_aload_n X (tL_at tL_holds_4_ok 13 rfl) rfl (Or.inr ⟨_, rfl⟩) ?_
      refine hr_iload X (tL_at tL_holds_4_ok 14 rfl) rfl ?_
      refine hr_iload X (tL_at tL_holds_4_ok 15 rfl) rfl ?_
      refine hl_rq0 X kSL_prints (tL_at tL_holds_4_ok 16 rfl) (c_L_prints cA hI hJ hQ17 (nI i) (nI a)) (lf_w0 (lf_bT hI ha hi)) rfl rfl rfl (Nat.le_of_ble_eq_true rfl) (kr + 10) (sr + 60) ⟨⟨(Nat.le_of_ble_eq_true rfl), (Nat.le_of_ble_eq_true rfl)⟩, (show kr + 8 + 2 ≤ 2582 by omega), (show sr + 48 + 12 ≤ 15492 by omega)⟩ (show kr + 8 + 2 ≤ kr + 10 by omega) (show sr + 48 + 12 ≤ sr + 60 by omega) (fun M18 hQ18 => ?_)
      rw [eK, show sp_prs sg (12 * a + i) = [] from if_neg (fun q => absurd (h13.symm.trans q.1) (by decide))]
      refine hr_if_ne 521 X (tL_at tL_holds_4_ok 17 rfl) (by decide) (fun c => absurd rfl c) (fun _ => ?_)
      refine hr_iconst (nI 1) X (tL_at tL_holds_4_ok 18 rfl) (by decide) ?_
      refine hr_goto 522 X (tL_at tL_holds_4_ok 19 rfl) (by decide) ?_
      refine hr_istore X (tL_at tL_holds_4_ok 21 rfl) (Nat.le_of_ble_eq_true rfl) ?_
      refine hl_iinc X (tL_at tL_holds_4_ok 22 rfl) rfl ?_
      refine hr_goto 336 X (tL_at tL_holds_4_ok 23 rfl) (by decide) ?_
      refine hr_widen (k2 := kr + 14) (n2 := sr + 84) (by omega) (by omega) ?_
      refine hr_sub (L2 := [some (.ref b), some (.ref nr), some (.ref cr), some (.int (nI m)), some (.int (nI 1)), some (.int (nI a)), some (.int (nI P)), some (.int (vs)), some (.int (nI (i + 1))), none, none, none]) ⟨rfl, rfl, rfl, rfl, rfl, rfl, rfl, rfl, rfl, trivial⟩ ?_
      exact kk _ hQ18
    · exact absurd h13 hst1
    · rw [h13]
      refine hr_if_ne 399 X (tL_at tL_holds_3_ok 19 rfl) (by decide) (fun _ => ?_) (fun c => absurd c (by decide))
      obtain ⟨D, eD, hD⟩ := lk_due hI hk48 (by rw [h13]; decide)
      have hdue : sp_rDue sg (12 * a + i) = nI D := (if_neg (by rw [h13]; decide)).trans eD
      rw [hdue]
      refine hr_iconst (nI 0) X (tL_at tL_holds_3_ok 22 rfl) (by decide) ?_
      refine hr_iload X (tL_at tL_holds_3_ok 23 rfl) rfl ?_
      refine hr_iconst ((-1)) X (tL_at tL_holds_3_ok 24 rfl) (by decide) ?_
      refine hr_icmp_ne 410 X (tL_at tL_holds_3_ok 25 rfl) (by decide) (fun _ => ?_) (fun c => absurd c (nI_m1 (by omega)))
      refine hr_iconst (nI 0) X (tL_at tL_holds_3_ok 28 rfl) (by decide) ?_
      refine hr_icmp_ne 521 X (tL_at tL_holds_3_ok 29 rfl) (by decide) (fun c => absurd rfl c) (fun _ => ?_)
      refine hr_iload X (tL_at tL_holds_3_ok 30 rfl) rfl ?_
      refine hr_iconst (nI 2) X (tL_at tL_holds_3_ok 31 rfl) (by decide) ?_
      refine hr_icmp_ne 424 X (tL_at tL_holds_3_ok 32 rfl) (by decide) (fun c => absurd rfl c) (fun _ => ?_)
      refine hr_iconst (nI 1) X (tL_at tL_holds_3_ok 33 rfl) (by decide) ?_
      refine hr_goto 425 X (tL_at tL_holds_3_ok 34 rfl) (by decide) ?_
      refine hr_aload_n X (tL_at tL_holds_3_ok 36 rfl) rfl (Or.inr ⟨_, rfl⟩) ?_
      refine hr_iload X (tL_at tL_holds_3_ok 37 rfl) rfl ?_
      refine hr_iload X (tL_at tL_holds_3_ok 38 rfl) rfl ?_
      obtain ⟨hmk0, hmk⟩ := hK.2.1 _ hk48 h13
      obtain ⟨mk, hmk1, emk⟩ := nI_of (Int32.not_lt.mpr hmk0)
      have hmark : sp_rMark sg (12 * a + i) = nI mk := (if_pos h13).trans emk
      refine hl_rq0 X kSL_mark (tL_at tL_holds_3_ok 39 rfl) (c_L_mark cA hI hJ hQ2 (nI i) (nI a)) (lf_w0 (lf_bT hI ha hi)) rfl rfl rfl (Nat.le_of_ble_eq_true rfl) (kr + 6) (sr + 36) ⟨⟨(Nat.le_of_ble_eq_true rfl), (Nat.le_of_ble_eq_true rfl)⟩, (show kr + 4 + 2 ≤ 2582 by omega), (show sr + 24 + 12 ≤ 15492 by omega)⟩ (show kr + 4 + 2 ≤ kr + 6 by omega) (show sr + 24 + 12 ≤ sr + 36 by omega) (fun M19 hQ19 => ?_)
      rw [eK, hmark]
      refine hr_if_lt 440 X (tL_at tL_holds_3_ok 40 rfl) (by decide) (fun c => absurd c (nI_pos hmk1)) (fun _ => ?_)
      refine hr_iconst (nI 1) X (tL_at tL_holds_3_ok 41 rfl) (by decide) ?_
      refine hr_goto 441 X (tL_at tL_holds_3_ok 42 rfl) (by decide) ?_
      refine hr_icmp_ne 521 X (tL_at tL_holds_3_ok 44 rfl) (by decide) (fun c => absurd rfl c) (fun _ => ?_)
      refine hr_iload X (tL_at tL_holds_3_ok 45 rfl) rfl ?_
      refine hr_if_eq 455 X (tL_at tL_holds_3_ok 46 rfl) (by decide) (fun c => absurd c (by decide)) (fun _ => ?_)
      refine hr_iload X (tL_at tL_holds_3_ok 47 rfl) rfl ?_
      refine hr_iconst (nI 1) X (tL_at tL_holds_3_ok 48 rfl) (by decide) ?_
      refine hr_icmp_eq 521 X (tL_at tL_holds_3_ok 49 rfl) (by decide) (fun c => absurd c (by decide)) (fun _ => ?_)
      refine hr_iload X (tL_at tL_holds_3_ok 50 rfl) rfl ?_
      refine hr_if_ne 471 X (tL_at tL_holds_3_ok 51 rfl) (by decide) (fun _ => ?_) (fun c => absurd c (by decide))
      refine hr_iload X (tL_at tL_holds_3_ok 57 rfl) rfl ?_
      refine hr_iconst (nI 2) X (tL_at tL_holds_3_ok 58 rfl) (by decide) ?_
      refine hr_icmp_ne 495 X (tL_at tL_holds_3_ok 59 rfl) (by decide) (fun c => absurd rfl c) (fun _ => ?_)
      refine hr_iload X (tL_at tL_holds_4_ok 0 rfl) rfl ?_
      refine hr_if_ne 495 X (tL_at tL_holds_4_ok 1 rfl) (by decide) (fun _ => ?_) (fun c => absurd c (by decide))
      refine hr_aload_n X (tL_at tL_holds_4_ok 8 rfl) rfl (Or.inr ⟨_, rfl⟩) ?_
      refine hr_iload X (tL_at tL_holds_4_ok 9 rfl) rfl ?_
      refine hr_iload X (tL_at tL_holds_4_ok 10 rfl) rfl ?_
      refine hl_rq0 X kSL_mark (tL_at tL_holds_4_ok 11 rfl) (c_L_mark cA hI hJ hQ19 (nI i) (nI a)) (lf_w0 (lf_bT hI ha hi)) rfl rfl rfl (Nat.le_of_ble_eq_true rfl) (kr + 8) (sr + 48) ⟨⟨(Nat.le_of_ble_eq_true rfl), (Nat.le_of_ble_eq_true rfl)⟩, (show kr + 6 + 2 ≤ 2582 by omega), (show sr + 36 + 12 ≤ 15492 by omega)⟩ (show kr + 6 + 2 ≤ kr + 8 by omega) (show sr + 36 + 12 ≤ sr + 48 by omega) (fun M20 hQ20 => ?_)
      rw [eK, hmark]
      refine hr_if_gt 517 X (tL_at tL_holds_4_ok 12 rfl) (by decide) (fun c => ?_) (fun c => ?_)
      · refine hr_iconst (nI 1) X (tL_at tL_holds_4_ok 18 rfl) (by decide) ?_
        refine hr_goto 522 X (tL_at tL_holds_4_ok 19 rfl) (by decide) ?_
        refine hr_istore X (tL_at tL_holds_4_ok 21 rfl) (Nat.le_of_ble_eq_true rfl) ?_
        refine hl_iinc X (tL_at tL_holds_4_ok 22 rfl) rfl ?_
        refine hr_goto 336 X (tL_at tL_holds_4_ok 23 rfl) (by decide) ?_
        refine hr_widen (k2 := kr + 14) (n2 := sr + 84) (by omega) (by omega) ?_
        refine hr_sub (L2 := [some (.ref b), some (.ref nr), some (.ref cr), some (.int (nI m)), some (.int (nI 1)), some (.int (nI a)), some (.int (nI P)), some (.int (vs)), some (.int (nI (i + 1))), none, none, none]) ⟨rfl, rfl, rfl, rfl, rfl, rfl, rfl, rfl, rfl, trivial⟩ ?_
        exact kk _ hQ20
      · refine hr_aload_n X (tL_at tL_holds_4_ok 13 rfl) rfl (Or.inr ⟨_, rfl⟩) ?_
        refine hr_iload X (tL_at tL_holds_4_ok 14 rfl) rfl ?_
        refine hr_iload X (tL_at tL_holds_4_ok 15 rfl) rfl ?_
        refine hl_rq0 X kSL_prints (tL_at tL_holds_4_ok 16 rfl) (c_L_prints cA hI hJ hQ20 (nI i) (nI a)) (lf_w0 (lf_bT hI ha hi)) rfl rfl rfl (Nat.le_of_ble_eq_true rfl) (kr + 10) (sr + 60) ⟨⟨(Nat.le_of_ble_eq_true rfl), (Nat.le_of_ble_eq_true rfl)⟩, (show kr + 8 + 2 ≤ 2582 by omega), (show sr + 48 + 12 ≤ 15492 by omega)⟩ (show kr + 8 + 2 ≤ kr + 10 by omega) (show sr + 48 + 12 ≤ sr + 60 by omega) (fun M21 hQ21 => ?_)
        rw [eK, show sp_prs sg (12 * a + i) = [] from if_neg (fun q => c (by rw [← emk]; exact q.2))]
        refine hr_if_ne 521 X (tL_at tL_holds_4_ok 17 rfl) (by decide) (fun c => absurd rfl c) (fun _ => ?_)
        refine hr_iconst (nI 1) X (tL_at tL_holds_4_ok 18 rfl) (by decide) ?_
        refine hr_goto 522 X (tL_at tL_holds_4_ok 19 rfl) (by decide) ?_
        refine hr_istore X (tL_at tL_holds_4_ok 21 rfl) (Nat.le_of_ble_eq_true rfl) ?_
        refine hl_iinc X (tL_at tL_holds_4_ok 22 rfl) rfl ?_
        refine hr_goto 336 X (tL_at tL_holds_4_ok 23 rfl) (by decide) ?_
        refine hr_widen (k2 := kr + 14) (n2 := sr + 84) (by omega) (by omega) ?_
        refine hr_sub (L2 := [some (.ref b), some (.ref nr), some (.ref cr), some (.int (nI m)), some (.int (nI 1)), some (.int (nI a)), some (.int (nI P)), some (.int (vs)), some (.int (nI (i + 1))), none, none, none]) ⟨rfl, rfl, rfl, rfl, rfl, rfl, rfl, rfl, rfl, trivial⟩ ?_
        exact kk _ hQ21
set_option maxHeartbeats 4000000 in
set_option maxRecDepth 100000 in
theorem w_HQ {C : hm_C} {nm : String} {Q : State → Prop} {cA : Nat → ClassId} {sg : mm_S} {N M : hm_M} {b nr cr m a : Nat}  {i P : Nat} {vs : Int32} (X : hm_X C RL cL_holds 12 (some .boolean) nm r_L_holds cA) (hI : sp_I sg) (hJ : sp_J sg) (hK : sp_K sg) (hm : m < 2 ^ 31) (hQ : ls_Q cA N b sg M) (ha : a < sp_n sg) (ha2 : a < 2) {kr sr : Nat} (hkr : kr + 12 ≤ 2582) (hsr : sr + 72 ≤ 15492) (hi : i < P) (hP : lf_pn sg a 144 = P) (kk : ∀ M9 : hm_M, ls_Q cA N b sg M9 → hm_W C (kr + 12) (sr + 72) Q M9 533 [some (.ref b), some (.ref nr), some (.ref cr), some (.int (nI m)), some (.int (nI 1)), some (.int (nI a)), some (.int (nI P)), some (.int (vs)), some (.int (nI (i + 1))), none, none, none] []) : hm_W C kr sr Q M 533 [some (.ref b), some (.ref nr), some (.ref cr), some (.int (nI m)), some (.int (nI 1)), some (.int (nI a)), some (.int (nI P)), some (.int (vs)), some (.int (nI i)), none, none, none] [] := by
  have ha4 : a < 4 := by omega
  have hP66 := lf_pn_66 sg a
  obtain ⟨j, hj, hjp, hje⟩ := lh_pair (sg := sg) a (p := i) 144 (Nat.le_refl _) (by omega)
  have hR := lh_paR hI ha hj hjp hje
  obtain ⟨hlt, hlk⟩ := lh_pk ha4 hj hjp
  obtain ⟨d, r, hd, hr⟩ : ∃ d r, d = j / 12 ∧ r = j % 12 := ⟨_, _, rfl, rfl⟩
  have hpr := lh_pk1 hI ha4 hj hjp
  rw [← hd, ← hr] at hR hlt hlk
  rw [← hd] at hpr
  have hr12 : r < 12 := by omega
  have hd12 : d < 12 := by omega
  have e1 : (100 * d + r) / 100 = d := by omega
  have e2 : (100 * d + r) % 100 = r := by omega
  refine hr_iload X (tL_at tL_holds_4_ok 26 rfl) rfl ?_
  refine hr_iload X (tL_at tL_holds_4_ok 27 rfl) rfl ?_
  refine hr_icmp_ge 658 X (tL_at tL_holds_4_ok 28 rfl) (by decide) (fun c => absurd c (nI_ge hi (by omega))) (fun _ => ?_)
  refine hr_iload X (tL_at tL_holds_4_ok 29 rfl) rfl ?_
  refine hr_if_eq 658 X (tL_at tL_holds_4_ok 30 rfl) (by decide) (fun c => absurd c (by decide)) (fun _ => ?_)
  refine hr_aload_n X (tL_at tL_holds_4_ok 31 rfl) rfl (Or.inr ⟨_, rfl⟩) ?_
  refine hr_iload X (tL_at tL_holds_4_ok 32 rfl) rfl ?_
  refine hr_iload X (tL_at tL_holds_4_ok 33 rfl) rfl ?_
  refine hl_rq0 X kSL_pairAt (tL_at tL_holds_4_ok 34 rfl) (c_L_pairAt cA hI hJ hQ (nI a) (nI i)) (lh_pat (by rw [hR, hd, hr]) hj) rfl rfl rfl (Nat.le_of_ble_eq_true rfl) (kr + 2) (sr + 12) ⟨⟨(Nat.le_of_ble_eq_true rfl), (Nat.le_of_ble_eq_true rfl)⟩, (show kr + 0 + 2 ≤ 2582 by omega), (show sr + 0 + 12 ≤ 15492 by omega)⟩ (show kr + 0 + 2 ≤ kr + 2 by omega) (show sr + 0 + 12 ≤ sr + 12 by omega) (fun M1 hQ1 => ?_)
  rw [hR]
  refine hr_istore X (tL_at tL_holds_4_ok 35 rfl) (Nat.le_of_ble_eq_true rfl) ?_
  refine hr_iload X (tL_at tL_holds_4_ok 36 rfl) rfl ?_
  refine hr_bipush (nI 100) X (tL_at tL_holds_4_ok 37 rfl) (by decide) ?_
  refine hl_idiv X (tL_at tL_holds_4_ok 38 rfl) (by omega) (by decide) (by decide) ?_
  rw [e1]
  refine hr_iload X (tL_at tL_holds_4_ok 39 rfl) rfl ?_
  refine hr_bipush (nI 100) X (tL_at tL_holds_4_ok 40 rfl) (by decide) ?_
  refine hl_irem X (tL_at tL_holds_4_ok 41 rfl) (by omega) (by decide) (by decide) ?_
  rw [e2]
  refine hr_icmp_ge 649 X (tL_at tL_holds_4_ok 42 rfl) (by decide) (fun c => absurd c (nI_ge hlt (by omega))) (fun _ => ?_)
  refine hr_aload_n X (tL_at tL_holds_4_ok 43 rfl) rfl (Or.inr ⟨_, rfl⟩) ?_
  refine hr_iload X (tL_at tL_holds_4_ok 44 rfl) rfl ?_
  refine hr_iload X (tL_at tL_holds_4_ok 45 rfl) rfl ?_
  refine hr_bipush (nI 100) X (tL_at tL_holds_4_ok 46 rfl) (by decide) ?_
  refine hl_idiv X (tL_at tL_holds_4_ok 47 rfl) (by omega) (by decide) (by decide) ?_
  rw [e1]
  refine hr_iload X (tL_at tL_holds_4_ok 48 rfl) rfl ?_
  refine hr_bipush (nI 100) X (tL_at tL_holds_4_ok 49 rfl) (by decide) ?_
  refine hl_irem X (tL_at tL_holds_4_ok 50 rfl) (by omega) (by decide) (by decide) ?_
  rw [e2]
  refine hl_rq0 X kSL_likeness (tL_at tL_holds_4_ok 51 rfl) (c_L_likeness cA hI hJ hQ1 (nI a) (nI d) (nI r)) (lf_w0 (lh_lkT hI ha hd12 hr12)) rfl rfl rfl (Nat.le_of_ble_eq_true rfl) (kr + 5) (sr + 30) ⟨⟨(Nat.le_of_ble_eq_true rfl), (Nat.le_of_ble_eq_true rfl)⟩, (show kr + 2 + 3 ≤ 2582 by omega), (show sr + 12 + 18 ≤ 15492 by omega)⟩ (show kr + 2 + 3 ≤ kr + 5 by omega) (show sr + 12 + 18 ≤ sr + 30 by omega) (fun M2 hQ2 => ?_)
  refine hr_bipush (nI 60) X (tL_at tL_holds_4_ok 52 rfl) (by decide) ?_
  refine hr_icmp_lt 649 X (tL_at tL_holds_4_ok 53 rfl) (by decide) (fun c => absurd c hlk) (fun _ => ?_)
  refine hr_aload_n X (tL_at tL_holds_4_ok 54 rfl) rfl (Or.inr ⟨_, rfl⟩) ?_
  refine hr_iload X (tL_at tL_holds_4_ok 55 rfl) rfl ?_
  refine hr_iload X (tL_at tL_holds_4_ok 56 rfl) rfl ?_
  refine hr_bipush (nI 100) X (tL_at tL_holds_4_ok 57 rfl) (by decide) ?_
  refine hl_irem X (tL_at tL_holds_4_ok 58 rfl) (by omega) (by decide) (by decide) ?_
  rw [e2]
  refine hr_iload X (tL_at tL_holds_4_ok 59 rfl) rfl ?_
  refine hr_bipush (nI 100) X (tL_at tL_holds_5_ok 0 rfl) (by decide) ?_
  refine hl_idiv X (tL_at tL_holds_5_ok 1 rfl) (by omega) (by decide) (by decide) ?_
  rw [e1]
  refine hl_rq0 X kSL_likeness (tL_at tL_holds_5_ok 2 rfl) (c_L_likeness cA hI hJ hQ2 (nI a) (nI r) (nI d)) (lf_w0 (lh_lkT hI ha hr12 hd12)) rfl rfl rfl (Nat.le_of_ble_eq_true rfl) (kr + 8) (sr + 48) ⟨⟨(Nat.le_of_ble_eq_true rfl), (Nat.le_of_ble_eq_true rfl)⟩, (show kr + 5 + 3 ≤ 2582 by omega), (show sr + 30 + 18 ≤ 15492 by omega)⟩ (show kr + 5 + 3 ≤ kr + 8 by omega) (show sr + 30 + 18 ≤ sr + 48 by omega) (fun M3 hQ3 => ?_)
  refine hr_bipush (nI 60) X (tL_at tL_holds_5_ok 3 rfl) (by decide) ?_
  refine hr_icmp_lt 649 X (tL_at tL_holds_5_ok 4 rfl) (by decide) (fun c => absurd c (by rw [lh_like]; exact hlk)) (fun _ => ?_)
  refine hr_aload_n X (tL_at tL_holds_5_ok 5 rfl) rfl (Or.inr ⟨_, rfl⟩) ?_
  refine hr_iload X (tL_at tL_holds_5_ok 6 rfl) rfl ?_
  refine hr_bipush (nI 100) X (tL_at tL_holds_5_ok 7 rfl) (by decide) ?_
  refine hl_idiv X (tL_at tL_holds_5_ok 8 rfl) (by omega) (by decide) (by decide) ?_
  rw [e1]
  refine hr_iload X (tL_at tL_holds_5_ok 9 rfl) rfl ?_
  refine hl_rq0 X kSL_prints (tL_at tL_holds_5_ok 10 rfl) (c_L_prints cA hI hJ hQ3 (nI d) (nI a)) (lf_w0 (lf_bT hI ha hd12)) rfl rfl rfl (Nat.le_of_ble_eq_true rfl) (kr + 10) (sr + 60) ⟨⟨(Nat.le_of_ble_eq_true rfl), (Nat.le_of_ble_eq_true rfl)⟩, (show kr + 8 + 2 ≤ 2582 by omega), (show sr + 48 + 12 ≤ 15492 by omega)⟩ (show kr + 8 + 2 ≤ kr + 10 by omega) (show sr + 48 + 12 ≤ sr + 60 by omega) (fun M4 hQ4 => ?_)
  refine hr_iconst (nI 1) X (tL_at tL_holds_5_ok 11 rfl) (by decide) ?_
  refine hr_icmp_le 649 X (tL_at tL_holds_5_ok 12 rfl) (by decide) (fun c => absurd c hpr) (fun _ => ?_)
  refine hr_iload X (tL_at tL_holds_5_ok 13 rfl) rfl ?_
  refine hr_if_eq 645 X (tL_at tL_holds_5_ok 14 rfl) (by decide) (fun c => ?_) (fun c => ?_)
  · refine hr_iconst (nI 1) X (tL_at tL_holds_5_ok 23 rfl) (by decide) ?_
    refine hr_goto 650 X (tL_at tL_holds_5_ok 24 rfl) (by decide) ?_
    refine hr_istore X (tL_at tL_holds_5_ok 26 rfl) (Nat.le_of_ble_eq_true rfl) ?_
    refine hl_iinc X (tL_at tL_holds_5_ok 27 rfl) rfl ?_
    refine hr_goto 533 X (tL_at tL_holds_5_ok 28 rfl) (by decide) ?_
    refine hr_widen (k2 := kr + 12) (n2 := sr + 72) (by omega) (by omega) ?_
    refine hr_sub (L2 := [some (.ref b), some (.ref nr), some (.ref cr), some (.int (nI m)), some (.int (nI 1)), some (.int (nI a)), some (.int (nI P)), some (.int (vs)), some (.int (nI (i + 1))), none, none, none]) ⟨rfl, rfl, rfl, rfl, rfl, rfl, rfl, rfl, rfl, trivial⟩ ?_
    exact kk _ hQ4
  · have hi0 : 1 ≤ i := by
      rcases Nat.eq_zero_or_pos i with q | q
      · exact absurd (by rw [q]; rfl) c
      · exact q
    obtain ⟨j2, hj2, hjp2, hje2⟩ := lh_pair (sg := sg) a (p := i - 1) 144 (Nat.le_refl _) (by omega)
    have hR2 := lh_paR hI ha hj2 hjp2 hje2
    have hlt2 := lh_asc (sg := sg) a (j := j) (j' := j2) (by omega)
    refine hr_aload_n X (tL_at tL_holds_5_ok 15 rfl) rfl (Or.inr ⟨_, rfl⟩) ?_
    refine hr_iload X (tL_at tL_holds_5_ok 16 rfl) rfl ?_
    refine hr_iload X (tL_at tL_holds_5_ok 17 rfl) rfl ?_
    refine hr_iconst (nI 1) X (tL_at tL_holds_5_ok 18 rfl) (by decide) ?_
    refine hr_isub X (tL_at tL_holds_5_ok 19 rfl) ?_
    rw [nI_sub hi0]
    refine hl_rq0 X kSL_pairAt (tL_at tL_holds_5_ok 20 rfl) (c_L_pairAt cA hI hJ hQ4 (nI a) (nI (i - 1))) (lh_pat hR2 hj2) rfl rfl rfl (Nat.le_of_ble_eq_true rfl) (kr + 12) (sr + 72) ⟨⟨(Nat.le_of_ble_eq_true rfl), (Nat.le_of_ble_eq_true rfl)⟩, (show kr + 10 + 2 ≤ 2582 by omega), (show sr + 60 + 12 ≤ 15492 by omega)⟩ (show kr + 10 + 2 ≤ kr + 12 by omega) (show sr + 60 + 12 ≤ sr + 72 by omega) (fun M5 hQ5 => ?_)
    rw [hR2]
    refine hr_iload X (tL_at tL_holds_5_ok 21 rfl) rfl ?_
    refine hr_icmp_ge 649 X (tL_at tL_holds_5_ok 22 rfl) (by decide) (fun c => absurd c (nI_ge (by omega) (by omega))) (fun _ => ?_)
    refine hr_iconst (nI 1) X (tL_at tL_holds_5_ok 23 rfl) (by decide) ?_
    refine hr_goto 650 X (tL_at tL_holds_5_ok 24 rfl) (by decide) ?_
    refine hr_istore X (tL_at tL_holds_5_ok 26 rfl) (Nat.le_of_ble_eq_true rfl) ?_
    refine hl_iinc X (tL_at tL_holds_5_ok 27 rfl) rfl ?_
    refine hr_goto 533 X (tL_at tL_holds_5_ok 28 rfl) (by decide) ?_
    refine hr_widen (k2 := kr + 12) (n2 := sr + 72) (by omega) (by omega) ?_
    refine hr_sub (L2 := [some (.ref b), some (.ref nr), some (.ref cr), some (.int (nI m)), some (.int (nI 1)), some (.int (nI a)), some (.int (nI P)), some (.int (vs)), some (.int (nI (i + 1))), none, none, none]) ⟨rfl, rfl, rfl, rfl, rfl, rfl, rfl, rfl, rfl, trivial⟩ ?_
    exact kk _ hQ5
set_option maxHeartbeats 4000000 in
set_option maxRecDepth 100000 in
theorem w_HS {C : hm_C} {nm : String} {Q : State → Prop} {cA : Nat → ClassId} {sg : mm_S} {N M : hm_M} {b nr cr m a : Nat} {fn fc : Nat → Int32} (X : hm_X C RL cL_holds 12 (some .boolean) nm r_L_holds cA) (hI : sp_I sg) (hJ : sp_J sg) (hK : sp_K sg) (hm : m < 2 ^ 31) (hQ : ls_Q cA N b sg M) {kr sr : Nat} (hkr : kr + 1285 ≤ 2582) (hsr : sr + 7710 ≤ 15492) (ha2 : a < 2) (e1 : ∀ a, a < 2 → sg 5 a = fn a) (hnr : N nr = some (cr_iw cA 0 2 fn)) (hcr : N cr = some (cr_iw cA 0 2 fc)) (e2 : ∀ a g, a < 2 → g < 4 → (fc a >>> (nI g &&& 31)) &&& nI 1 = sg 11 (4 * a + g)) (kk : ∀ M9 : hm_M, ls_Q cA N b sg M9 → hm_W C (kr + 1285) (sr + 7710) Q M9 57 [some (.ref b), some (.ref nr), some (.ref cr), some (.int (nI m)), some (.int (nI 1)), some (.int (nI (a + 1))), none, none, none, none, none, none] []) : hm_W C kr sr Q M 57 [some (.ref b), some (.ref nr), some (.ref cr), some (.int (nI m)), some (.int (nI 1)), some (.int (nI a)), none, none, none, none, none, none] [] := by
  have ha : a < sp_n sg := by rw [hK.1]; exact ha2
  have eA : nN (nI a) = a := nI_clamp (by omega)
  obtain ⟨nn, n1, n2, h5, -⟩ := hI.i2 a ha
  have hP66 := lf_pn_66 sg a
  refine hr_iload X (tL_at tL_holds_0_ok 28 rfl) rfl ?_
  refine hr_iconst (nI 2) X (tL_at tL_holds_0_ok 29 rfl) (by decide) ?_
  refine hr_icmp_ge 664 X (tL_at tL_holds_0_ok 30 rfl) (by decide) (fun c => absurd c (nI_ge ha2 (by decide))) (fun _ => ?_)
  refine hr_iload X (tL_at tL_holds_0_ok 31 rfl) rfl ?_
  refine hr_if_eq 664 X (tL_at tL_holds_0_ok 32 rfl) (by decide) (fun c => absurd c (by decide)) (fun _ => ?_)
  refine hr_aload_n X (tL_at tL_holds_0_ok 33 rfl) rfl (Or.inr ⟨_, rfl⟩) ?_
  refine hr_iload X (tL_at tL_holds_0_ok 34 rfl) rfl ?_
  refine hl_rq0 X kSL_pairs (tL_at tL_holds_0_ok 35 rfl) (c_L_pairs cA hI hJ hQ (nI a)) (lf_w0 (sp_nat_isS hI ha)) rfl rfl rfl (Nat.le_of_ble_eq_true rfl) (kr + 1) (sr + 6) ⟨⟨(Nat.le_of_ble_eq_true rfl), (Nat.le_of_ble_eq_true rfl)⟩, (show kr + 0 + 1 ≤ 2582 by omega), (show sr + 0 + 6 ≤ 15492 by omega)⟩ (show kr + 0 + 1 ≤ kr + 1 by omega) (show sr + 0 + 6 ≤ sr + 6 by omega) (fun M1 hQ1 => ?_)
  rw [eA, lf_prN]
  refine hr_istore X (tL_at tL_holds_0_ok 36 rfl) (Nat.le_of_ble_eq_true rfl) ?_
  refine hr_iconst (nI 0) X (tL_at tL_holds_0_ok 37 rfl) (by decide) ?_
  refine hr_istore X (tL_at tL_holds_0_ok 38 rfl) (Nat.le_of_ble_eq_true rfl) ?_
  refine hr_iload X (tL_at tL_holds_0_ok 39 rfl) rfl ?_
  refine hr_aload_n X (tL_at tL_holds_0_ok 40 rfl) rfl (Or.inr ⟨_, rfl⟩) ?_
  refine hr_iload X (tL_at tL_holds_0_ok 41 rfl) rfl ?_
  refine hl_rq0 X kSL_anew (tL_at tL_holds_0_ok 42 rfl) (c_L_anew cA hI hJ hQ1 (nI a)) (lf_w0 (sp_nat_isS hI ha)) rfl rfl rfl (Nat.le_of_ble_eq_true rfl) (kr + 2) (sr + 12) ⟨⟨(Nat.le_of_ble_eq_true rfl), (Nat.le_of_ble_eq_true rfl)⟩, (show kr + 1 + 1 ≤ 2582 by omega), (show sr + 6 + 6 ≤ 15492 by omega)⟩ (show kr + 1 + 1 ≤ kr + 2 by omega) (show sr + 6 + 6 ≤ sr + 12 by omega) (fun M2 hQ2 => ?_)
  rw [eA, lf_prN]
  refine hr_icmp_ne 107 X (tL_at tL_holds_0_ok 43 rfl) (by decide) (fun c => absurd rfl c) (fun _ => ?_)
  refine hr_aload_n X (tL_at tL_holds_0_ok 44 rfl) rfl (Or.inr ⟨_, rfl⟩) ?_
  refine hr_iload X (tL_at tL_holds_0_ok 45 rfl) rfl ?_
  refine hr_iload X (tL_at tL_holds_0_ok 46 rfl) rfl ?_
  refine hl_rq1 X kSL_pairAt (tL_at tL_holds_0_ok 47 rfl) (c_L_pairAt cA hI hJ hQ2 (nI a) (nI (lf_pn sg a 144))) (lf_pat (lf_pa_out hI ha (by omega) (Nat.le_refl _))) rfl rfl rfl (Nat.le_of_ble_eq_true rfl) (kr + 4) (sr + 24) ⟨⟨(Nat.le_of_ble_eq_true rfl), (Nat.le_of_ble_eq_true rfl)⟩, (show kr + 2 + 2 ≤ 2582 by omega), (show sr + 12 + 12 ≤ 15492 by omega)⟩ (show kr + 2 + 2 ≤ kr + 4 by omega) (show sr + 12 + 12 ≤ sr + 24 by omega) (fun M3 hQ3 => ?_)
  refine hr_ldc lNI X (tL_at tL_holds_0_ok 48 rfl) kKL_22 ?_
  refine hr_icmp_ne 107 X (tL_at tL_holds_0_ok 49 rfl) (by decide) (fun c => absurd rfl c) (fun _ => ?_)
  refine hr_iconst (nI 1) X (tL_at tL_holds_0_ok 50 rfl) (by decide) ?_
  refine hr_goto 108 X (tL_at tL_holds_0_ok 51 rfl) (by decide) ?_
  refine hr_istore X (tL_at tL_holds_0_ok 53 rfl) (Nat.le_of_ble_eq_true rfl) ?_
  refine hr_iconst (nI 0) X (tL_at tL_holds_0_ok 54 rfl) (by decide) ?_
  refine hr_istore X (tL_at tL_holds_0_ok 55 rfl) (Nat.le_of_ble_eq_true rfl) ?_
  refine hr_sub (L2 := [some (.ref b), some (.ref nr), some (.ref cr), some (.int (nI m)), some (.int (nI 1)), some (.int (nI a)), some (.int (nI (lf_pn sg a 144))), some (.int (nI 0)), some (.int (nI 0)), none, none, none]) ⟨rfl, rfl, rfl, rfl, rfl, rfl, rfl, rfl, rfl, trivial⟩ ?_
  refine hl_for (L := fun i => [some (.ref b), some (.ref nr), some (.ref cr), some (.int (nI m)), some (.int (nI 1)), some (.int (nI a)), some (.int (nI (lf_pn sg a 144))), some (.int (sp_is (fun v => if sg 2 (16 * a + v) = 0 then (0 : Int32) else 1) i)), some (.int (nI i)), none, none, none]) (I := fun _ M9 => ls_Q cA N b sg M9) nn 20 120 (kr + 4) (sr + 24) (fun i M9 kr9 sr9 hi h9 hk9 hs9 kk9 => w_HV X hI hJ hK hm h9 ha ha2 (by omega) (by omega) hi n2 h5 (e1 a ha2) hnr (fun M8 h8 => kk9 M8 h8)) (fun M9 h9 => ?_) hQ3
  refine hr_widen (k2 := kr + 324) (n2 := sr + 1944) (by omega) (by omega) ?_
  refine hr_iload X (tL_at tL_holds_0_ok 56 rfl) rfl ?_
  refine hr_aload_n X (tL_at tL_holds_0_ok 57 rfl) rfl (Or.inr ⟨_, rfl⟩) ?_
  refine hr_iload X (tL_at tL_holds_0_ok 58 rfl) rfl ?_
  refine hl_iald X (tL_at tL_holds_0_ok 59 rfl) (ls_at h9 hnr) ha2 (by decide) ?_
  rw [← e1 a ha2, h5]
  refine hr_icmp_ge 310 X (tL_at tL_holds_1_ok 0 rfl) (by decide) (fun _ => ?_) (fun c => absurd (Int32.le_refl _) c)
  rw [lh_vers hI ha h5 n2]
  refine hr_iload X (tL_at tL_holds_2_ok 35 rfl) rfl ?_
  refine hr_if_eq 330 X (tL_at tL_holds_2_ok 36 rfl) (by decide) (fun c => absurd c (by decide)) (fun _ => ?_)
  refine hr_iload X (tL_at tL_holds_2_ok 37 rfl) rfl ?_
  refine hr_aload_n X (tL_at tL_holds_2_ok 38 rfl) rfl (Or.inr ⟨_, rfl⟩) ?_
  refine hr_iload X (tL_at tL_holds_2_ok 39 rfl) rfl ?_
  refine hl_rq0 X kSL_versions (tL_at tL_holds_2_ok 40 rfl) (c_L_versions cA hI hJ h9 (nI a)) (lf_w0 (sp_nat_isS hI ha)) rfl rfl rfl (Nat.le_of_ble_eq_true rfl) (kr + 325) (sr + 1950) ⟨⟨(Nat.le_of_ble_eq_true rfl), (Nat.le_of_ble_eq_true rfl)⟩, (show kr + 324 + 1 ≤ 2582 by omega), (show sr + 1944 + 6 ≤ 15492 by omega)⟩ (show kr + 324 + 1 ≤ kr + 325 by omega) (show sr + 1944 + 6 ≤ sr + 1950 by omega) (fun M4 hQ4 => ?_)
  rw [eA]
  refine hr_icmp_ne 330 X (tL_at tL_holds_2_ok 41 rfl) (by decide) (fun c => absurd rfl c) (fun _ => ?_)
  refine hr_iconst (nI 1) X (tL_at tL_holds_2_ok 42 rfl) (by decide) ?_
  refine hr_goto 331 X (tL_at tL_holds_2_ok 43 rfl) (by decide) ?_
  refine hr_istore X (tL_at tL_holds_2_ok 45 rfl) (Nat.le_of_ble_eq_true rfl) ?_
  refine hr_iconst (nI 0) X (tL_at tL_holds_2_ok 46 rfl) (by decide) ?_
  refine hr_istore X (tL_at tL_holds_2_ok 47 rfl) (Nat.le_of_ble_eq_true rfl) ?_
  refine hl_for (L := fun i => [some (.ref b), some (.ref nr), some (.ref cr), some (.int (nI m)), some (.int (nI 1)), some (.int (nI a)), some (.int (nI (lf_pn sg a 144))), some (.int (sp_vers sg a)), some (.int (nI i)), none, none, none]) (I := fun _ M9 => ls_Q cA N b sg M9) 12 14 84 (kr + 325) (sr + 1950) (fun i M9 kr9 sr9 hi h9 hk9 hs9 kk9 => w_HP X hI hJ hK hm h9 ha ha2 (by omega) (by omega) hi hcr e2 (fun M8 h8 => kk9 M8 h8)) (fun M9 h9 => ?_) hQ4
  refine hr_widen (k2 := kr + 493) (n2 := sr + 2958) (by omega) (by omega) ?_
  refine hr_iload X (tL_at tL_holds_2_ok 48 rfl) rfl ?_
  refine hr_bipush (nI 12) X (tL_at tL_holds_2_ok 49 rfl) (by decide) ?_
  refine hr_icmp_ge 530 X (tL_at tL_holds_2_ok 50 rfl) (by decide) (fun _ => ?_) (fun c => absurd (Int32.le_refl _) c)
  refine hr_iconst (nI 0) X (tL_at tL_holds_4_ok 24 rfl) (by decide) ?_
  refine hr_istore X (tL_at tL_holds_4_ok 25 rfl) (Nat.le_of_ble_eq_true rfl) ?_
  refine hl_for (L := fun i => [some (.ref b), some (.ref nr), some (.ref cr), some (.int (nI m)), some (.int (nI 1)), some (.int (nI a)), some (.int (nI (lf_pn sg a 144))), some (.int (sp_vers sg a)), some (.int (nI i)), none, none, none]) (I := fun _ M9 => ls_Q cA N b sg M9) (lf_pn sg a 144) 12 72 (kr + 493) (sr + 2958) (fun i M9 kr9 sr9 hi h9 hk9 hs9 kk9 => w_HQ X hI hJ hK hm h9 ha ha2 (by omega) (by omega) hi rfl (fun M8 h8 => kk9 M8 h8)) (fun M9 h9 => ?_) h9
  refine hr_widen (k2 := kr + 1285) (n2 := sr + 7710) (by omega) (by omega) ?_
  refine hr_iload X (tL_at tL_holds_4_ok 26 rfl) rfl ?_
  refine hr_iload X (tL_at tL_holds_4_ok 27 rfl) rfl ?_
  refine hr_icmp_ge 658 X (tL_at tL_holds_4_ok 28 rfl) (by decide) (fun _ => ?_) (fun c => absurd (Int32.le_refl _) c)
  refine hl_iinc X (tL_at tL_holds_5_ok 29 rfl) rfl ?_
  refine hr_goto 57 X (tL_at tL_holds_5_ok 30 rfl) (by decide) ?_
  refine hr_widen (k2 := kr + 1285) (n2 := sr + 7710) (by omega) (by omega) ?_
  refine hr_sub (L2 := [some (.ref b), some (.ref nr), some (.ref cr), some (.int (nI m)), some (.int (nI 1)), some (.int (nI (a + 1))), none, none, none, none, none, none]) ⟨rfl, rfl, rfl, rfl, rfl, rfl, trivial⟩ ?_
  exact kk _ h9
set_option maxHeartbeats 4000000 in
set_option maxRecDepth 100000 in
theorem c_L_holds (cA : Nat → ClassId) {sg : mm_S} {N M : hm_M} {b nr cr m : Nat} {fn fc : Nat → Int32} (hI : sp_I sg) (hJ : sp_J sg) (hK : sp_K sg) (hm : m < 2 ^ 31) (hQ : ls_Q cA N b sg M) (e1 : ∀ a, a < 2 → sg 5 a = fn a) (hnr : N nr = some (cr_iw cA 0 2 fn)) (hcr : N cr = some (cr_iw cA 0 2 fc)) (e2 : ∀ a g, a < 2 → g < 4 → (fc a >>> (nI g &&& 31)) &&& nI 1 = sg 11 (4 * a + g)) : hm_Met cA yL_holds cL_holds 12 (some .boolean) r_L_holds [.ref b, .ref nr, .ref cr, .int (nI m)] M (lw_R cA N b (nI 1) sg) := by
  refine hm_met 8 (by decide +kernel) (fun w h => by simp only [List.mem_cons, List.not_mem_nil, or_false] at h; rcases h with rfl | rfl | rfl | rfl <;> rfl) rfl (fun C X => ?_)
  show hm_W C 0 0 _ M 0 [some (.ref b), some (.ref nr), some (.ref cr), some (.int (nI m)), none, none, none, none, none, none, none, none] []
  refine hr_iconst (nI 1) X (tL_at tL_holds_0_ok 0 rfl) (by decide) ?_
  refine hr_istore X (tL_at tL_holds_0_ok 1 rfl) (Nat.le_of_ble_eq_true rfl) ?_
  refine hr_iconst (nI 0) X (tL_at tL_holds_0_ok 2 rfl) (by decide) ?_
  refine hr_istore X (tL_at tL_holds_0_ok 3 rfl) (Nat.le_of_ble_eq_true rfl) ?_
  refine hl_for (L := fun i => [some (.ref b), some (.ref nr), some (.ref cr), some (.int (nI m)), some (.int (nI 1)), some (.int (nI i)), none, none, none, none, none, none]) (I := fun _ M9 => ls_Q cA N b sg M9) 4 3 18 0 0 (fun i M9 kr9 sr9 hi h9 hk9 hs9 kk9 => w_H1 X hI hJ hK hm h9 (by omega) (by omega) hi kk9) (fun M9 h9 => ?_) hQ
  refine hr_widen (k2 := 12) (n2 := 72) (by omega) (by omega) ?_
  refine hr_iload X (tL_at tL_holds_0_ok 4 rfl) rfl ?_
  refine hr_iconst (nI 4) X (tL_at tL_holds_0_ok 5 rfl) (by decide) ?_
  refine hr_icmp_ge 54 X (tL_at tL_holds_0_ok 6 rfl) (by decide) (fun _ => ?_) (fun c => absurd (Int32.le_refl _) c)
  refine hr_iconst (nI 0) X (tL_at tL_holds_0_ok 26 rfl) (by decide) ?_
  refine hr_istore X (tL_at tL_holds_0_ok 27 rfl) (Nat.le_of_ble_eq_true rfl) ?_
  refine hl_for (L := fun i => [some (.ref b), some (.ref nr), some (.ref cr), some (.int (nI m)), some (.int (nI 1)), some (.int (nI i)), none, none, none, none, none, none]) (I := fun _ M9 => ls_Q cA N b sg M9) 2 1285 7710 12 72 (fun i M9 kr9 sr9 hi h9 hk9 hs9 kk9 => w_HS X hI hJ hK hm h9 (by omega) (by omega) hi e1 hnr hcr e2 kk9) (fun M9 h9 => ?_) h9
  refine hr_widen (k2 := 2582) (n2 := 15492) (by omega) (by omega) ?_
  refine hr_iload X (tL_at tL_holds_0_ok 28 rfl) rfl ?_
  refine hr_iconst (nI 2) X (tL_at tL_holds_0_ok 29 rfl) (by decide) ?_
  refine hr_icmp_ge 664 X (tL_at tL_holds_0_ok 30 rfl) (by decide) (fun _ => ?_) (fun c => absurd (Int32.le_refl _) c)
  refine hr_iload X (tL_at tL_holds_5_ok 31 rfl) rfl ?_
  exact hr_zret X (tL_at tL_holds_5_ok 32 rfl) (by rfl) (Nat.le_of_ble_eq_true rfl) (Nat.le_of_ble_eq_true rfl) ⟨rfl, h9⟩
