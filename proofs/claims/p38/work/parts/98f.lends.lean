/-! all that can be folded is folded: the walk -/
abbrev r_L_ends : Room := { frames := 10, cells := 1110, slots := 6660, locals := 260 }
section HLD
variable {C : hm_C} {own : String} {cc : ByteArray} {nL : Nat} {ret : Option FieldType} {nm : String} {rm : Room} {cA : Nat → ClassId} {k n : Nat} {Q : State → Prop} {M : hm_M} {pc : Nat} {L : List (Option Value)} {st : List Value} {a : Nat}
theorem hl_idec {i : Nat} (X : hm_X C own cc nL ret nm rm cA) (d : decode cc pc = .ok (.iinc i (-1), 3)) (h : L[i]? = some (some (.int (nI a)))) (h1 : 1 ≤ a) (kk : hm_W C k n Q M (pc + 3) (L.set i (some (.int (nI (a - 1))))) st) : hm_W C k n Q M pc L st := by
  refine hr_iinc (-1) X d h (by decide) ?_
  rw [show nI a + -1 = nI (a - 1) from (Int32.sub_eq_add_neg (nI a) 1).symm.trans (nI_sub (b := 1) h1)]
  exact kk
end HLD
set_option maxHeartbeats 4000000 in
set_option maxRecDepth 100000 in
theorem w_N1 {C : hm_C} {nm : String} {Q : State → Prop} {cA : Nat → ClassId} {sg : mm_S} {N M : hm_M} {b nr m a : Nat} {k : Nat} {G : mm_S → Prop} (hG : ∀ (s9 : mm_S) (s v : Int32), sp_I s9 → sp_J s9 → G s9 → sp_thFold s9 s v = 0 → G (sp_foldS s9 (nN s) (nN v))) (hG0 : G sg) (X : hm_X C RL cL_ends 15 (some .boolean) nm r_L_ends cA) (hI : sp_I sg) (hJ : sp_J sg) (hm : m < 2 ^ 30) (hQ : ls_Q cA N b sg M) (ha : a < sp_n sg) (ha4 : a < 4) {kr sr : Nat} (hkr : kr + 37 ≤ 1110) (hsr : sr + 222 ≤ 6660) (hk1 : 1 ≤ k) (hk16 : k < 16) (kk : ∀ (s9 : mm_S) (M9 : hm_M), le_R G sg s9 → ls_Q cA N b s9 M9 → hm_W C (kr + 37) (sr + 222) Q M9 23 [some (.ref b), some (.ref nr), some (.int (nI m)), some (.int (nI 1)), some (.int (nI a)), some (.int (nI (k - 1))), none, none, none, none, none, none, none, none, none] []) : hm_W C kr sr Q M 23 [some (.ref b), some (.ref nr), some (.int (nI m)), some (.int (nI 1)), some (.int (nI a)), some (.int (nI k)), none, none, none, none, none, none, none, none, none] [] := by
  have eA : nN (nI a) = a := nI_clamp (by omega)
  have m5 : m % 5 < 5 := Nat.mod_lt _ (by decide)
  have eT : nN (nI (m % 5)) = m % 5 := nI_clamp (by omega)
  refine hr_iload X (tL_at tL_ends_0_ok 15 rfl) rfl ?_
  refine hr_if_le 292 X (tL_at tL_ends_0_ok 16 rfl) (by decide) (fun c => absurd c (nI_nle hk1 (by omega))) (fun _ => ?_)
  refine hr_iload_n X (tL_at tL_ends_0_ok 17 rfl) rfl ?_
  refine hr_if_eq 292 X (tL_at tL_ends_0_ok 18 rfl) (by decide) (fun c => absurd c (by decide)) (fun _ => ?_)
  obtain ⟨g, hg⟩ : ∃ g, g = (m + k) % 4 := ⟨_, rfl⟩
  obtain ⟨p, hp⟩ : ∃ p, p = (m / 4 + k) % 12 := ⟨_, rfl⟩
  have hg4 : g < 4 := by omega
  have hp12 : p < 12 := by omega
  have eG : nN (nI g) = g := nI_clamp (by omega)
  refine hr_iload_n X (tL_at tL_ends_0_ok 19 rfl) rfl ?_
  refine hr_iload X (tL_at tL_ends_0_ok 20 rfl) rfl ?_
  refine hl_iadd X (tL_at tL_ends_0_ok 21 rfl) ?_
  refine hr_iconst (nI 4) X (tL_at tL_ends_0_ok 22 rfl) (by decide) ?_
  refine hl_irem X (tL_at tL_ends_0_ok 23 rfl) (by omega) (by decide) (by decide) ?_
  rw [← hg]
  refine hr_istore X (tL_at tL_ends_0_ok 24 rfl) (Nat.le_of_ble_eq_true rfl) ?_
  refine hr_iload_n X (tL_at tL_ends_0_ok 25 rfl) rfl ?_
  refine hr_iconst (nI 4) X (tL_at tL_ends_0_ok 26 rfl) (by decide) ?_
  refine hl_idiv X (tL_at tL_ends_0_ok 27 rfl) (by omega) (by decide) (by decide) ?_
  refine hr_iload X (tL_at tL_ends_0_ok 28 rfl) rfl ?_
  refine hl_iadd X (tL_at tL_ends_0_ok 29 rfl) ?_
  refine hr_bipush (nI 12) X (tL_at tL_ends_0_ok 30 rfl) (by decide) ?_
  refine hl_irem X (tL_at tL_ends_0_ok 31 rfl) (by omega) (by decide) (by decide) ?_
  rw [← hp]
  obtain ⟨h, eh, hh⟩ := hI.i7 a g ha hg4
  have hh16 := hh.1
  have eH : nN (nI h) = h := nI_clamp (by omega)
  have hVh := lf_isV hI ha hh
  have eK : sp_k (nI p) (nI a) = 12 * a + p := lf_kN ha4 hp12
  refine hr_istore X (tL_at tL_ends_0_ok 32 rfl) (Nat.le_of_ble_eq_true rfl) ?_
  refine hr_aload_n X (tL_at tL_ends_0_ok 33 rfl) rfl (Or.inr ⟨_, rfl⟩) ?_
  refine hr_iconst (nI 0) X (tL_at tL_ends_0_ok 34 rfl) (by decide) ?_
  by_cases hth : sp_thFold sg (nI a) (nI k) = 0
  · obtain ⟨sg', U, W, l, hst, hI', hJ', h5', h11', h10', hn', hU, hW, hl, hl30, hsum, hvers, hgone, hhead, hdue⟩ := le_fold hI hJ ha hk16 hth
    obtain ⟨hh', hkind, hpts⟩ := hhead g h hg4 eh hh
    refine hl_rq0 X kSL_used (tL_at tL_ends_0_ok 35 rfl) (c_L_used cA hI hJ hQ (nI 0)) (lf_w0 (lf_inN (b := 3) (by decide) (by decide))) rfl rfl rfl (Nat.le_of_ble_eq_true rfl) (kr + 1) (sr + 6) ⟨⟨(Nat.le_of_ble_eq_true rfl), (Nat.le_of_ble_eq_true rfl)⟩, (show kr + 0 + 1 ≤ 1110 by omega), (show sr + 0 + 6 ≤ 6660 by omega)⟩ (show kr + 0 + 1 ≤ kr + 1 by omega) (show sr + 0 + 6 ≤ sr + 6 by omega) (fun M1 hQ1 => ?_)
    rw [(hU 0 (by decide)).1]
    refine hr_aload_n X (tL_at tL_ends_0_ok 36 rfl) rfl (Or.inr ⟨_, rfl⟩) ?_
    refine hr_iconst (nI 1) X (tL_at tL_ends_0_ok 37 rfl) (by decide) ?_
    refine hl_rq0 X kSL_used (tL_at tL_ends_0_ok 38 rfl) (c_L_used cA hI hJ hQ1 (nI 1)) (lf_w0 (lf_inN (b := 3) (by decide) (by decide))) rfl rfl rfl (Nat.le_of_ble_eq_true rfl) (kr + 2) (sr + 12) ⟨⟨(Nat.le_of_ble_eq_true rfl), (Nat.le_of_ble_eq_true rfl)⟩, (show kr + 1 + 1 ≤ 1110 by omega), (show sr + 6 + 6 ≤ 6660 by omega)⟩ (show kr + 1 + 1 ≤ kr + 2 by omega) (show sr + 6 + 6 ≤ sr + 12 by omega) (fun M2 hQ2 => ?_)
    rw [(hU 1 (by decide)).1]
    refine hl_iadd X (tL_at tL_ends_0_ok 39 rfl) ?_
    refine hr_aload_n X (tL_at tL_ends_0_ok 40 rfl) rfl (Or.inr ⟨_, rfl⟩) ?_
    refine hr_iconst (nI 2) X (tL_at tL_ends_0_ok 41 rfl) (by decide) ?_
    refine hl_rq0 X kSL_used (tL_at tL_ends_0_ok 42 rfl) (c_L_used cA hI hJ hQ2 (nI 2)) (lf_w0 (lf_inN (b := 3) (by decide) (by decide))) rfl rfl rfl (Nat.le_of_ble_eq_true rfl) (kr + 3) (sr + 18) ⟨⟨(Nat.le_of_ble_eq_true rfl), (Nat.le_of_ble_eq_true rfl)⟩, (show kr + 2 + 1 ≤ 1110 by omega), (show sr + 12 + 6 ≤ 6660 by omega)⟩ (show kr + 2 + 1 ≤ kr + 3 by omega) (show sr + 12 + 6 ≤ sr + 18 by omega) (fun M3 hQ3 => ?_)
    rw [(hU 2 (by decide)).1]
    refine hl_iadd X (tL_at tL_ends_0_ok 43 rfl) ?_
    refine hr_aload_n X (tL_at tL_ends_0_ok 44 rfl) rfl (Or.inr ⟨_, rfl⟩) ?_
    refine hr_iconst (nI 3) X (tL_at tL_ends_0_ok 45 rfl) (by decide) ?_
    refine hl_rq0 X kSL_used (tL_at tL_ends_0_ok 46 rfl) (c_L_used cA hI hJ hQ3 (nI 3)) (lf_w0 (lf_inN (b := 3) (by decide) (by decide))) rfl rfl rfl (Nat.le_of_ble_eq_true rfl) (kr + 4) (sr + 24) ⟨⟨(Nat.le_of_ble_eq_true rfl), (Nat.le_of_ble_eq_true rfl)⟩, (show kr + 3 + 1 ≤ 1110 by omega), (show sr + 18 + 6 ≤ 6660 by omega)⟩ (show kr + 3 + 1 ≤ kr + 4 by omega) (show sr + 18 + 6 ≤ sr + 24 by omega) (fun M4 hQ4 => ?_)
    rw [(hU 3 (by decide)).1]
    refine hl_iadd X (tL_at tL_ends_0_ok 47 rfl) ?_
    refine hr_istore X (tL_at tL_ends_0_ok 48 rfl) (Nat.le_of_ble_eq_true rfl) ?_
    refine hr_aload_n X (tL_at tL_ends_0_ok 49 rfl) rfl (Or.inr ⟨_, rfl⟩) ?_
    refine hr_iload X (tL_at tL_ends_0_ok 50 rfl) rfl ?_
    refine hr_aload_n X (tL_at tL_ends_0_ok 51 rfl) rfl (Or.inr ⟨_, rfl⟩) ?_
    refine hr_iload X (tL_at tL_ends_0_ok 52 rfl) rfl ?_
    refine hr_iload X (tL_at tL_ends_0_ok 53 rfl) rfl ?_
    refine hl_rq0 X kSL_head (tL_at tL_ends_0_ok 54 rfl) (c_L_head cA hI hJ hQ4 (nI g) (nI a)) (lf_w0 (lf_cs0 hI ha hg4)) rfl rfl rfl (Nat.le_of_ble_eq_true rfl) (kr + 6) (sr + 36) ⟨⟨(Nat.le_of_ble_eq_true rfl), (Nat.le_of_ble_eq_true rfl)⟩, (show kr + 4 + 2 ≤ 1110 by omega), (show sr + 24 + 12 ≤ 6660 by omega)⟩ (show kr + 4 + 2 ≤ kr + 6 by omega) (show sr + 24 + 12 ≤ sr + 36 by omega) (fun M5 hQ5 => ?_)
    rw [eA, eG, eh]
    refine hr_iload_n X (tL_at tL_ends_0_ok 55 rfl) rfl ?_
    refine hr_iconst (nI 5) X (tL_at tL_ends_0_ok 56 rfl) (by decide) ?_
    refine hl_irem X (tL_at tL_ends_0_ok 57 rfl) (by omega) (by decide) (by decide) ?_
    refine hl_rq0 X kSL_kind (tL_at tL_ends_0_ok 58 rfl) (c_L_kind cA hI hJ hQ5 (nI a) (nI h) (nI (m % 5))) (lh_thTask hI ha hh m5) rfl rfl rfl (Nat.le_of_ble_eq_true rfl) (kr + 9) (sr + 54) ⟨⟨(Nat.le_of_ble_eq_true rfl), (Nat.le_of_ble_eq_true rfl)⟩, (show kr + 6 + 3 ≤ 1110 by omega), (show sr + 36 + 18 ≤ 6660 by omega)⟩ (show kr + 6 + 3 ≤ kr + 9 by omega) (show sr + 36 + 18 ≤ sr + 54 by omega) (fun M6 hQ6 => ?_)
    rw [eA, eH, eT]
    refine hr_istore X (tL_at tL_ends_0_ok 59 rfl) (Nat.le_of_ble_eq_true rfl) ?_
    refine hr_aload_n X (tL_at tL_ends_1_ok 0 rfl) rfl (Or.inr ⟨_, rfl⟩) ?_
    refine hr_iload X (tL_at tL_ends_1_ok 1 rfl) rfl ?_
    refine hr_aload_n X (tL_at tL_ends_1_ok 2 rfl) rfl (Or.inr ⟨_, rfl⟩) ?_
    refine hr_iload X (tL_at tL_ends_1_ok 3 rfl) rfl ?_
    refine hr_iload X (tL_at tL_ends_1_ok 4 rfl) rfl ?_
    refine hl_rq0 X kSL_head (tL_at tL_ends_1_ok 5 rfl) (c_L_head cA hI hJ hQ6 (nI g) (nI a)) (lf_w0 (lf_cs0 hI ha hg4)) rfl rfl rfl (Nat.le_of_ble_eq_true rfl) (kr + 11) (sr + 66) ⟨⟨(Nat.le_of_ble_eq_true rfl), (Nat.le_of_ble_eq_true rfl)⟩, (show kr + 9 + 2 ≤ 1110 by omega), (show sr + 54 + 12 ≤ 6660 by omega)⟩ (show kr + 9 + 2 ≤ kr + 11 by omega) (show sr + 54 + 12 ≤ sr + 66 by omega) (fun M7 hQ7 => ?_)
    rw [eA, eG, eh]
    refine hl_rq0 X kSL_points (tL_at tL_ends_1_ok 6 rfl) (c_L_points cA hI hJ hQ7 (nI a) (nI h)) (lf_w0 hVh) rfl rfl rfl (Nat.le_of_ble_eq_true rfl) (kr + 13) (sr + 78) ⟨⟨(Nat.le_of_ble_eq_true rfl), (Nat.le_of_ble_eq_true rfl)⟩, (show kr + 11 + 2 ≤ 1110 by omega), (show sr + 66 + 12 ≤ 6660 by omega)⟩ (show kr + 11 + 2 ≤ kr + 13 by omega) (show sr + 66 + 12 ≤ sr + 78 by omega) (fun M8 hQ8 => ?_)
    rw [eA, eH]
    refine hr_istore X (tL_at tL_ends_1_ok 7 rfl) (Nat.le_of_ble_eq_true rfl) ?_
    refine hr_aload_n X (tL_at tL_ends_1_ok 8 rfl) rfl (Or.inr ⟨_, rfl⟩) ?_
    refine hr_iload X (tL_at tL_ends_1_ok 9 rfl) rfl ?_
    refine hr_iload X (tL_at tL_ends_1_ok 10 rfl) rfl ?_
    refine hl_rq0 X kSL_due (tL_at tL_ends_1_ok 11 rfl) (c_L_due cA hI hJ hQ8 (nI p) (nI a)) (lf_w0 (lf_bT hI ha hp12)) rfl rfl rfl (Nat.le_of_ble_eq_true rfl) (kr + 15) (sr + 90) ⟨⟨(Nat.le_of_ble_eq_true rfl), (Nat.le_of_ble_eq_true rfl)⟩, (show kr + 13 + 2 ≤ 1110 by omega), (show sr + 78 + 12 ≤ 6660 by omega)⟩ (show kr + 13 + 2 ≤ kr + 15 by omega) (show sr + 78 + 12 ≤ sr + 90 by omega) (fun M9 hQ9 => ?_)
    rw [eK]
    refine hr_istore X (tL_at tL_ends_1_ok 12 rfl) (Nat.le_of_ble_eq_true rfl) ?_
    refine hr_aload_n X (tL_at tL_ends_1_ok 13 rfl) rfl (Or.inr ⟨_, rfl⟩) ?_
    refine hr_iload X (tL_at tL_ends_1_ok 14 rfl) rfl ?_
    refine hl_rq0 X kSL_versions (tL_at tL_ends_1_ok 15 rfl) (c_L_versions cA hI hJ hQ9 (nI a)) (lf_w0 (sp_nat_isS hI ha)) rfl rfl rfl (Nat.le_of_ble_eq_true rfl) (kr + 16) (sr + 96) ⟨⟨(Nat.le_of_ble_eq_true rfl), (Nat.le_of_ble_eq_true rfl)⟩, (show kr + 15 + 1 ≤ 1110 by omega), (show sr + 90 + 6 ≤ 6660 by omega)⟩ (show kr + 15 + 1 ≤ kr + 16 by omega) (show sr + 90 + 6 ≤ sr + 96 by omega) (fun M10 hQ10 => ?_)
    rw [eA]
    refine hr_istore X (tL_at tL_ends_1_ok 16 rfl) (Nat.le_of_ble_eq_true rfl) ?_
    refine hr_aload_n X (tL_at tL_ends_1_ok 17 rfl) rfl (Or.inr ⟨_, rfl⟩) ?_
    refine hr_iload X (tL_at tL_ends_1_ok 18 rfl) rfl ?_
    refine hr_iload X (tL_at tL_ends_1_ok 19 rfl) rfl ?_
    refine hl_rs0 X kSL_folds (tL_at tL_ends_1_ok 20 rfl) (c_L_folds cA hI hJ hQ10 (nI a) (nI k)) hth rfl rfl rfl (Nat.le_of_ble_eq_true rfl) (kr + 19) (sr + 114) ⟨⟨(Nat.le_of_ble_eq_true rfl), (Nat.le_of_ble_eq_true rfl)⟩, (show kr + 16 + 3 ≤ 1110 by omega), (show sr + 96 + 18 ≤ 6660 by omega)⟩ (show kr + 16 + 3 ≤ kr + 19 by omega) (show sr + 96 + 18 ≤ sr + 114 by omega) (fun M11 hQ11 => ?_)
    rw [hl]
    rw [hst] at hQ11
    have ha' : a < sp_n sg' := by rw [hn']; exact ha
    have hVh' := lf_isV hI' ha' hh'
    have eh' : sg' 10 (4 * a + g) = nI h := by rw [h10']; exact eh
    refine hr_istore X (tL_at tL_ends_1_ok 21 rfl) (Nat.le_of_ble_eq_true rfl) ?_
    refine hr_aload_n X (tL_at tL_ends_1_ok 22 rfl) rfl (Or.inr ⟨_, rfl⟩) ?_
    refine hr_iconst (nI 0) X (tL_at tL_ends_1_ok 23 rfl) (by decide) ?_
    refine hl_rq0 X kSL_used (tL_at tL_ends_1_ok 24 rfl) (c_L_used cA hI' hJ' hQ11 (nI 0)) (lf_w0 (lf_inN (b := 3) (by decide) (by decide))) rfl rfl rfl (Nat.le_of_ble_eq_true rfl) (kr + 20) (sr + 120) ⟨⟨(Nat.le_of_ble_eq_true rfl), (Nat.le_of_ble_eq_true rfl)⟩, (show kr + 19 + 1 ≤ 1110 by omega), (show sr + 114 + 6 ≤ 6660 by omega)⟩ (show kr + 19 + 1 ≤ kr + 20 by omega) (show sr + 114 + 6 ≤ sr + 120 by omega) (fun M12 hQ12 => ?_)
    rw [(hW 0 (by decide)).1]
    refine hr_aload_n X (tL_at tL_ends_1_ok 25 rfl) rfl (Or.inr ⟨_, rfl⟩) ?_
    refine hr_iconst (nI 1) X (tL_at tL_ends_1_ok 26 rfl) (by decide) ?_
    refine hl_rq0 X kSL_used (tL_at tL_ends_1_ok 27 rfl) (c_L_used cA hI' hJ' hQ12 (nI 1)) (lf_w0 (lf_inN (b := 3) (by decide) (by decide))) rfl rfl rfl (Nat.le_of_ble_eq_true rfl) (kr + 21) (sr + 126) ⟨⟨(Nat.le_of_ble_eq_true rfl), (Nat.le_of_ble_eq_true rfl)⟩, (show kr + 20 + 1 ≤ 1110 by omega), (show sr + 120 + 6 ≤ 6660 by omega)⟩ (show kr + 20 + 1 ≤ kr + 21 by omega) (show sr + 120 + 6 ≤ sr + 126 by omega) (fun M13 hQ13 => ?_)
    rw [(hW 1 (by decide)).1]
    refine hl_iadd X (tL_at tL_ends_1_ok 28 rfl) ?_
    refine hr_aload_n X (tL_at tL_ends_1_ok 29 rfl) rfl (Or.inr ⟨_, rfl⟩) ?_
    refine hr_iconst (nI 2) X (tL_at tL_ends_1_ok 30 rfl) (by decide) ?_
    refine hl_rq0 X kSL_used (tL_at tL_ends_1_ok 31 rfl) (c_L_used cA hI' hJ' hQ13 (nI 2)) (lf_w0 (lf_inN (b := 3) (by decide) (by decide))) rfl rfl rfl (Nat.le_of_ble_eq_true rfl) (kr + 22) (sr + 132) ⟨⟨(Nat.le_of_ble_eq_true rfl), (Nat.le_of_ble_eq_true rfl)⟩, (show kr + 21 + 1 ≤ 1110 by omega), (show sr + 126 + 6 ≤ 6660 by omega)⟩ (show kr + 21 + 1 ≤ kr + 22 by omega) (show sr + 126 + 6 ≤ sr + 132 by omega) (fun M14 hQ14 => ?_)
    rw [(hW 2 (by decide)).1]
    refine hl_iadd X (tL_at tL_ends_1_ok 32 rfl) ?_
    refine hr_aload_n X (tL_at tL_ends_1_ok 33 rfl) rfl (Or.inr ⟨_, rfl⟩) ?_
    refine hr_iconst (nI 3) X (tL_at tL_ends_1_ok 34 rfl) (by decide) ?_
    refine hl_rq0 X kSL_used (tL_at tL_ends_1_ok 35 rfl) (c_L_used cA hI' hJ' hQ14 (nI 3)) (lf_w0 (lf_inN (b := 3) (by decide) (by decide))) rfl rfl rfl (Nat.le_of_ble_eq_true rfl) (kr + 23) (sr + 138) ⟨⟨(Nat.le_of_ble_eq_true rfl), (Nat.le_of_ble_eq_true rfl)⟩, (show kr + 22 + 1 ≤ 1110 by omega), (show sr + 132 + 6 ≤ 6660 by omega)⟩ (show kr + 22 + 1 ≤ kr + 23 by omega) (show sr + 132 + 6 ≤ sr + 138 by omega) (fun M15 hQ15 => ?_)
    rw [(hW 3 (by decide)).1]
    refine hl_iadd X (tL_at tL_ends_1_ok 36 rfl) ?_
    refine hr_istore X (tL_at tL_ends_1_ok 37 rfl) (Nat.le_of_ble_eq_true rfl) ?_
    refine hr_iload X (tL_at tL_ends_1_ok 38 rfl) rfl ?_
    refine hr_if_lt 208 X (tL_at tL_ends_1_ok 39 rfl) (by decide) (fun c => absurd c (nI_pos (by omega))) (fun _ => ?_)
    refine hr_iload X (tL_at tL_ends_1_ok 40 rfl) rfl ?_
    refine hr_iload X (tL_at tL_ends_1_ok 41 rfl) rfl ?_
    refine hr_isub X (tL_at tL_ends_1_ok 42 rfl) ?_
    rw [nI_sub (by omega), show U 0 + U 1 + U 2 + U 3 - (W 0 + W 1 + W 2 + W 3) = l by omega]
    refine hr_iload X (tL_at tL_ends_1_ok 43 rfl) rfl ?_
    refine hr_icmp_ne 284 X (tL_at tL_ends_1_ok 44 rfl) (by decide) (fun c => absurd rfl c) (fun _ => ?_)
    refine hr_aload_n X (tL_at tL_ends_1_ok 45 rfl) rfl (Or.inr ⟨_, rfl⟩) ?_
    refine hr_iload X (tL_at tL_ends_1_ok 46 rfl) rfl ?_
    refine hl_rq0 X kSL_versions (tL_at tL_ends_1_ok 47 rfl) (c_L_versions cA hI' hJ' hQ15 (nI a)) (lf_w0 (sp_nat_isS hI' ha')) rfl rfl rfl (Nat.le_of_ble_eq_true rfl) (kr + 24) (sr + 144) ⟨⟨(Nat.le_of_ble_eq_true rfl), (Nat.le_of_ble_eq_true rfl)⟩, (show kr + 23 + 1 ≤ 1110 by omega), (show sr + 138 + 6 ≤ 6660 by omega)⟩ (show kr + 23 + 1 ≤ kr + 24 by omega) (show sr + 138 + 6 ≤ sr + 144 by omega) (fun M16 hQ16 => ?_)
    rw [eA]
    refine hr_iload X (tL_at tL_ends_1_ok 48 rfl) rfl ?_
    refine hr_iconst (nI 1) X (tL_at tL_ends_1_ok 49 rfl) (by decide) ?_
    refine hr_isub X (tL_at tL_ends_1_ok 50 rfl) ?_
    refine hr_icmp_ne 284 X (tL_at tL_ends_1_ok 51 rfl) (by decide) (fun c => absurd hvers c) (fun _ => ?_)
    refine hr_aload_n X (tL_at tL_ends_1_ok 52 rfl) rfl (Or.inr ⟨_, rfl⟩) ?_
    refine hr_iload X (tL_at tL_ends_1_ok 53 rfl) rfl ?_
    refine hr_iload X (tL_at tL_ends_1_ok 54 rfl) rfl ?_
    refine hl_rq1 X kSL_parent (tL_at tL_ends_1_ok 55 rfl) (c_L_parent cA hI' hJ' hQ16 (nI a) (nI k)) (lf_w hgone) rfl rfl rfl (Nat.le_of_ble_eq_true rfl) (kr + 26) (sr + 156) ⟨⟨(Nat.le_of_ble_eq_true rfl), (Nat.le_of_ble_eq_true rfl)⟩, (show kr + 24 + 2 ≤ 1110 by omega), (show sr + 144 + 12 ≤ 6660 by omega)⟩ (show kr + 24 + 2 ≤ kr + 26 by omega) (show sr + 144 + 12 ≤ sr + 156 by omega) (fun M17 hQ17 => ?_)
    refine hr_ldc lNI X (tL_at tL_ends_1_ok 56 rfl) kKL_22 ?_
    refine hr_icmp_ne 284 X (tL_at tL_ends_1_ok 57 rfl) (by decide) (fun c => absurd rfl c) (fun _ => ?_)
    refine hr_goto 226 X (tL_at tL_ends_1_ok 58 rfl) (by decide) ?_
    refine hr_iload X (tL_at tL_ends_2_ok 7 rfl) rfl ?_
    refine hr_aload_n X (tL_at tL_ends_2_ok 8 rfl) rfl (Or.inr ⟨_, rfl⟩) ?_
    refine hr_iload X (tL_at tL_ends_2_ok 9 rfl) rfl ?_
    refine hr_aload_n X (tL_at tL_ends_2_ok 10 rfl) rfl (Or.inr ⟨_, rfl⟩) ?_
    refine hr_iload X (tL_at tL_ends_2_ok 11 rfl) rfl ?_
    refine hr_iload X (tL_at tL_ends_2_ok 12 rfl) rfl ?_
    refine hl_rq0 X kSL_head (tL_at tL_ends_2_ok 13 rfl) (c_L_head cA hI' hJ' hQ17 (nI g) (nI a)) (lf_w0 (lf_cs0 hI' ha' hg4)) rfl rfl rfl (Nat.le_of_ble_eq_true rfl) (kr + 28) (sr + 168) ⟨⟨(Nat.le_of_ble_eq_true rfl), (Nat.le_of_ble_eq_true rfl)⟩, (show kr + 26 + 2 ≤ 1110 by omega), (show sr + 156 + 12 ≤ 6660 by omega)⟩ (show kr + 26 + 2 ≤ kr + 28 by omega) (show sr + 156 + 12 ≤ sr + 168 by omega) (fun M18 hQ18 => ?_)
    rw [eA, eG, eh']
    refine hr_iload_n X (tL_at tL_ends_2_ok 14 rfl) rfl ?_
    refine hr_iconst (nI 5) X (tL_at tL_ends_2_ok 15 rfl) (by decide) ?_
    refine hl_irem X (tL_at tL_ends_2_ok 16 rfl) (by omega) (by decide) (by decide) ?_
    refine hl_rq0 X kSL_kind (tL_at tL_ends_2_ok 17 rfl) (c_L_kind cA hI' hJ' hQ18 (nI a) (nI h) (nI (m % 5))) (lh_thTask hI' ha' hh' m5) rfl rfl rfl (Nat.le_of_ble_eq_true rfl) (kr + 31) (sr + 186) ⟨⟨(Nat.le_of_ble_eq_true rfl), (Nat.le_of_ble_eq_true rfl)⟩, (show kr + 28 + 3 ≤ 1110 by omega), (show sr + 168 + 18 ≤ 6660 by omega)⟩ (show kr + 28 + 3 ≤ kr + 31 by omega) (show sr + 168 + 18 ≤ sr + 186 by omega) (fun M19 hQ19 => ?_)
    rw [eA, eH, eT]
    refine hr_icmp_ne 284 X (tL_at tL_ends_2_ok 18 rfl) (by decide) (fun c => absurd ((hkind _ m5).symm) c) (fun _ => ?_)
    refine hr_iload X (tL_at tL_ends_2_ok 19 rfl) rfl ?_
    refine hr_aload_n X (tL_at tL_ends_2_ok 20 rfl) rfl (Or.inr ⟨_, rfl⟩) ?_
    refine hr_iload X (tL_at tL_ends_2_ok 21 rfl) rfl ?_
    refine hr_aload_n X (tL_at tL_ends_2_ok 22 rfl) rfl (Or.inr ⟨_, rfl⟩) ?_
    refine hr_iload X (tL_at tL_ends_2_ok 23 rfl) rfl ?_
    refine hr_iload X (tL_at tL_ends_2_ok 24 rfl) rfl ?_
    refine hl_rq0 X kSL_head (tL_at tL_ends_2_ok 25 rfl) (c_L_head cA hI' hJ' hQ19 (nI g) (nI a)) (lf_w0 (lf_cs0 hI' ha' hg4)) rfl rfl rfl (Nat.le_of_ble_eq_true rfl) (kr + 33) (sr + 198) ⟨⟨(Nat.le_of_ble_eq_true rfl), (Nat.le_of_ble_eq_true rfl)⟩, (show kr + 31 + 2 ≤ 1110 by omega), (show sr + 186 + 12 ≤ 6660 by omega)⟩ (show kr + 31 + 2 ≤ kr + 33 by omega) (show sr + 186 + 12 ≤ sr + 198 by omega) (fun M20 hQ20 => ?_)
    rw [eA, eG, eh']
    refine hl_rq0 X kSL_points (tL_at tL_ends_2_ok 26 rfl) (c_L_points cA hI' hJ' hQ20 (nI a) (nI h)) (lf_w0 hVh') rfl rfl rfl (Nat.le_of_ble_eq_true rfl) (kr + 35) (sr + 210) ⟨⟨(Nat.le_of_ble_eq_true rfl), (Nat.le_of_ble_eq_true rfl)⟩, (show kr + 33 + 2 ≤ 1110 by omega), (show sr + 198 + 12 ≤ 6660 by omega)⟩ (show kr + 33 + 2 ≤ kr + 35 by omega) (show sr + 198 + 12 ≤ sr + 210 by omega) (fun M21 hQ21 => ?_)
    rw [eA, eH]
    refine hr_icmp_ne 284 X (tL_at tL_ends_2_ok 27 rfl) (by decide) (fun c => absurd (hpts.symm) c) (fun _ => ?_)
    refine hr_iload X (tL_at tL_ends_2_ok 28 rfl) rfl ?_
    refine hr_aload_n X (tL_at tL_ends_2_ok 29 rfl) rfl (Or.inr ⟨_, rfl⟩) ?_
    refine hr_iload X (tL_at tL_ends_2_ok 30 rfl) rfl ?_
    refine hr_iload X (tL_at tL_ends_2_ok 31 rfl) rfl ?_
    refine hl_rq0 X kSL_due (tL_at tL_ends_2_ok 32 rfl) (c_L_due cA hI' hJ' hQ21 (nI p) (nI a)) (lf_w0 (lf_bT hI' ha' hp12)) rfl rfl rfl (Nat.le_of_ble_eq_true rfl) (kr + 37) (sr + 222) ⟨⟨(Nat.le_of_ble_eq_true rfl), (Nat.le_of_ble_eq_true rfl)⟩, (show kr + 35 + 2 ≤ 1110 by omega), (show sr + 210 + 12 ≤ 6660 by omega)⟩ (show kr + 35 + 2 ≤ kr + 37 by omega) (show sr + 210 + 12 ≤ sr + 222 by omega) (fun M22 hQ22 => ?_)
    rw [eK]
    refine hr_icmp_ne 284 X (tL_at tL_ends_2_ok 33 rfl) (by decide) (fun c => absurd ((hdue _ (by omega)).symm) c) (fun _ => ?_)
    refine hr_iconst (nI 1) X (tL_at tL_ends_2_ok 34 rfl) (by decide) ?_
    refine hr_goto 285 X (tL_at tL_ends_2_ok 35 rfl) (by decide) ?_
    refine hr_istore_n X (tL_at tL_ends_2_ok 37 rfl) (Nat.le_of_ble_eq_true rfl) ?_
    refine hl_idec X (tL_at tL_ends_2_ok 38 rfl) rfl hk1 ?_
    refine hr_goto 23 X (tL_at tL_ends_2_ok 39 rfl) (by decide) ?_
    refine hr_widen (k2 := kr + 37) (n2 := sr + 222) (by omega) (by omega) ?_
    refine hr_sub (L2 := [some (.ref b), some (.ref nr), some (.int (nI m)), some (.int (nI 1)), some (.int (nI a)), some (.int (nI (k - 1))), none, none, none, none, none, none, none, none, none]) ⟨rfl, rfl, rfl, rfl, rfl, rfl, trivial⟩ ?_
    exact kk sg' _ ⟨hI', hJ', by rw [← hst]; exact hG _ _ _ hI hJ hG0 hth, h5', h11', hn'⟩ hQ22
  · have hU : ∀ g, ∃ N, sp_used sg (nI g) = nI N ∧ N ≤ 5280 := fun g => lk_used hI (nI g)
    obtain ⟨U, hU⟩ : ∃ U : Nat → Nat, ∀ g, g < 4 → sp_used sg (nI g) = nI (U g) ∧ U g ≤ 5280 := ⟨fun g => Classical.choose (hU g), fun g _ => Classical.choose_spec (hU g)⟩
    refine hl_rq0 X kSL_used (tL_at tL_ends_0_ok 35 rfl) (c_L_used cA hI hJ hQ (nI 0)) (lf_w0 (lf_inN (b := 3) (by decide) (by decide))) rfl rfl rfl (Nat.le_of_ble_eq_true rfl) (kr + 1) (sr + 6) ⟨⟨(Nat.le_of_ble_eq_true rfl), (Nat.le_of_ble_eq_true rfl)⟩, (show kr + 0 + 1 ≤ 1110 by omega), (show sr + 0 + 6 ≤ 6660 by omega)⟩ (show kr + 0 + 1 ≤ kr + 1 by omega) (show sr + 0 + 6 ≤ sr + 6 by omega) (fun M23 hQ23 => ?_)
    rw [(hU 0 (by decide)).1]
    refine hr_aload_n X (tL_at tL_ends_0_ok 36 rfl) rfl (Or.inr ⟨_, rfl⟩) ?_
    refine hr_iconst (nI 1) X (tL_at tL_ends_0_ok 37 rfl) (by decide) ?_
    refine hl_rq0 X kSL_used (tL_at tL_ends_0_ok 38 rfl) (c_L_used cA hI hJ hQ23 (nI 1)) (lf_w0 (lf_inN (b := 3) (by decide) (by decide))) rfl rfl rfl (Nat.le_of_ble_eq_true rfl) (kr + 2) (sr + 12) ⟨⟨(Nat.le_of_ble_eq_true rfl), (Nat.le_of_ble_eq_true rfl)⟩, (show kr + 1 + 1 ≤ 1110 by omega), (show sr + 6 + 6 ≤ 6660 by omega)⟩ (show kr + 1 + 1 ≤ kr + 2 by omega) (show sr + 6 + 6 ≤ sr + 12 by omega) (fun M24 hQ24 => ?_)
    rw [(hU 1 (by decide)).1]
    refine hl_iadd X (tL_at tL_ends_0_ok 39 rfl) ?_
    refine hr_aload_n X (tL_at tL_ends_0_ok 40 rfl) rfl (Or.inr ⟨_, rfl⟩) ?_
    refine hr_iconst (nI 2) X (tL_at tL_ends_0_ok 41 rfl) (by decide) ?_
    refine hl_rq0 X kSL_used (tL_at tL_ends_0_ok 42 rfl) (c_L_used cA hI hJ hQ24 (nI 2)) (lf_w0 (lf_inN (b := 3) (by decide) (by decide))) rfl rfl rfl (Nat.le_of_ble_eq_true rfl) (kr + 3) (sr + 18) ⟨⟨(Nat.le_of_ble_eq_true rfl), (Nat.le_of_ble_eq_true rfl)⟩, (show kr + 2 + 1 ≤ 1110 by omega), (show sr + 12 + 6 ≤ 6660 by omega)⟩ (show kr + 2 + 1 ≤ kr + 3 by omega) (show sr + 12 + 6 ≤ sr + 18 by omega) (fun M25 hQ25 => ?_)
    rw [(hU 2 (by decide)).1]
    refine hl_iadd X (tL_at tL_ends_0_ok 43 rfl) ?_
    refine hr_aload_n X (tL_at tL_ends_0_ok 44 rfl) rfl (Or.inr ⟨_, rfl⟩) ?_
    refine hr_iconst (nI 3) X (tL_at tL_ends_0_ok 45 rfl) (by decide) ?_
    refine hl_rq0 X kSL_used (tL_at tL_ends_0_ok 46 rfl) (c_L_used cA hI hJ hQ25 (nI 3)) (lf_w0 (lf_inN (b := 3) (by decide) (by decide))) rfl rfl rfl (Nat.le_of_ble_eq_true rfl) (kr + 4) (sr + 24) ⟨⟨(Nat.le_of_ble_eq_true rfl), (Nat.le_of_ble_eq_true rfl)⟩, (show kr + 3 + 1 ≤ 1110 by omega), (show sr + 18 + 6 ≤ 6660 by omega)⟩ (show kr + 3 + 1 ≤ kr + 4 by omega) (show sr + 18 + 6 ≤ sr + 24 by omega) (fun M26 hQ26 => ?_)
    rw [(hU 3 (by decide)).1]
    refine hl_iadd X (tL_at tL_ends_0_ok 47 rfl) ?_
    refine hr_istore X (tL_at tL_ends_0_ok 48 rfl) (Nat.le_of_ble_eq_true rfl) ?_
    refine hr_aload_n X (tL_at tL_ends_0_ok 49 rfl) rfl (Or.inr ⟨_, rfl⟩) ?_
    refine hr_iload X (tL_at tL_ends_0_ok 50 rfl) rfl ?_
    refine hr_aload_n X (tL_at tL_ends_0_ok 51 rfl) rfl (Or.inr ⟨_, rfl⟩) ?_
    refine hr_iload X (tL_at tL_ends_0_ok 52 rfl) rfl ?_
    refine hr_iload X (tL_at tL_ends_0_ok 53 rfl) rfl ?_
    refine hl_rq0 X kSL_head (tL_at tL_ends_0_ok 54 rfl) (c_L_head cA hI hJ hQ26 (nI g) (nI a)) (lf_w0 (lf_cs0 hI ha hg4)) rfl rfl rfl (Nat.le_of_ble_eq_true rfl) (kr + 6) (sr + 36) ⟨⟨(Nat.le_of_ble_eq_true rfl), (Nat.le_of_ble_eq_true rfl)⟩, (show kr + 4 + 2 ≤ 1110 by omega), (show sr + 24 + 12 ≤ 6660 by omega)⟩ (show kr + 4 + 2 ≤ kr + 6 by omega) (show sr + 24 + 12 ≤ sr + 36 by omega) (fun M27 hQ27 => ?_)
    rw [eA, eG, eh]
    refine hr_iload_n X (tL_at tL_ends_0_ok 55 rfl) rfl ?_
    refine hr_iconst (nI 5) X (tL_at tL_ends_0_ok 56 rfl) (by decide) ?_
    refine hl_irem X (tL_at tL_ends_0_ok 57 rfl) (by omega) (by decide) (by decide) ?_
    refine hl_rq0 X kSL_kind (tL_at tL_ends_0_ok 58 rfl) (c_L_kind cA hI hJ hQ27 (nI a) (nI h) (nI (m % 5))) (lh_thTask hI ha hh m5) rfl rfl rfl (Nat.le_of_ble_eq_true rfl) (kr + 9) (sr + 54) ⟨⟨(Nat.le_of_ble_eq_true rfl), (Nat.le_of_ble_eq_true rfl)⟩, (show kr + 6 + 3 ≤ 1110 by omega), (show sr + 36 + 18 ≤ 6660 by omega)⟩ (show kr + 6 + 3 ≤ kr + 9 by omega) (show sr + 36 + 18 ≤ sr + 54 by omega) (fun M28 hQ28 => ?_)
    rw [eA, eH, eT]
    refine hr_istore X (tL_at tL_ends_0_ok 59 rfl) (Nat.le_of_ble_eq_true rfl) ?_
    refine hr_aload_n X (tL_at tL_ends_1_ok 0 rfl) rfl (Or.inr ⟨_, rfl⟩) ?_
    refine hr_iload X (tL_at tL_ends_1_ok 1 rfl) rfl ?_
    refine hr_aload_n X (tL_at tL_ends_1_ok 2 rfl) rfl (Or.inr ⟨_, rfl⟩) ?_
    refine hr_iload X (tL_at tL_ends_1_ok 3 rfl) rfl ?_
    refine hr_iload X (tL_at tL_ends_1_ok 4 rfl) rfl ?_
    refine hl_rq0 X kSL_head (tL_at tL_ends_1_ok 5 rfl) (c_L_head cA hI hJ hQ28 (nI g) (nI a)) (lf_w0 (lf_cs0 hI ha hg4)) rfl rfl rfl (Nat.le_of_ble_eq_true rfl) (kr + 11) (sr + 66) ⟨⟨(Nat.le_of_ble_eq_true rfl), (Nat.le_of_ble_eq_true rfl)⟩, (show kr + 9 + 2 ≤ 1110 by omega), (show sr + 54 + 12 ≤ 6660 by omega)⟩ (show kr + 9 + 2 ≤ kr + 11 by omega) (show sr + 54 + 12 ≤ sr + 66 by omega) (fun M29 hQ29 => ?_)
    rw [eA, eG, eh]
    refine hl_rq0 X kSL_points (tL_at tL_ends_1_ok 6 rfl) (c_L_points cA hI hJ hQ29 (nI a) (nI h)) (lf_w0 hVh) rfl rfl rfl (Nat.le_of_ble_eq_true rfl) (kr + 13) (sr + 78) ⟨⟨(Nat.le_of_ble_eq_true rfl), (Nat.le_of_ble_eq_true rfl)⟩, (show kr + 11 + 2 ≤ 1110 by omega), (show sr + 66 + 12 ≤ 6660 by omega)⟩ (show kr + 11 + 2 ≤ kr + 13 by omega) (show sr + 66 + 12 ≤ sr + 78 by omega) (fun M30 hQ30 => ?_)
    rw [eA, eH]
    refine hr_istore X (tL_at tL_ends_1_ok 7 rfl) (Nat.le_of_ble_eq_true rfl) ?_
    refine hr_aload_n X (tL_at tL_ends_1_ok 8 rfl) rfl (Or.inr ⟨_, rfl⟩) ?_
    refine hr_iload X (tL_at tL_ends_1_ok 9 rfl) rfl ?_
    refine hr_iload X (tL_at tL_ends_1_ok 10 rfl) rfl ?_
    refine hl_rq0 X kSL_due (tL_at tL_ends_1_ok 11 rfl) (c_L_due cA hI hJ hQ30 (nI p) (nI a)) (lf_w0 (lf_bT hI ha hp12)) rfl rfl rfl (Nat.le_of_ble_eq_true rfl) (kr + 15) (sr + 90) ⟨⟨(Nat.le_of_ble_eq_true rfl), (Nat.le_of_ble_eq_true rfl)⟩, (show kr + 13 + 2 ≤ 1110 by omega), (show sr + 78 + 12 ≤ 6660 by omega)⟩ (show kr + 13 + 2 ≤ kr + 15 by omega) (show sr + 78 + 12 ≤ sr + 90 by omega) (fun M31 hQ31 => ?_)
    rw [eK]
    refine hr_istore X (tL_at tL_ends_1_ok 12 rfl) (Nat.le_of_ble_eq_true rfl) ?_
    refine hr_aload_n X (tL_at tL_ends_1_ok 13 rfl) rfl (Or.inr ⟨_, rfl⟩) ?_
    refine hr_iload X (tL_at tL_ends_1_ok 14 rfl) rfl ?_
    refine hl_rq0 X kSL_versions (tL_at tL_ends_1_ok 15 rfl) (c_L_versions cA hI hJ hQ31 (nI a)) (lf_w0 (sp_nat_isS hI ha)) rfl rfl rfl (Nat.le_of_ble_eq_true rfl) (kr + 16) (sr + 96) ⟨⟨(Nat.le_of_ble_eq_true rfl), (Nat.le_of_ble_eq_true rfl)⟩, (show kr + 15 + 1 ≤ 1110 by omega), (show sr + 90 + 6 ≤ 6660 by omega)⟩ (show kr + 15 + 1 ≤ kr + 16 by omega) (show sr + 90 + 6 ≤ sr + 96 by omega) (fun M32 hQ32 => ?_)
    rw [eA]
    refine hr_istore X (tL_at tL_ends_1_ok 16 rfl) (Nat.le_of_ble_eq_true rfl) ?_
    refine hr_aload_n X (tL_at tL_ends_1_ok 17 rfl) rfl (Or.inr ⟨_, rfl⟩) ?_
    refine hr_iload X (tL_at tL_ends_1_ok 18 rfl) rfl ?_
    refine hr_iload X (tL_at tL_ends_1_ok 19 rfl) rfl ?_
    refine hl_call X kSL_folds (tL_at tL_ends_1_ok 20 rfl) (c_L_folds cA hI hJ hQ32 (nI a) (nI k)) rfl rfl rfl (Nat.le_of_ble_eq_true rfl) (kr + 19) (sr + 114) ⟨⟨(Nat.le_of_ble_eq_true rfl), (Nat.le_of_ble_eq_true rfl)⟩, (show kr + 16 + 3 ≤ 1110 by omega), (show sr + 96 + 18 ≤ 6660 by omega)⟩ (show kr + 16 + 3 ≤ kr + 19 by omega) (show sr + 96 + 18 ≤ sr + 114 by omega) (fun M33 hQ33 => ?_)
    rw [if_neg hth] at hQ33
    have hneg := la_neg (e2 := lNS) (e3 := lNS) (x := sp_pass sg (16 * nN (nI a) + nN (nI k)) (sp_toO sg (nN (nI a)) (nN (nI k))) false) (by decide) (by decide) hth
    refine hr_istore X (tL_at tL_ends_1_ok 21 rfl) (Nat.le_of_ble_eq_true rfl) ?_
    refine hr_aload_n X (tL_at tL_ends_1_ok 22 rfl) rfl (Or.inr ⟨_, rfl⟩) ?_
    refine hr_iconst (nI 0) X (tL_at tL_ends_1_ok 23 rfl) (by decide) ?_
    refine hl_rq0 X kSL_used (tL_at tL_ends_1_ok 24 rfl) (c_L_used cA hI hJ hQ33 (nI 0)) (lf_w0 (lf_inN (b := 3) (by decide) (by decide))) rfl rfl rfl (Nat.le_of_ble_eq_true rfl) (kr + 20) (sr + 120) ⟨⟨(Nat.le_of_ble_eq_true rfl), (Nat.le_of_ble_eq_true rfl)⟩, (show kr + 19 + 1 ≤ 1110 by omega), (show sr + 114 + 6 ≤ 6660 by omega)⟩ (show kr + 19 + 1 ≤ kr + 20 by omega) (show sr + 114 + 6 ≤ sr + 120 by omega) (fun M34 hQ34 => ?_)
    rw [(hU 0 (by decide)).1]
    refine hr_aload_n X (tL_at tL_ends_1_ok 25 rfl) rfl (Or.inr ⟨_, rfl⟩) ?_
    refine hr_iconst (nI 1) X (tL_at tL_ends_1_ok 26 rfl) (by decide) ?_
    refine hl_rq0 X kSL_used (tL_at tL_ends_1_ok 27 rfl) (c_L_used cA hI hJ hQ34 (nI 1)) (lf_w0 (lf_inN (b := 3) (by decide) (by decide))) rfl rfl rfl (Nat.le_of_ble_eq_true rfl) (kr + 21) (sr + 126) ⟨⟨(Nat.le_of_ble_eq_true rfl), (Nat.le_of_ble_eq_true rfl)⟩, (show kr + 20 + 1 ≤ 1110 by omega), (show sr + 120 + 6 ≤ 6660 by omega)⟩ (show kr + 20 + 1 ≤ kr + 21 by omega) (show sr + 120 + 6 ≤ sr + 126 by omega) (fun M35 hQ35 => ?_)
    rw [(hU 1 (by decide)).1]
    refine hl_iadd X (tL_at tL_ends_1_ok 28 rfl) ?_
    refine hr_aload_n X (tL_at tL_ends_1_ok 29 rfl) rfl (Or.inr ⟨_, rfl⟩) ?_
    refine hr_iconst (nI 2) X (tL_at tL_ends_1_ok 30 rfl) (by decide) ?_
    refine hl_rq0 X kSL_used (tL_at tL_ends_1_ok 31 rfl) (c_L_used cA hI hJ hQ35 (nI 2)) (lf_w0 (lf_inN (b := 3) (by decide) (by decide))) rfl rfl rfl (Nat.le_of_ble_eq_true rfl) (kr + 22) (sr + 132) ⟨⟨(Nat.le_of_ble_eq_true rfl), (Nat.le_of_ble_eq_true rfl)⟩, (show kr + 21 + 1 ≤ 1110 by omega), (show sr + 126 + 6 ≤ 6660 by omega)⟩ (show kr + 21 + 1 ≤ kr + 22 by omega) (show sr + 126 + 6 ≤ sr + 132 by omega) (fun M36 hQ36 => ?_)
    rw [(hU 2 (by decide)).1]
    refine hl_iadd X (tL_at tL_ends_1_ok 32 rfl) ?_
    refine hr_aload_n X (tL_at tL_ends_1_ok 33 rfl) rfl (Or.inr ⟨_, rfl⟩) ?_
    refine hr_iconst (nI 3) X (tL_at tL_ends_1_ok 34 rfl) (by decide) ?_
    refine hl_rq0 X kSL_used (tL_at tL_ends_1_ok 35 rfl) (c_L_used cA hI hJ hQ36 (nI 3)) (lf_w0 (lf_inN (b := 3) (by decide) (by decide))) rfl rfl rfl (Nat.le_of_ble_eq_true rfl) (kr + 23) (sr + 138) ⟨⟨(Nat.le_of_ble_eq_true rfl), (Nat.le_of_ble_eq_true rfl)⟩, (show kr + 22 + 1 ≤ 1110 by omega), (show sr + 132 + 6 ≤ 6660 by omega)⟩ (show kr + 22 + 1 ≤ kr + 23 by omega) (show sr + 132 + 6 ≤ sr + 138 by omega) (fun M37 hQ37 => ?_)
    rw [(hU 3 (by decide)).1]
    refine hl_iadd X (tL_at tL_ends_1_ok 36 rfl) ?_
    refine hr_istore X (tL_at tL_ends_1_ok 37 rfl) (Nat.le_of_ble_eq_true rfl) ?_
    refine hr_iload X (tL_at tL_ends_1_ok 38 rfl) rfl ?_
    refine hr_if_lt 208 X (tL_at tL_ends_1_ok 39 rfl) (by decide) (fun _ => ?_) (fun c => absurd (Int32.not_le.mp hneg) c)
    refine hr_iload X (tL_at tL_ends_1_ok 59 rfl) rfl ?_
    refine hr_iload X (tL_at tL_ends_2_ok 0 rfl) rfl ?_
    refine hr_icmp_ne 284 X (tL_at tL_ends_2_ok 1 rfl) (by decide) (fun c => absurd rfl c) (fun _ => ?_)
    refine hr_aload_n X (tL_at tL_ends_2_ok 2 rfl) rfl (Or.inr ⟨_, rfl⟩) ?_
    refine hr_iload X (tL_at tL_ends_2_ok 3 rfl) rfl ?_
    refine hl_rq0 X kSL_versions (tL_at tL_ends_2_ok 4 rfl) (c_L_versions cA hI hJ hQ37 (nI a)) (lf_w0 (sp_nat_isS hI ha)) rfl rfl rfl (Nat.le_of_ble_eq_true rfl) (kr + 24) (sr + 144) ⟨⟨(Nat.le_of_ble_eq_true rfl), (Nat.le_of_ble_eq_true rfl)⟩, (show kr + 23 + 1 ≤ 1110 by omega), (show sr + 138 + 6 ≤ 6660 by omega)⟩ (show kr + 23 + 1 ≤ kr + 24 by omega) (show sr + 138 + 6 ≤ sr + 144 by omega) (fun M38 hQ38 => ?_)
    rw [eA]
    refine hr_iload X (tL_at tL_ends_2_ok 5 rfl) rfl ?_
    refine hr_icmp_ne 284 X (tL_at tL_ends_2_ok 6 rfl) (by decide) (fun c => absurd rfl c) (fun _ => ?_)
    refine hr_iload X (tL_at tL_ends_2_ok 7 rfl) rfl ?_
    refine hr_aload_n X (tL_at tL_ends_2_ok 8 rfl) rfl (Or.inr ⟨_, rfl⟩) ?_
    refine hr_iload X (tL_at tL_ends_2_ok 9 rfl) rfl ?_
    refine hr_aload_n X (tL_at tL_ends_2_ok 10 rfl) rfl (Or.inr ⟨_, rfl⟩) ?_
    refine hr_iload X (tL_at tL_ends_2_ok 11 rfl) rfl ?_
    refine hr_iload X (tL_at tL_ends_2_ok 12 rfl) rfl ?_
    refine hl_rq0 X kSL_head (tL_at tL_ends_2_ok 13 rfl) (c_L_head cA hI hJ hQ38 (nI g) (nI a)) (lf_w0 (lf_cs0 hI ha hg4)) rfl rfl rfl (Nat.le_of_ble_eq_true rfl) (kr + 26) (sr + 156) ⟨⟨(Nat.le_of_ble_eq_true rfl), (Nat.le_of_ble_eq_true rfl)⟩, (show kr + 24 + 2 ≤ 1110 by omega), (show sr + 144 + 12 ≤ 6660 by omega)⟩ (show kr + 24 + 2 ≤ kr + 26 by omega) (show sr + 144 + 12 ≤ sr + 156 by omega) (fun M39 hQ39 => ?_)
    rw [eA, eG, eh]
    refine hr_iload_n X (tL_at tL_ends_2_ok 14 rfl) rfl ?_
    refine hr_iconst (nI 5) X (tL_at tL_ends_2_ok 15 rfl) (by decide) ?_
    refine hl_irem X (tL_at tL_ends_2_ok 16 rfl) (by omega) (by decide) (by decide) ?_
    refine hl_rq0 X kSL_kind (tL_at tL_ends_2_ok 17 rfl) (c_L_kind cA hI hJ hQ39 (nI a) (nI h) (nI (m % 5))) (lh_thTask hI ha hh m5) rfl rfl rfl (Nat.le_of_ble_eq_true rfl) (kr + 29) (sr + 174) ⟨⟨(Nat.le_of_ble_eq_true rfl), (Nat.le_of_ble_eq_true rfl)⟩, (show kr + 26 + 3 ≤ 1110 by omega), (show sr + 156 + 18 ≤ 6660 by omega)⟩ (show kr + 26 + 3 ≤ kr + 29 by omega) (show sr + 156 + 18 ≤ sr + 174 by omega) (fun M40 hQ40 => ?_)
    rw [eA, eH, eT]
    refine hr_icmp_ne 284 X (tL_at tL_ends_2_ok 18 rfl) (by decide) (fun c => absurd (rfl) c) (fun _ => ?_)
    refine hr_iload X (tL_at tL_ends_2_ok 19 rfl) rfl ?_
    refine hr_aload_n X (tL_at tL_ends_2_ok 20 rfl) rfl (Or.inr ⟨_, rfl⟩) ?_
    refine hr_iload X (tL_at tL_ends_2_ok 21 rfl) rfl ?_
    refine hr_aload_n X (tL_at tL_ends_2_ok 22 rfl) rfl (Or.inr ⟨_, rfl⟩) ?_
    refine hr_iload X (tL_at tL_ends_2_ok 23 rfl) rfl ?_
    refine hr_iload X (tL_at tL_ends_2_ok 24 rfl) rfl ?_
    refine hl_rq0 X kSL_head (tL_at tL_ends_2_ok 25 rfl) (c_L_head cA hI hJ hQ40 (nI g) (nI a)) (lf_w0 (lf_cs0 hI ha hg4)) rfl rfl rfl (Nat.le_of_ble_eq_true rfl) (kr + 31) (sr + 186) ⟨⟨(Nat.le_of_ble_eq_true rfl), (Nat.le_of_ble_eq_true rfl)⟩, (show kr + 29 + 2 ≤ 1110 by omega), (show sr + 174 + 12 ≤ 6660 by omega)⟩ (show kr + 29 + 2 ≤ kr + 31 by omega) (show sr + 174 + 12 ≤ sr + 186 by omega) (fun M41 hQ41 => ?_)
    rw [eA, eG, eh]
    refine hl_rq0 X kSL_points (tL_at tL_ends_2_ok 26 rfl) (c_L_points cA hI hJ hQ41 (nI a) (nI h)) (lf_w0 hVh) rfl rfl rfl (Nat.le_of_ble_eq_true rfl) (kr + 33) (sr + 198) ⟨⟨(Nat.le_of_ble_eq_true rfl), (Nat.le_of_ble_eq_true rfl)⟩, (show kr + 31 + 2 ≤ 1110 by omega), (show sr + 186 + 12 ≤ 6660 by omega)⟩ (show kr + 31 + 2 ≤ kr + 33 by omega) (show sr + 186 + 12 ≤ sr + 198 by omega) (fun M42 hQ42 => ?_)
    rw [eA, eH]
    refine hr_icmp_ne 284 X (tL_at tL_ends_2_ok 27 rfl) (by decide) (fun c => absurd (rfl) c) (fun _ => ?_)
    refine hr_iload X (tL_at tL_ends_2_ok 28 rfl) rfl ?_
    refine hr_aload_n X (tL_at tL_ends_2_ok 29 rfl) rfl (Or.inr ⟨_, rfl⟩) ?_
    refine hr_iload X (tL_at tL_ends_2_ok 30 rfl) rfl ?_
    refine hr_iload X (tL_at tL_ends_2_ok 31 rfl) rfl ?_
    refine hl_rq0 X kSL_due (tL_at tL_ends_2_ok 32 rfl) (c_L_due cA hI hJ hQ42 (nI p) (nI a)) (lf_w0 (lf_bT hI ha hp12)) rfl rfl rfl (Nat.le_of_ble_eq_true rfl) (kr + 35) (sr + 210) ⟨⟨(Nat.le_of_ble_eq_true rfl), (Nat.le_of_ble_eq_true rfl)⟩, (show kr + 33 + 2 ≤ 1110 by omega), (show sr + 198 + 12 ≤ 6660 by omega)⟩ (show kr + 33 + 2 ≤ kr + 35 by omega) (show sr + 198 + 12 ≤ sr + 210 by omega) (fun M43 hQ43 => ?_)
    rw [eK]
    refine hr_icmp_ne 284 X (tL_at tL_ends_2_ok 33 rfl) (by decide) (fun c => absurd (rfl) c) (fun _ => ?_)
    refine hr_iconst (nI 1) X (tL_at tL_ends_2_ok 34 rfl) (by decide) ?_
    refine hr_goto 285 X (tL_at tL_ends_2_ok 35 rfl) (by decide) ?_
    refine hr_istore_n X (tL_at tL_ends_2_ok 37 rfl) (Nat.le_of_ble_eq_true rfl) ?_
    refine hl_idec X (tL_at tL_ends_2_ok 38 rfl) rfl hk1 ?_
    refine hr_goto 23 X (tL_at tL_ends_2_ok 39 rfl) (by decide) ?_
    refine hr_widen (k2 := kr + 37) (n2 := sr + 222) (by omega) (by omega) ?_
    refine hr_sub (L2 := [some (.ref b), some (.ref nr), some (.int (nI m)), some (.int (nI 1)), some (.int (nI a)), some (.int (nI (k - 1))), none, none, none, none, none, none, none, none, none]) ⟨rfl, rfl, rfl, rfl, rfl, rfl, trivial⟩ ?_
    exact kk sg _ ⟨hI, hJ, hG0, rfl, rfl, rfl⟩ hQ43
set_option maxHeartbeats 4000000 in
set_option maxRecDepth 100000 in
theorem w_N2 {C : hm_C} {nm : String} {Q : State → Prop} {cA : Nat → ClassId} {sg : mm_S} {N M : hm_M} {b nr m a : Nat} {fn : Nat → Int32} {G : mm_S → Prop} (hG : ∀ (s9 : mm_S) (s v : Int32), sp_I s9 → sp_J s9 → G s9 → sp_thFold s9 s v = 0 → G (sp_foldS s9 (nN s) (nN v))) (hG0 : G sg) (X : hm_X C RL cL_ends 15 (some .boolean) nm r_L_ends cA) (hI : sp_I sg) (hJ : sp_J sg) (hm : m < 2 ^ 30) (hQ : ls_Q cA N b sg M) (ha : a < sp_n sg) (ha2 : a < 2) {kr sr : Nat} (hkr : kr + 555 ≤ 1110) (hsr : sr + 3330 ≤ 6660) (e1 : sg 5 a = fn a) (hnr : N nr = some (cr_iw cA 0 2 fn)) (kk : ∀ (s9 : mm_S) (M9 : hm_M), le_R G sg s9 → ls_Q cA N b s9 M9 → hm_W C (kr + 555) (sr + 3330) Q M9 5 [some (.ref b), some (.ref nr), some (.int (nI m)), some (.int (nI 1)), some (.int (nI (a + 1))), none, none, none, none, none, none, none, none, none, none] []) : hm_W C kr sr Q M 5 [some (.ref b), some (.ref nr), some (.int (nI m)), some (.int (nI 1)), some (.int (nI a)), none, none, none, none, none, none, none, none, none, none] [] := by
  obtain ⟨nn, n1, n2, h5, -⟩ := hI.i2 a ha
  refine hr_iload X (tL_at tL_ends_0_ok 4 rfl) rfl ?_
  refine hr_iconst (nI 2) X (tL_at tL_ends_0_ok 5 rfl) (by decide) ?_
  refine hr_icmp_ge 298 X (tL_at tL_ends_0_ok 6 rfl) (by decide) (fun c => absurd c (nI_ge ha2 (by decide))) (fun _ => ?_)
  refine hr_iload_n X (tL_at tL_ends_0_ok 7 rfl) rfl ?_
  refine hr_if_eq 298 X (tL_at tL_ends_0_ok 8 rfl) (by decide) (fun c => absurd c (by decide)) (fun _ => ?_)
  refine hr_aload_n X (tL_at tL_ends_0_ok 9 rfl) rfl (Or.inr ⟨_, rfl⟩) ?_
  refine hr_iload X (tL_at tL_ends_0_ok 10 rfl) rfl ?_
  refine hl_iald X (tL_at tL_ends_0_ok 11 rfl) (ls_at hQ hnr) ha2 (by decide) ?_
  rw [← e1, h5]
  refine hr_iconst (nI 1) X (tL_at tL_ends_0_ok 12 rfl) (by decide) ?_
  refine hr_isub X (tL_at tL_ends_0_ok 13 rfl) ?_
  rw [nI_sub n1]
  refine hr_istore X (tL_at tL_ends_0_ok 14 rfl) (Nat.le_of_ble_eq_true rfl) ?_
  refine hl_for (L := fun i => [some (.ref b), some (.ref nr), some (.int (nI m)), some (.int (nI 1)), some (.int (nI a)), some (.int (nI (nn - 1 - i))), none, none, none, none, none, none, none, none, none]) (I := fun _ M9 => ∃ s9 : mm_S, le_R G sg s9 ∧ ls_Q cA N b s9 M9) (nn - 1) 37 222 kr sr (fun i M9 kr9 sr9 hi h9 hk9 hs9 kk9 => ?_) (fun M9 h9 => ?_) ⟨sg, ⟨hI, hJ, hG0, rfl, rfl, rfl⟩, hQ⟩
  · obtain ⟨s9, hR, hQ9⟩ := h9
    obtain ⟨i1, i2, i3, i4, i5, i6⟩ := hR
    refine w_N1 hG i3 X i1 i2 hm hQ9 (by rw [i6]; exact ha) (by omega) (by omega) (by omega) (by omega) (by omega) (fun s8 M8 hR8 hQ8 => ?_)
    obtain ⟨j1, j2, j3, j4, j5, j6⟩ := hR8
    rw [show nn - 1 - i - 1 = nn - 1 - (i + 1) by omega]
    exact kk9 M8 ⟨s8, ⟨j1, j2, j3, j4.trans i4, j5.trans i5, j6.trans i6⟩, hQ8⟩
  · obtain ⟨s9, hR, hQ9⟩ := h9
    rw [show nn - 1 - (nn - 1) = 0 by omega]
    refine hr_widen (k2 := kr + 555) (n2 := sr + 3330) (by omega) (by omega) ?_
    refine hr_iload X (tL_at tL_ends_0_ok 15 rfl) rfl ?_
    refine hr_if_le 292 X (tL_at tL_ends_0_ok 16 rfl) (by decide) (fun _ => ?_) (fun c => absurd (by decide) c)
    refine hl_iinc X (tL_at tL_ends_2_ok 40 rfl) rfl ?_
    refine hr_goto 5 X (tL_at tL_ends_2_ok 41 rfl) (by decide) ?_
    refine hr_sub (L2 := [some (.ref b), some (.ref nr), some (.int (nI m)), some (.int (nI 1)), some (.int (nI (a + 1))), none, none, none, none, none, none, none, none, none, none]) ⟨rfl, rfl, rfl, rfl, rfl, trivial⟩ ?_
    exact kk s9 _ hR hQ9
set_option maxHeartbeats 4000000 in
set_option maxRecDepth 100000 in
theorem c_L_ends (cA : Nat → ClassId) {sg : mm_S} {N M : hm_M} {b nr m : Nat} {fn : Nat → Int32} {G : mm_S → Prop} (hG : ∀ (s9 : mm_S) (s v : Int32), sp_I s9 → sp_J s9 → G s9 → sp_thFold s9 s v = 0 → G (sp_foldS s9 (nN s) (nN v))) (hG0 : G sg) (hI : sp_I sg) (hJ : sp_J sg) (hm : m < 2 ^ 30) (hQ : ls_Q cA N b sg M) (h2 : 2 ≤ sp_n sg) (e1 : ∀ a, a < 2 → sg 5 a = fn a) (hnr : N nr = some (cr_iw cA 0 2 fn)) : hm_Met cA yL_ends cL_ends 15 (some .boolean) r_L_ends [.ref b, .ref nr, .int (nI m)] M (fun v M' => v = some (.int (nI 1)) ∧ ∃ s9 : mm_S, le_R G sg s9 ∧ ls_Q cA N b s9 M') := by
  refine hm_met 12 (by decide +kernel) (fun w h => by simp only [List.mem_cons, List.not_mem_nil, or_false] at h; rcases h with rfl | rfl | rfl <;> rfl) rfl (fun C X => ?_)
  show hm_W C 0 0 _ M 0 [some (.ref b), some (.ref nr), some (.int (nI m)), none, none, none, none, none, none, none, none, none, none, none, none] []
  refine hr_iconst (nI 1) X (tL_at tL_ends_0_ok 0 rfl) (by decide) ?_
  refine hr_istore_n X (tL_at tL_ends_0_ok 1 rfl) (Nat.le_of_ble_eq_true rfl) ?_
  refine hr_iconst (nI 0) X (tL_at tL_ends_0_ok 2 rfl) (by decide) ?_
  refine hr_istore X (tL_at tL_ends_0_ok 3 rfl) (Nat.le_of_ble_eq_true rfl) ?_
  refine hl_for (L := fun i => [some (.ref b), some (.ref nr), some (.int (nI m)), some (.int (nI 1)), some (.int (nI i)), none, none, none, none, none, none, none, none, none, none]) (I := fun _ M9 => ∃ s9 : mm_S, le_R G sg s9 ∧ ls_Q cA N b s9 M9) 2 555 3330 0 0 (fun i M9 kr9 sr9 hi h9 hk9 hs9 kk9 => ?_) (fun M9 h9 => ?_) ⟨sg, ⟨hI, hJ, hG0, rfl, rfl, rfl⟩, hQ⟩
  · obtain ⟨s9, hR, hQ9⟩ := h9
    obtain ⟨i1, i2, i3, i4, i5, i6⟩ := hR
    refine w_N2 hG i3 X i1 i2 hm hQ9 (by omega) hi (by omega) (by omega) (by rw [i4]; exact e1 i hi) hnr (fun s8 M8 hR8 hQ8 => ?_)
    obtain ⟨j1, j2, j3, j4, j5, j6⟩ := hR8
    exact kk9 M8 ⟨s8, ⟨j1, j2, j3, j4.trans i4, j5.trans i5, j6.trans i6⟩, hQ8⟩
  · obtain ⟨s9, hR, hQ9⟩ := h9
    refine hr_widen (k2 := 1110) (n2 := 6660) (by omega) (by omega) ?_
    refine hr_iload X (tL_at tL_ends_0_ok 4 rfl) rfl ?_
    refine hr_iconst (nI 2) X (tL_at tL_ends_0_ok 5 rfl) (by decide) ?_
    refine hr_icmp_ge 298 X (tL_at tL_ends_0_ok 6 rfl) (by decide) (fun _ => ?_) (fun c => absurd (Int32.le_refl _) c)
    refine hr_iload_n X (tL_at tL_ends_2_ok 42 rfl) rfl ?_
    exact hr_zret X (tL_at tL_ends_2_ok 43 rfl) (by rfl) (Nat.le_of_ble_eq_true rfl) (Nat.le_of_ble_eq_true rfl) ⟨rfl, s9, hR, hQ9⟩
