/-! the law's loop and its beginning -/
def lw_TG : List Nat := [196, 240, 358, 462, 566, 646, 726, 794, 807, 863, 931, 999, 1079, 1159, 1227, 1331, 1423, 1515, 1583, 1675, 1743, 1811, 1879, 1947, 2015, 2083, 2151, 2219, 2287, 2367, 2423, 2491, 2547, 2615, 2671]
theorem lw_sw : ∀ j, j < 35 → (#[156, 200, 318, 422, 526, 606, 686, 754, 767, 823, 891, 959, 1039, 1119, 1187, 1291, 1383, 1475, 1543, 1635, 1703, 1771, 1839, 1907, 1975, 2043, 2111, 2179, 2247, 2327, 2383, 2451, 2507, 2575, 2631] : Array Int)[j]? = some ((lw_TG.getD j 0 : Int) - 40) ∧ lw_TG.getD j 0 ∈ lw_TG := by decide
theorem lw_gt {i N : Nat} (h : i ≤ N) (hN : N ≤ 3584) (h7 : N < i + 7) : Int32.ofNat N - 7 < nI i := by
  rcases Nat.lt_or_ge N 7 with q | q
  · exact (show ∀ N, N < 7 → ∀ i, i ≤ N → Int32.ofNat N - 7 < nI i by decide) N q i h
  · have e : Int32.ofNat N = nI (N - 7) + 7 := by
      rw [show (7 : Int32) = nI 7 from rfl, nI_add, Nat.sub_add_cancel q]
      rfl
    rw [e, Int32.add_sub_cancel]
    exact nI_lt (by omega) (by omega)
section LL
variable {C : hm_C} {nm : String} {cA : Nat → ClassId} {Q : State → Prop} {sc N b o mo : Nat} {xs : Nat → Int32} {ad : Nat → Nat}
set_option maxHeartbeats 4000000 in
set_option maxRecDepth 100000 in
theorem lw_loop (X : hm_X C RL cL_law 7 (some .boolean) nm room_1 cA) (S : hm_Scr C sc N xs) (hN : N ≤ 3584) (kend : ∀ (k n : Nat) (M : hm_M) (L : List (Option Value)), L.length = 7 → k ≤ 601024 → n ≤ 7293033 → hm_W C k n Q M 2733 L []) : ∀ (fu i k n : Nat) (M : hm_M) (sg : mm_S) (f : Nat → Int64), i ≤ N → N + 7 ≤ i + 7 * fu → k + 16 * fu ≤ 601024 → n + 166 * fu ≤ 7293033 → lw_J cA b o mo ad sg f M → hm_W C k n Q M 23 (lw_L sc b mo o i) [] := by
  intro fu
  induction fu with
  | zero => intro i k n M sg f h1 h2; exact absurd h2 (by omega)
  | succ fu ih =>
    intro i k n M sg f h1 h2 h3 h4 hJ
    have hk : k + 16 ≤ 601024 := by omega
    have hn : n + 166 ≤ 7293033 := by omega
    have hN6 : N < 4096 := by omega
    refine hr_iload X (tL_at tL_law_0_ok 13 rfl) rfl ?_
    refine hr_aload_n X (tL_at tL_law_0_ok 14 rfl) rfl (Or.inr ⟨_, rfl⟩) ?_
    refine hr_slen X S (tL_at tL_law_0_ok 15 rfl) ?_
    refine hr_bipush 7 X (tL_at tL_law_0_ok 16 rfl) (by decide) ?_
    refine hr_isub X (tL_at tL_law_0_ok 17 rfl) ?_
    refine hr_icmp_gt 2733 X (tL_at tL_law_0_ok 18 rfl) (by decide) (fun _ => kend k n M _ rfl (by omega) (by omega)) (fun c => ?_)
    have hi : i + 7 ≤ N := by
      rcases Nat.lt_or_ge N (i + 7) with q | q
      · exact absurd (lw_gt h1 hN q) c
      · exact q
    have back : ∀ (sg9 : mm_S) (f9 : Nat → Int64) (M9 : hm_M), lw_J cA b o mo ad sg9 f9 M9 → hm_W C (k + 16) (n + 166) Q M9 2727 (lw_L sc b mo o i) [] := by
      intro sg9 f9 M9 h9
      refine hr_iinc 7 X (tL_at tL_law_28_ok 52 rfl) rfl (by decide) ?_
      refine hr_goto 23 X (tL_at tL_law_28_ok 53 rfl) (by decide) ?_
      have e : nI i + 7 = nI (i + 7) := nI_add i 7
      show hm_W C _ _ Q M9 23 [some (.ref sc), some (.ref b), some (.ref mo), some (.ref o), some (.int (nI i + 7)), none, none] []
      rw [e]
      exact ih (i + 7) _ _ M9 sg9 f9 hi (by omega) (by omega) (by omega) h9
    refine hr_aload_n X (tL_at tL_law_0_ok 19 rfl) rfl (Or.inr ⟨_, rfl⟩) ?_
    refine hr_iload X (tL_at tL_law_0_ok 20 rfl) rfl ?_
    refine hr_sald X S (tL_at tL_law_0_ok 21 rfl) (mm_in rfl (by omega) (by omega)).1 ?_
    refine hr_bipush 63 X (tL_at tL_law_0_ok 22 rfl) (by decide) ?_
    refine hr_iand X (tL_at tL_law_0_ok 23 rfl) ?_
    generalize xs (nI i).toNatClampNeg &&& 63 = x
    by_cases hsw : x.toInt < 0 ∨ 34 < x.toInt
    · refine hr_tableOut 2727 X (tL_at tL_law_0_ok 24 rfl) hsw (by decide) ?_
      exact hr_widen (Nat.le_add_right k 16) (Nat.le_add_right n 166) (back sg f M hJ)
    · have h5 : ¬ x.toInt < 0 := fun q => hsw (Or.inl q)
      have h6 : ¬ 34 < x.toInt := fun q => hsw (Or.inr q)
      obtain ⟨ho, ht⟩ := lw_sw (x.toInt - 0).toNat (by omega)
      have all : ∀ t ∈ lw_TG, hm_W C k n Q M t (lw_L sc b mo o i) [] := (List.forall_mem_cons.mpr ⟨w_L_addSheet X S hi hN6 hk hn hJ back, (List.forall_mem_cons.mpr ⟨w_L_setNumber X S hi hN6 hk hn hJ back, (List.forall_mem_cons.mpr ⟨w_L_setChoice X S hi hN6 hk hn hJ back, (List.forall_mem_cons.mpr ⟨w_L_setWords X S hi hN6 hk hn hJ back, (List.forall_mem_cons.mpr ⟨w_L_drop X S hi hN6 hk hn hJ back, (List.forall_mem_cons.mpr ⟨w_L_adopt X S hi hN6 hk hn hJ back, (List.forall_mem_cons.mpr ⟨w_L_fold X S hi hN6 hk hn hJ back, (List.forall_mem_cons.mpr ⟨w_L_sheets X S hi hN6 hk hn hJ back, (List.forall_mem_cons.mpr ⟨w_L_versions X S hi hN6 hk hn hJ back, (List.forall_mem_cons.mpr ⟨w_L_head X S hi hN6 hk hn hJ back, (List.forall_mem_cons.mpr ⟨w_L_parent X S hi hN6 hk hn hJ back, (List.forall_mem_cons.mpr ⟨w_L_kindOf X S hi hN6 hk hn hJ back, (List.forall_mem_cons.mpr ⟨w_L_toldIn X S hi hN6 hk hn hJ back, (List.forall_mem_cons.mpr ⟨w_L_points X S hi hN6 hk hn hJ back, (List.forall_mem_cons.mpr ⟨w_L_mendNumber X S hi hN6 hk hn hJ back, (List.forall_mem_cons.mpr ⟨w_L_mendChoice X S hi hN6 hk hn hJ back, (List.forall_mem_cons.mpr ⟨w_L_mendWords X S hi hN6 hk hn hJ back, (List.forall_mem_cons.mpr ⟨w_L_open X S hi hN6 hk hn hJ back, (List.forall_mem_cons.mpr ⟨w_L_say X S hi hN6 hk hn hJ back, (List.forall_mem_cons.mpr ⟨w_L_hand X S hi hN6 hk hn hJ back, (List.forall_mem_cons.mpr ⟨w_L_close X S hi hN6 hk hn hJ back, (List.forall_mem_cons.mpr ⟨w_L_answer X S hi hN6 hk hn hJ back, (List.forall_mem_cons.mpr ⟨w_L_mark X S hi hN6 hk hn hJ back, (List.forall_mem_cons.mpr ⟨w_L_due X S hi hN6 hk hn hJ back, (List.forall_mem_cons.mpr ⟨w_L_told X S hi hN6 hk hn hJ back, (List.forall_mem_cons.mpr ⟨w_L_average X S hi hN6 hk hn hJ back, (List.forall_mem_cons.mpr ⟨w_L_fingerprints X S hi hN6 hk hn hJ back, (List.forall_mem_cons.mpr ⟨w_L_withPrint X S hi hN6 hk hn hJ back, (List.forall_mem_cons.mpr ⟨w_L_likeness X S hi hN6 hk hn hJ back, (List.forall_mem_cons.mpr ⟨w_L_pairs X S hi hN6 hk hn hJ back, (List.forall_mem_cons.mpr ⟨w_L_pairAt X S hi hN6 hk hn hJ back, (List.forall_mem_cons.mpr ⟨w_L_pairsAnew X S hi hN6 hk hn hJ back, (List.forall_mem_cons.mpr ⟨w_L_setQuota X S hi hN6 hk hn hJ back, (List.forall_mem_cons.mpr ⟨w_L_used X S hi hN6 hk hn hJ back, (List.forall_mem_cons.mpr ⟨w_L_usedAnew X S hi hN6 hk hn hJ back, (fun _ h => absurd h List.not_mem_nil)⟩)⟩)⟩)⟩)⟩)⟩)⟩)⟩)⟩)⟩)⟩)⟩)⟩)⟩)⟩)⟩)⟩)⟩)⟩)⟩)⟩)⟩)⟩)⟩)⟩)⟩)⟩)⟩)⟩)⟩)⟩)⟩)⟩)⟩)⟩)
      exact hr_tableIn (lw_TG.getD (x.toInt - 0).toNat 0) X (tL_at tL_law_0_ok 24 rfl) h5 h6 ho (by omega) (all _ ht)
end LL
theorem lw_J0 {cA : Nat → ClassId} {adS : Nat → Nat → Nat} {ad : Nat → Nat} {mo o : Nat} {M1 M2 : hm_M} {e : va_E} (hR : cr_R cA (sp_S0 4 320) (fun _ _ => 0) adS (fun _ => none) M1) (hmo : M1 mo = none) (hM : mm_R cA (sp_S0 4 320) (fun _ _ => 0) ad mo (hm_up M1 mo e) M2) (hfr : ∀ j, mm_ar j = true → hm_up M1 mo e (ad j) = none) (ho : M2 o = none) : lw_J cA (adS 0 0) o mo ad (sp_S0 4 320) (fun _ => 0) (hm_up M2 o (lw_o cA (fun _ => 0))) := by
  have hom : o ≠ mo := fun e => by rw [e, hM.1] at ho; cases ho
  have hoa : ∀ j, mm_ar j = true → o ≠ ad j := fun j hj e => by rw [e, hM.2.1 j hj] at ho; cases ho
  have ha1 : ∀ j, mm_ar j = true → ad j ≠ mo ∧ M1 (ad j) = none := fun j hj => hm_up_none (hfr j hj)
  have ho1 : M1 o = none := by
    rw [hM.2.2.2 o hom hoa, hm_up_n hom] at ho
    exact ho
  refine ⟨sp_I_S0, sp_J_S0, fun a => match M1 a with | some _ => none | none => hm_up M2 o (lw_o cA (fun _ => 0)) a, fun _ _ => 0, ⟨?_, fun j hj => ?_, hM.2.2.1, fun _ _ _ => rfl⟩, ?_, ⟨fun _ _ => 0, adS, ⟨fun q x e he => ?_, hR.2.1, fun a e ha => ?_⟩, cr_ok_S0, rfl⟩⟩
  · dsimp only
    rw [hmo]
    exact (hm_up_n hom.symm).trans hM.1
  · dsimp only
    rw [(ha1 j hj).2]
    exact (hm_up_n (hoa j hj).symm).trans (hM.2.1 j hj)
  · dsimp only
    rw [ho1]
    exact hm_up_s
  · have h1 := (hR.1 q x e he).1
    refine ⟨?_, by dsimp only; rw [h1]⟩
    have n1 : adS q x ≠ o := fun z => by rw [z, ho1] at h1; cases h1
    have n2 : adS q x ≠ mo := fun z => by rw [z, hmo] at h1; cases h1
    have n3 : ∀ j, mm_ar j = true → adS q x ≠ ad j := fun j hj z => by rw [z, (ha1 j hj).2] at h1; cases h1
    rw [hm_up_n n1, hM.2.2.2 _ n2 n3, hm_up_n n2]
    exact h1
  · dsimp only at ha
    cases z : M1 a with
    | some e0 => rw [z] at ha; cases ha
    | none => rw [z] at ha; exact ha
set_option maxHeartbeats 4000000 in
set_option maxRecDepth 100000 in
theorem lw_begin {C : hm_C} {nm : String} {cA : Nat → ClassId} {Q : State → Prop} {sc N : Nat} {xs : Nat → Int32} (X : hm_X C RL cL_law 7 (some .boolean) nm room_1 cA) (S : hm_Scr C sc N xs) (hN : N ≤ 3584) (kend : ∀ (k n : Nat) (M : hm_M) (L : List (Option Value)), L.length = 7 → k ≤ 601024 → n ≤ 7293033 → hm_W C k n Q M 2733 L []) : hm_W C 0 0 Q (fun _ => none) 0 [some (.ref sc), none, none, none, none, none, none] [] := by
  refine hr_new [.null, .int 0, .null, .null, .null, .null, .null] X kNL_8 (tL_at tL_law_0_ok 0 rfl) (by intro j hj; rcases j with _ | _ | _ | _ | _ | _ | _ | j <;> first | rfl | omega) ⟨(Nat.le_of_ble_eq_true rfl), (Nat.le_of_ble_eq_true rfl)⟩ (fun b hb => ?_)
  refine hr_dup X (tL_at tL_law_0_ok 1 rfl) rfl ?_
  refine hr_callI X kCL_124 (tL_at tL_law_0_ok 2 rfl) (c_X5_init cA hb) rfl rfl rfl (Nat.le_of_ble_eq_true rfl) ⟨⟨(Nat.le_of_ble_eq_true rfl), (Nat.le_of_ble_eq_true rfl)⟩, (Nat.le_of_ble_eq_true rfl), (Nat.le_of_ble_eq_true rfl)⟩ (fun v M1 hp => ?_)
  obtain ⟨rfl, adS, rfl, hR⟩ := hp
  refine hr_astore_n X (tL_at tL_law_0_ok 3 rfl) (Nat.le_of_ble_eq_true rfl) (Or.inr ⟨_, rfl⟩) ?_
  refine hr_new (mm_fi 2 (fun _ => 0)) X kNL_125 (tL_at tL_law_0_ok 4 rfl) (by intro j hj; rcases j with _ | _ | _ | _ | _ | _ | _ | _ | _ | _ | _ | _ | _ | _ | _ | _ | _ | _ | _ | _ | _ | _ | _ | _ | _ | _ | _ | j <;> first | rfl | omega) ⟨(Nat.le_of_ble_eq_true rfl), (Nat.le_of_ble_eq_true rfl)⟩ (fun mo hmo => ?_)
  refine hr_dup X (tL_at tL_law_0_ok 5 rfl) rfl ?_
  refine hr_callI X kCL_127 (tL_at tL_law_0_ok 6 rfl) (c_X6_init cA hm_up_s) rfl rfl rfl (Nat.le_of_ble_eq_true rfl) ⟨⟨(Nat.le_of_ble_eq_true rfl), (Nat.le_of_ble_eq_true rfl)⟩, (Nat.le_of_ble_eq_true rfl), (Nat.le_of_ble_eq_true rfl)⟩ (fun v M2 hp => ?_)
  obtain ⟨ad, hM, rfl, hfr⟩ := hp
  refine hr_astore_n X (tL_at tL_law_0_ok 7 rfl) (Nat.le_of_ble_eq_true rfl) (Or.inr ⟨_, rfl⟩) ?_
  refine hr_iconst 1 X (tL_at tL_law_0_ok 8 rfl) (by decide) ?_
  refine hr_newa 2 .long 1 (1, .inr (.inl (fun _ => 0))) X (tL_at tL_law_0_ok 9 rfl) rfl kA_long (fun _ => rfl) (by decide) (by decide) (by decide) ⟨(Nat.le_of_ble_eq_true rfl), (Nat.le_of_ble_eq_true rfl)⟩ hm_nuJ (fun o ho => ?_)
  refine hr_astore_n X (tL_at tL_law_0_ok 10 rfl) (Nat.le_of_ble_eq_true rfl) (Or.inr ⟨_, rfl⟩) ?_
  refine hr_iconst 0 X (tL_at tL_law_0_ok 11 rfl) (by decide) ?_
  refine hr_istore X (tL_at tL_law_0_ok 12 rfl) (Nat.le_of_ble_eq_true rfl) ?_
  have hJ := lw_J0 hR hmo hM hfr ho
  exact lw_loop X S hN kend 513 0 _ _ _ _ _ (Nat.zero_le _) (by omega) (Nat.le_of_ble_eq_true rfl) (Nat.le_of_ble_eq_true rfl) hJ
