/-! reading calls with loops: versions, points, average -/
theorem hl_loc {C : hm_C} {k n : Nat} {Q : State → Prop} {M : hm_M} {pc : Nat} {L L2 : List (Option Value)} {st : List Value} (h : L = L2) (kk : hm_W C k n Q M pc L2 st) : hm_W C k n Q M pc L st := h ▸ kk
theorem sp_is_up {f : Nat → Int32} {n : Nat} {x : Int32} (h : f n = x) : sp_is f (n + 1) = sp_is f n + x := by rw [sp_is, h]
theorem sp_is_st {f : Nat → Int32} {n : Nat} (h : f n = 0) : sp_is f (n + 1) = sp_is f n := by rw [sp_is, h, Int32.add_zero]
/-- a group's places among all -/
def sl_gp (g : Nat) (f : Nat → Int32) : Nat → Int32 := fun p => if nI p / 3 = nI g then f p else 0
theorem sl_gp_y {g p : Nat} {f : Nat → Int32} (h : nI p / 3 = nI g) : sl_gp g f p = f p := if_pos h
theorem sl_gp_n {g p : Nat} {f : Nat → Int32} (h : ¬ nI p / 3 = nI g) : sl_gp g f p = 0 := if_neg h
theorem sl_gp_3 {g : Nat} (hg : g < 4) (f : Nat → Int32) : sp_is (sl_gp g f) 12 = sp_is (fun i => f (3 * g + i)) 3 := by
  have hd : ∀ p, p < 12 → sl_gp g f p = if p / 3 = g then f p else 0 := fun p hp => by
    unfold sl_gp
    rw [mm_d3 (by omega)]
    by_cases q : p / 3 = g
    · rw [if_pos q, if_pos (by rw [q])]
    · rw [if_neg q, if_neg (fun z => q ((nI_eq (by omega) (by omega)).mp z))]
  rw [sp_is_congr 12 hd]
  have hc : g = 0 ∨ g = 1 ∨ g = 2 ∨ g = 3 := by omega
  rcases hc with rfl | rfl | rfl | rfl <;> simp [sp_is]
def sl_av (sg : mm_S) (b : Nat) (p : Nat) : Int32 := if sg 13 (b + p) = 2 then sg 15 (b + p) else 0
def sl_an (sg : mm_S) (b : Nat) (p : Nat) : Int32 := if sg 13 (b + p) = 2 then 1 else 0
theorem sl_av_3 {sg : mm_S} {a g : Nat} (hg : g < 4) : sp_is (sl_gp g (sl_av sg (12 * a))) 12 = sp_avS sg (12 * a + 3 * g) 3 ∧ sp_is (sl_gp g (sl_an sg (12 * a))) 12 = sp_avN sg (12 * a + 3 * g) 3 := by
  rw [sl_gp_3 hg, sl_gp_3 hg]
  refine ⟨sp_is_congr 3 (fun k _ => ?_), sp_is_congr 3 (fun k _ => ?_)⟩
  · unfold sl_av
    rw [Nat.add_assoc]
  · unfold sl_an
    rw [Nat.add_assoc]
set_option maxHeartbeats 4000000 in
set_option maxRecDepth 100000 in
theorem c_X5_versions (cA : Nat → ClassId) {sg ta : mm_S} {ad : Nat → Nat → Nat} {M0 M : hm_M} (hR : cr_R cA sg ta ad M0 M) (hI : sp_I sg) (s : Int32) : hm_XMet cA yX5_versions cX5_versions 5 (some .int) r_X5_versions [.ref (ad 0 0), .int s] M (fun v' M' => sp_isS sg s = true ∧ v' = some (.int (sp_vers sg (nN s))) ∧ M = M') (fun E M' => sp_isS sg s = false ∧ E = "java/lang/IndexOutOfBoundsException" ∧ M = M') := by
  refine hm_xmet 3 (by decide +kernel) (fun w h => by simp only [List.mem_cons, List.not_mem_nil, or_false] at h; rcases h with rfl | rfl <;> rfl) rfl (fun C X XE => ?_)
  show hm_W C 0 0 _ M 0 [some (.ref (ad 0 0)), some (.int s), none, none, none] []
  refine hr_aload_n X dX5_versions_0 rfl (Or.inr ⟨_, rfl⟩) ?_
  refine hr_iload_n X dX5_versions_1 rfl ?_
  refine hr_callVX X XE kC5_49 dX5_versions_2 (c_X5_sheetAt cA hR hI s) hR.c0 rfl rfl rfl rfl (Nat.le_of_ble_eq_true rfl) ⟨⟨(Nat.le_of_ble_eq_true rfl), (Nat.le_of_ble_eq_true rfl)⟩, (Nat.le_of_ble_eq_true rfl), (Nat.le_of_ble_eq_true rfl)⟩ (Nat.le_of_ble_eq_true rfl) (Nat.le_of_ble_eq_true rfl) (fun _ _ h => ⟨h.1, h.2⟩) (fun v M2 hp2 => ?_)
  obtain ⟨⟨a, ha, hs, rfl, rfl⟩, rfl⟩ := hp2
  obtain ⟨ha1, ha4⟩ := cr_isS_4 hI hs
  have hS1 : sp_isS sg (nI a) = true := by rw [← cr_isS_nat hI ha]; exact hs
  refine hr_astore_n X dX5_versions_5 (Nat.le_of_ble_eq_true rfl) (Or.inr ⟨_, rfl⟩) ?_
  refine hr_iconst (0) X dX5_versions_6 (by decide) ?_
  refine hr_istore_n X dX5_versions_7 (Nat.le_of_ble_eq_true rfl) ?_
  refine hr_iconst (0) X dX5_versions_8 (by decide) ?_
  refine hr_istore X dX5_versions_9 (Nat.le_of_ble_eq_true rfl) ?_
  have lp11 : ∀ (f : Nat) (n : Nat), 16 < n + f → n ≤ 16 → hm_W C (0 + r_X5_sheetAt.cells) (0 + r_X5_sheetAt.slots) (hm_TX C (fun v' M' => sp_isS sg (nI a) = true ∧ v' = some (.int (sp_vers sg (nN (nI a)))) ∧ M = M') (fun E M' => sp_isS sg (nI a) = false ∧ E = "java/lang/IndexOutOfBoundsException" ∧ M = M') r_X5_versions.cells r_X5_versions.slots) M 11 [some (.ref (ad 0 0)), some (.int (nI a)), some (.ref (ad 8 a)), some (.int (sp_is (fun v => if sg 2 (16 * a + v) = 0 then (0 : Int32) else 1) n)), some (.int (nI n))] [] := by
    intro f
    induction f with
    | zero => intro n h1 h2; exact absurd h1 (by omega)
    | succ f ih =>
      intro n h1 h2
      refine hr_iload X dX5_versions_11 rfl ?_
      refine hr_bipush (16) X dX5_versions_13 (by decide) ?_
      refine hr_icmp_ge 37 X dX5_versions_15 (by decide) (fun c15 => ?_) (fun c15 => ?_)
      · have hz : n = 16 := by have := (nI_leI (a := 16) (by decide) (by omega)).mp c15; omega
        subst hz
        refine hr_iload_n X dX5_versions_37 rfl ?_
        exact hr_iretX X dX5_versions_38 (Nat.le_of_ble_eq_true rfl) (Nat.le_of_ble_eq_true rfl) ⟨hS1, by rw [show nN (nI a) = a from nI_clamp (by omega)]; rfl, rfl⟩
      · have hn : n < 16 := by
          rcases Nat.lt_or_ge n 16 with q | q
          · exact q
          · exact absurd (nI_le (by omega) (by omega)) c15
        refine hr_aload_n X dX5_versions_18 rfl (Or.inr ⟨_, rfl⟩) ?_
        refine hr_get X kF5_132 dX5_versions_19 (hR.c8 hs) rfl ?_
        refine hr_iload X dX5_versions_22 rfl ?_
        refine hr_aald 4 X rfl dX5_versions_24 (hR.c9 hs) (mm_in rfl (by omega) (by decide)).1 ?_
        rw [nI_clamp (by omega)]
        have J31 : hm_W C (0 + r_X5_sheetAt.cells) (0 + r_X5_sheetAt.slots) (hm_TX C (fun v' M' => sp_isS sg (nI a) = true ∧ v' = some (.int (sp_vers sg (nN (nI a)))) ∧ M = M') (fun E M' => sp_isS sg (nI a) = false ∧ E = "java/lang/IndexOutOfBoundsException" ∧ M = M') r_X5_versions.cells r_X5_versions.slots) M 31 [some (.ref (ad 0 0)), some (.int (nI a)), some (.ref (ad 8 a)), some (.int (sp_is (fun v => if sg 2 (16 * a + v) = 0 then (0 : Int32) else 1) (n + 1))), some (.int (nI n))] [] := by
          refine hr_iinc (1) X dX5_versions_31 rfl (by decide) ?_
          refine hr_goto 11 X dX5_versions_34 (by decide) ?_
          rw [nI_1]
          exact ih (n + 1) (by omega) (by omega)
        refine hr_ifnull 31 X dX5_versions_25 (by decide) (fun c25 => ?_) (fun a25 c25 => ?_)
        · have hz : sp_is (fun v => if sg 2 (16 * a + v) = 0 then (0 : Int32) else 1) (n + 1) = sp_is (fun v => if sg 2 (16 * a + v) = 0 then (0 : Int32) else 1) n := sp_is_st (by
            by_cases q : sg 2 (16 * a + n) = 0
            · exact if_pos q
            · rw [if_neg q] at c25; cases c25)
          exact hl_loc (by rw [hz] <;> rfl) J31
        · have hz : sp_is (fun v => if sg 2 (16 * a + v) = 0 then (0 : Int32) else 1) (n + 1) = sp_is (fun v => if sg 2 (16 * a + v) = 0 then (0 : Int32) else 1) n + 1 := sp_is_up (by
            by_cases q : sg 2 (16 * a + n) = 0
            · rw [if_pos q] at c25; cases c25
            · exact if_neg q)
          refine hr_iinc (1) X dX5_versions_28 rfl (by decide) ?_
          exact hl_loc (by rw [hz] <;> rfl) J31
  exact lp11 17 0 (by decide) (by decide)
set_option maxHeartbeats 4000000 in
set_option maxRecDepth 100000 in
theorem c_X5_points (cA : Nat → ClassId) {sg ta : mm_S} {ad : Nat → Nat → Nat} {M0 M : hm_M} (hR : cr_R cA sg ta ad M0 M) (hI : sp_I sg) (s v : Int32) : hm_XMet cA yX5_points cX5_points 7 (some .int) r_X5_points [.ref (ad 0 0), .int s, .int v] M (fun v' M' => sp_isV sg s v = true ∧ v' = some (.int (sp_pts sg (nN s) (nN v))) ∧ M = M') (fun E M' => sp_isV sg s v = false ∧ E = "java/lang/IndexOutOfBoundsException" ∧ M = M') := by
  refine hm_xmet 4 (by decide +kernel) (fun w h => by simp only [List.mem_cons, List.not_mem_nil, or_false] at h; rcases h with rfl | rfl | rfl <;> rfl) rfl (fun C X XE => ?_)
  show hm_W C 0 0 _ M 0 [some (.ref (ad 0 0)), some (.int s), some (.int v), none, none, none, none] []
  refine hr_aload_n X dX5_points_0 rfl (Or.inr ⟨_, rfl⟩) ?_
  refine hr_iload_n X dX5_points_1 rfl ?_
  refine hr_callVX X XE kC5_49 dX5_points_2 (c_X5_sheetAt cA hR hI s) hR.c0 rfl rfl rfl rfl (Nat.le_of_ble_eq_true rfl) ⟨⟨(Nat.le_of_ble_eq_true rfl), (Nat.le_of_ble_eq_true rfl)⟩, (Nat.le_of_ble_eq_true rfl), (Nat.le_of_ble_eq_true rfl)⟩ (Nat.le_of_ble_eq_true rfl) (Nat.le_of_ble_eq_true rfl) (fun _ _ h => ⟨sp_isV_S h.1, h.2⟩) (fun v M2 hp2 => ?_)
  obtain ⟨⟨a, ha, hs, rfl, rfl⟩, rfl⟩ := hp2
  obtain ⟨ha1, ha4⟩ := cr_isS_4 hI hs
  refine hr_iload_n X dX5_points_5 rfl ?_
  refine hr_callSX X XE kC5_86 dX5_points_6 (c_X5_versionAt cA hR hI a hs v) rfl rfl rfl (Nat.le_of_ble_eq_true rfl) ⟨⟨(Nat.le_of_ble_eq_true rfl), (Nat.le_of_ble_eq_true rfl)⟩, (Nat.le_of_ble_eq_true rfl), (Nat.le_of_ble_eq_true rfl)⟩ (Nat.le_of_ble_eq_true rfl) (Nat.le_of_ble_eq_true rfl) (fun _ _ h => ⟨h.1, h.2⟩) (fun v M6 hp6 => ?_)
  obtain ⟨⟨c, hc, hn, rfl, rfl⟩, rfl⟩ := hp6
  have hv : sp_th sg a c := ⟨hc, hn⟩
  have hx := cr_isV_th ha1 hv
  have hV := sp_isV_yes hI ha4 hs hc hn
  refine hr_astore_n X dX5_points_9 (Nat.le_of_ble_eq_true rfl) (Or.inr ⟨_, rfl⟩) ?_
  refine hr_iconst (0) X dX5_points_10 (by decide) ?_
  refine hr_istore X dX5_points_11 (Nat.le_of_ble_eq_true rfl) ?_
  refine hr_iconst (0) X dX5_points_13 (by decide) ?_
  refine hr_istore X dX5_points_14 (Nat.le_of_ble_eq_true rfl) ?_
  have lp16 : ∀ (f : Nat) (n : Nat) (y6 : Option Value), 5 < n + f → n ≤ 5 → hm_W C (0 + r_X5_sheetAt.cells + r_X5_versionAt.cells) (0 + r_X5_sheetAt.slots + r_X5_versionAt.slots) (hm_TX C (fun v' M' => sp_isV sg (nI a) (nI c) = true ∧ v' = some (.int (sp_pts sg (nN (nI a)) (nN (nI c)))) ∧ M = M') (fun E M' => sp_isV sg (nI a) (nI c) = false ∧ E = "java/lang/IndexOutOfBoundsException" ∧ M = M') r_X5_points.cells r_X5_points.slots) M 16 [some (.ref (ad 0 0)), some (.int (nI a)), some (.int (nI c)), some (.ref (ad 13 (16 * a + c))), some (.int (sp_is (sp_ptT sg a c) n)), some (.int (nI n)), y6] [] := by
    intro f
    induction f with
    | zero => intro n y6 h1 h2; exact absurd h1 (by omega)
    | succ f ih =>
      intro n y6 h1 h2
      refine hr_iload X dX5_points_16 rfl ?_
      refine hr_iconst (5) X dX5_points_18 (by decide) ?_
      refine hr_icmp_ge 51 X dX5_points_19 (by decide) (fun c19 => ?_) (fun c19 => ?_)
      · have hz : n = 5 := by have := (nI_leI (a := 5) (by decide) (by omega)).mp c19; omega
        subst hz
        refine hr_iload X dX5_points_51 rfl ?_
        exact hr_iretX X dX5_points_53 (Nat.le_of_ble_eq_true rfl) (Nat.le_of_ble_eq_true rfl) ⟨hV, by rw [show nN (nI a) = a from nI_clamp (by omega), show nN (nI c) = c from nI_clamp (by omega)]; rfl, rfl⟩
      · have hn : n < 5 := by
          rcases Nat.lt_or_ge n 5 with q | q
          · exact q
          · exact absurd (nI_le (by omega) (by omega)) c19
        refine hr_aload_n X dX5_points_22 rfl (Or.inr ⟨_, rfl⟩) ?_
        refine hr_iload X dX5_points_23 rfl ?_
        refine hr_callS X kC5_80 dX5_points_25 (c_X5_taskOf cA hR hI a c n ha1 hv hn) rfl rfl rfl (Nat.le_of_ble_eq_true rfl) ⟨⟨(Nat.le_of_ble_eq_true rfl), (Nat.le_of_ble_eq_true rfl)⟩, (Nat.le_of_ble_eq_true rfl), (Nat.le_of_ble_eq_true rfl)⟩ (fun v M25 hp => ?_)
        obtain ⟨rfl, rfl⟩ := hp
        refine hr_astore X dX5_points_28 (Nat.le_of_ble_eq_true rfl) (hm_rf _) ?_
        refine hr_aload X dX5_points_30 rfl (hm_rf _) ?_
        have J45 : hm_W C (0 + r_X5_sheetAt.cells + r_X5_versionAt.cells) (0 + r_X5_sheetAt.slots + r_X5_versionAt.slots) (hm_TX C (fun v' M' => sp_isV sg (nI a) (nI c) = true ∧ v' = some (.int (sp_pts sg (nN (nI a)) (nN (nI c)))) ∧ M = M') (fun E M' => sp_isV sg (nI a) (nI c) = false ∧ E = "java/lang/IndexOutOfBoundsException" ∧ M = M') r_X5_points.cells r_X5_points.slots) M 45 [some (.ref (ad 0 0)), some (.int (nI a)), some (.int (nI c)), some (.ref (ad 13 (16 * a + c))), some (.int (sp_is (sp_ptT sg a c) (n + 1))), some (.int (nI n)), some (va_rf ((sp_has sg a c n).map (fun u => ad 15 (sp_e a u n))))] [] := by
          refine hr_iinc (1) X dX5_points_45 rfl (by decide) ?_
          refine hr_goto 16 X dX5_points_48 (by decide) ?_
          rw [nI_1]
          exact ih (n + 1) _ (by omega) (by omega)
        refine hr_ifnull 45 X dX5_points_32 (by decide) (fun c32 => ?_) (fun a32 c32 => ?_)
        · have hz : sp_is (sp_ptT sg a c) (n + 1) = sp_is (sp_ptT sg a c) n := sp_is_st (by
            unfold sp_ptT
            cases hq : sp_has sg a c n with
            | none => rfl
            | some u => rw [hq] at c32; cases c32)
          exact hl_loc (by rw [hz] <;> rfl) J45
        · obtain ⟨u, hu⟩ : ∃ u, sp_has sg a c n = some u := by
            cases hq : sp_has sg a c n with
            | none => rw [hq] at c32; cases c32
            | some u => exact ⟨u, rfl⟩
          obtain ⟨u1, u2, u3, u4⟩ := sp_has_some hI ha1 hv hu
          have h15 := hR.c15 (cr_isE_th ha1 u1.1 hn u3)
          have hz : sp_is (sp_ptT sg a c) (n + 1) = sp_is (sp_ptT sg a c) n + sg 7 (sp_e a u n) := sp_is_up (by unfold sp_ptT; rw [hu])
          rw [hu] at J45 ⊢
          refine hr_iload X dX5_points_35 rfl ?_
          refine hr_aload X dX5_points_37 rfl (hm_rf _) ?_
          refine hr_get X kF5_146 dX5_points_39 h15 rfl ?_
          refine hr_iadd X dX5_points_42 ?_
          refine hr_istore X dX5_points_43 (Nat.le_of_ble_eq_true rfl) ?_
          exact hl_loc (by rw [hz] <;> rfl) J45
  exact lp16 6 0 _ (by decide) (by decide)
set_option maxHeartbeats 4000000 in
set_option maxRecDepth 100000 in
theorem c_X5_average (cA : Nat → ClassId) {sg ta : mm_S} {ad : Nat → Nat → Nat} {M0 M : hm_M} (hR : cr_R cA sg ta ad M0 M) (hI : sp_I sg) (g s : Int32) : hm_XMet cA yX5_average cX5_average 8 (some .int) r_X5_average [.ref (ad 0 0), .int g, .int s] M (fun v' M' => sp_cs sg g s = true ∧ v' = some (.int (sp_avg sg (12 * nN s + 3 * nN g))) ∧ M = M') (fun E M' => sp_cs sg g s = false ∧ E = "java/lang/IndexOutOfBoundsException" ∧ M = M') := by
  refine hm_xmet 5 (by decide +kernel) (fun w h => by simp only [List.mem_cons, List.not_mem_nil, or_false] at h; rcases h with rfl | rfl | rfl <;> rfl) rfl (fun C X XE => ?_)
  show hm_W C 0 0 _ M 0 [some (.ref (ad 0 0)), some (.int g), some (.int s), none, none, none, none, none] []
  refine hr_iload_n X dX5_average_0 rfl ?_
  refine hr_callSX X XE kC5_45 dX5_average_1 (c_X5_checkClass cA (M := M) g) rfl rfl rfl (Nat.le_of_ble_eq_true rfl) ⟨⟨(Nat.le_of_ble_eq_true rfl), (Nat.le_of_ble_eq_true rfl)⟩, (Nat.le_of_ble_eq_true rfl), (Nat.le_of_ble_eq_true rfl)⟩ (Nat.le_of_ble_eq_true rfl) (Nat.le_of_ble_eq_true rfl) (fun _ _ h => ⟨sb_andF1 h.1, h.2⟩) (fun v M1 hp1 => ?_)
  obtain ⟨h1, rfl, rfl⟩ := hp1
  obtain ⟨g, hg, rfl⟩ := sp_in_g h1
  refine hr_aload_n X dX5_average_4 rfl (Or.inr ⟨_, rfl⟩) ?_
  refine hr_iload_n X dX5_average_5 rfl ?_
  refine hr_callVX X XE kC5_49 dX5_average_6 (c_X5_sheetAt cA hR hI s) hR.c0 rfl rfl rfl rfl (Nat.le_of_ble_eq_true rfl) ⟨⟨(Nat.le_of_ble_eq_true rfl), (Nat.le_of_ble_eq_true rfl)⟩, (Nat.le_of_ble_eq_true rfl), (Nat.le_of_ble_eq_true rfl)⟩ (Nat.le_of_ble_eq_true rfl) (Nat.le_of_ble_eq_true rfl) (fun _ _ h => ⟨sb_andF2 h.1, h.2⟩) (fun v M6 hp6 => ?_)
  obtain ⟨⟨a, ha, hs, rfl, rfl⟩, rfl⟩ := hp6
  obtain ⟨ha1, ha4⟩ := cr_isS_4 hI hs
  have hC1 : sp_cs sg (nI g) (nI a) = true := sb_andT h1 (by rw [← cr_isS_nat hI ha]; exact hs)
  obtain ⟨f1, f2⟩ := sl_av_3 (sg := sg) (a := a) hg
  refine hr_astore_n X dX5_average_9 (Nat.le_of_ble_eq_true rfl) (Or.inr ⟨_, rfl⟩) ?_
  refine hr_iconst (0) X dX5_average_10 (by decide) ?_
  refine hr_istore X dX5_average_11 (Nat.le_of_ble_eq_true rfl) ?_
  refine hr_iconst (0) X dX5_average_13 (by decide) ?_
  refine hr_istore X dX5_average_14 (Nat.le_of_ble_eq_true rfl) ?_
  refine hr_iconst (0) X dX5_average_16 (by decide) ?_
  refine hr_istore X dX5_average_17 (Nat.le_of_ble_eq_true rfl) ?_
  have lp19 : ∀ (f : Nat) (n : Nat) (y7 : Option Value), 12 < n + f → n ≤ 12 → hm_W C (0 + r_X5_checkClass.cells + r_X5_sheetAt.cells) (0 + r_X5_checkClass.slots + r_X5_sheetAt.slots) (hm_TX C (fun v' M' => sp_cs sg (nI g) (nI a) = true ∧ v' = some (.int (sp_avg sg (12 * nN (nI a) + 3 * nN (nI g)))) ∧ M = M') (fun E M' => sp_cs sg (nI g) (nI a) = false ∧ E = "java/lang/IndexOutOfBoundsException" ∧ M = M') r_X5_average.cells r_X5_average.slots) M 19 [some (.ref (ad 0 0)), some (.int (nI g)), some (.int (nI a)), some (.ref (ad 8 a)), some (.int (sp_is (sl_gp g (sl_av sg (12 * a))) n)), some (.int (sp_is (sl_gp g (sl_an sg (12 * a))) n)), some (.int (nI n)), y7] [] := by
    intro f
    induction f with
    | zero => intro n y7 h2 h3; exact absurd h2 (by omega)
    | succ f ih =>
      intro n y7 h2 h3
      refine hr_iload X dX5_average_19 rfl ?_
      refine hr_bipush (12) X dX5_average_21 (by decide) ?_
      refine hr_icmp_ge 76 X dX5_average_23 (by decide) (fun c23 => ?_) (fun c23 => ?_)
      · have hz : n = 12 := by have := (nI_leI (a := 12) (by decide) (by omega)).mp c23; omega
        subst hz
        refine hr_iload X dX5_average_76 rfl ?_
        refine hr_if_ne 85 X dX5_average_78 (by decide) (fun c78 => ?_) (fun c78 => ?_)
        · have hN : ¬ sp_avN sg (12 * a + 3 * g) 3 = 0 := by rw [← f2]; exact c78
          have hv : sp_avg sg (12 * nN (nI a) + 3 * nN (nI g)) = sp_is (sl_gp g (sl_av sg (12 * a))) 12 * 100 / sp_is (sl_gp g (sl_an sg (12 * a))) 12 := by rw [show nN (nI a) = a from nI_clamp (by omega), show nN (nI g) = g from nI_clamp (by omega), sp_avg, if_neg hN, f1, f2, Int32.mul_comm]
          refine hr_iload X dX5_average_85 rfl ?_
          refine hr_bipush (100) X dX5_average_87 (by decide) ?_
          refine hr_imul X dX5_average_89 ?_
          refine hr_iload X dX5_average_90 rfl ?_
          refine hr_idiv X dX5_average_92 c78 ?_
          exact hr_iretX X dX5_average_93 (Nat.le_of_ble_eq_true rfl) (Nat.le_of_ble_eq_true rfl) ⟨hC1, by rw [hv], rfl⟩
        · have hN : sp_avN sg (12 * a + 3 * g) 3 = 0 := by rw [← f2]; exact c78
          have hv : sp_avg sg (12 * nN (nI a) + 3 * nN (nI g)) = -1 := by rw [show nN (nI a) = a from nI_clamp (by omega), show nN (nI g) = g from nI_clamp (by omega), sp_avg, if_pos hN]
          refine hr_iconst (-1) X dX5_average_81 (by decide) ?_
          refine hr_goto 93 X dX5_average_82 (by decide) ?_
          exact hr_iretX X dX5_average_93 (Nat.le_of_ble_eq_true rfl) (Nat.le_of_ble_eq_true rfl) ⟨hC1, by rw [hv], rfl⟩
      · have hn : n < 12 := by
          rcases Nat.lt_or_ge n 12 with q | q
          · exact q
          · exact absurd (nI_le (by omega) (by omega)) c23
        refine hr_aload_n X dX5_average_26 rfl (Or.inr ⟨_, rfl⟩) ?_
        refine hr_get X kF5_160 dX5_average_27 (hR.c8 hs) rfl ?_
        refine hr_iload X dX5_average_30 rfl ?_
        refine hr_aald 6 X rfl dX5_average_32 (hR.c12 hs) (mm_in rfl (by omega) (by decide)).1 ?_
        rw [nI_clamp (by omega)]
        refine hr_astore X dX5_average_33 (Nat.le_of_ble_eq_true rfl) (hm_rf _) ?_
        refine hr_aload X dX5_average_35 rfl (hm_rf _) ?_
        have J70 : hm_W C (0 + r_X5_checkClass.cells + r_X5_sheetAt.cells) (0 + r_X5_checkClass.slots + r_X5_sheetAt.slots) (hm_TX C (fun v' M' => sp_cs sg (nI g) (nI a) = true ∧ v' = some (.int (sp_avg sg (12 * nN (nI a) + 3 * nN (nI g)))) ∧ M = M') (fun E M' => sp_cs sg (nI g) (nI a) = false ∧ E = "java/lang/IndexOutOfBoundsException" ∧ M = M') r_X5_average.cells r_X5_average.slots) M 70 [some (.ref (ad 0 0)), some (.int (nI g)), some (.int (nI a)), some (.ref (ad 8 a)), some (.int (sp_is (sl_gp g (sl_av sg (12 * a))) (n + 1))), some (.int (sp_is (sl_gp g (sl_an sg (12 * a))) (n + 1))), some (.int (nI n)), some (va_rf (if sg 13 (12 * a + n) = 0 then none else some (ad 16 (12 * a + n))))] [] := by
          refine hr_iinc (1) X dX5_average_70 rfl (by decide) ?_
          refine hr_goto 19 X dX5_average_73 (by decide) ?_
          rw [nI_1]
          exact ih (n + 1) _ (by omega) (by omega)
        refine hr_ifnull 70 X dX5_average_37 (by decide) (fun c37 => ?_) (fun a37 c37 => ?_)
        · have hn0 : sg 13 (12 * a + n) = 0 := by
            by_cases q : sg 13 (12 * a + n) = 0
            · exact q
            · rw [if_neg q] at c37; cases c37
          have hn2 : ¬ sg 13 (12 * a + n) = 2 := fun q => by rw [hn0] at q; cases q
          have hz1 : sp_is (sl_gp g (sl_av sg (12 * a))) (n + 1) = sp_is (sl_gp g (sl_av sg (12 * a))) n := sp_is_st (by
            by_cases q3 : nI n / 3 = nI g
            · rw [sl_gp_y q3]; exact if_neg hn2
            · exact sl_gp_n q3)
          have hz2 : sp_is (sl_gp g (sl_an sg (12 * a))) (n + 1) = sp_is (sl_gp g (sl_an sg (12 * a))) n := sp_is_st (by
            by_cases q3 : nI n / 3 = nI g
            · rw [sl_gp_y q3]; exact if_neg hn2
            · exact sl_gp_n q3)
          exact hl_loc (by rw [hz1, hz2] <;> rfl) J70
        · have hn0 : ¬ sg 13 (12 * a + n) = 0 := fun q => by rw [if_pos q] at c37; cases c37
          have h16 := hR.c16 (cr_isK_at ha1 hn hn0)
          rw [if_neg hn0] at J70 ⊢
          refine hr_aload X dX5_average_40 rfl (hm_rf _) ?_
          refine hr_get X kF5_208 dX5_average_42 h16 rfl ?_
          refine hr_if_eq 70 X dX5_average_45 (by decide) (fun c45 => ?_) (fun c45 => ?_)
          · have hn2 : ¬ sg 13 (12 * a + n) = 2 := fun q => by rw [if_pos q] at c45; cases c45
            have hz1 : sp_is (sl_gp g (sl_av sg (12 * a))) (n + 1) = sp_is (sl_gp g (sl_av sg (12 * a))) n := sp_is_st (by
              by_cases q3 : nI n / 3 = nI g
              · rw [sl_gp_y q3]; exact if_neg hn2
              · exact sl_gp_n q3)
            have hz2 : sp_is (sl_gp g (sl_an sg (12 * a))) (n + 1) = sp_is (sl_gp g (sl_an sg (12 * a))) n := sp_is_st (by
              by_cases q3 : nI n / 3 = nI g
              · rw [sl_gp_y q3]; exact if_neg hn2
              · exact sl_gp_n q3)
            exact hl_loc (by rw [hz1, hz2] <;> rfl) J70
          · have hn2 : sg 13 (12 * a + n) = 2 := by
              by_cases q : sg 13 (12 * a + n) = 2
              · exact q
              · rw [if_neg q] at c45; exact absurd rfl c45
            refine hr_iload X dX5_average_48 rfl ?_
            refine hr_callS X kC5_156 dX5_average_50 (c_X5_classOf cA (M := M) (nI n)) rfl rfl rfl (Nat.le_of_ble_eq_true rfl) ⟨⟨(Nat.le_of_ble_eq_true rfl), (Nat.le_of_ble_eq_true rfl)⟩, (Nat.le_of_ble_eq_true rfl), (Nat.le_of_ble_eq_true rfl)⟩ (fun v M50 hp => ?_)
            obtain ⟨rfl, rfl⟩ := hp
            refine hr_iload_n X dX5_average_53 rfl ?_
            refine hr_icmp_ne 70 X dX5_average_54 (by decide) (fun c54 => ?_) (fun c54 => ?_)
            · have hz1 : sp_is (sl_gp g (sl_av sg (12 * a))) (n + 1) = sp_is (sl_gp g (sl_av sg (12 * a))) n := sp_is_st (sl_gp_n c54)
              have hz2 : sp_is (sl_gp g (sl_an sg (12 * a))) (n + 1) = sp_is (sl_gp g (sl_an sg (12 * a))) n := sp_is_st (sl_gp_n c54)
              exact hl_loc (by rw [hz1, hz2] <;> rfl) J70
            · have hr : sp_rMark sg (12 * a + n) = sg 15 (12 * a + n) := if_pos hn2
              have hz1 : sp_is (sl_gp g (sl_av sg (12 * a))) (n + 1) = sp_is (sl_gp g (sl_av sg (12 * a))) n + sp_rMark sg (12 * a + n) := sp_is_up (by rw [hr, sl_gp_y c54]; exact if_pos hn2)
              have hz2 : sp_is (sl_gp g (sl_an sg (12 * a))) (n + 1) = sp_is (sl_gp g (sl_an sg (12 * a))) n + 1 := sp_is_up (by rw [sl_gp_y c54]; exact if_pos hn2)
              refine hr_iload X dX5_average_57 rfl ?_
              refine hr_aload X dX5_average_59 rfl (hm_rf _) ?_
              refine hr_get X kF5_219 dX5_average_61 h16 rfl ?_
              refine hr_iadd X dX5_average_64 ?_
              refine hr_istore X dX5_average_65 (Nat.le_of_ble_eq_true rfl) ?_
              refine hr_iinc (1) X dX5_average_67 rfl (by decide) ?_
              exact hl_loc (by rw [hz1, hz2] <;> rfl) J70
  exact lp19 13 0 _ (by decide) (by decide)
