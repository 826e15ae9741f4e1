/-! versions: looked up, their numbers, who tells a task -/
theorem cr_isS_4 {sg : mm_S} (hI : sp_I sg) {a : Nat} (h : cr_isS sg a = true) : a < sp_n sg ∧ a < 4 := by
  have h1 : a < sp_n sg := of_decide_eq_true h
  have := hI.i1.2
  omega
theorem sp_isV_in {sg : mm_S} {s v : Int32} (h : sp_in v 0 15 = false) : sp_isV sg s v = false := by simp [sp_isV, h]
theorem sp_isV_no {sg : mm_S} {a c : Nat} (ha : a < 4) (hc : c < 16) (h : sg 2 (16 * a + c) = 0) : sp_isV sg (nI a) (nI c) = false := by
  simp [sp_isV, nI_clamp (show a < 2 ^ 31 by omega), nI_clamp (show c < 2 ^ 31 by omega), h]
theorem sb_16 {g : Int32} : g < 16 ↔ ¬ 15 < g := sb_hi 16 15 15 0 (by decide) rfl rfl
theorem cr_isV_th {sg : mm_S} {s v : Nat} (hs : s < sp_n sg) (hv : sp_th sg s v) : cr_isV sg (16 * s + v) = true := by
  have := hv.1
  unfold cr_isV
  rw [show (16 * s + v) / 16 = s by omega, decide_eq_true hs, decide_eq_false hv.2]
  rfl
set_option maxHeartbeats 4000000 in
set_option maxRecDepth 100000 in
theorem c_X5_versionAt (cA : Nat → ClassId) {sg ta : mm_S} {ad : Nat → Nat → Nat} {M0 M : hm_M} (hR : cr_R cA sg ta ad M0 M) (hI : sp_I sg) (a : Nat) (ha : cr_isS sg a = true) (v : Int32) : hm_XMet cA yX5_versionAt cX5_versionAt 3 (some (.object "SheetVault$Version")) r_X5_versionAt [.ref (ad 8 a), .int v] M (fun v' M' => (∃ c, c < 16 ∧ ¬ sg 2 (16 * a + c) = 0 ∧ v = nI c ∧ v' = some (.ref (ad 13 (16 * a + c)))) ∧ M = M') (fun E M' => sp_isV sg (nI a) v = false ∧ E = "java/lang/IndexOutOfBoundsException" ∧ M = M') := by
  refine hm_xmet 1 (by decide +kernel) (fun w h => by simp only [List.mem_cons, List.not_mem_nil, or_false] at h; rcases h with rfl | rfl <;> rfl) rfl (fun C X XE => ?_)
  show hm_W C 0 0 _ M 0 [some (.ref (ad 8 a)), some (.int v), none] []
  obtain ⟨ha1, ha4⟩ := cr_isS_4 hI ha
  refine hr_iload_n X dX5_versionAt_0 rfl ?_
  refine hr_if_lt 10 X dX5_versionAt_1 (by decide) (fun c1 => ?_) (fun c1 => ?_)
  · have hz : sp_isV sg (nI a) v = false := sp_isV_in (sb_inF (Or.inl c1))
    exact hr_throwW X XE kT5_249_289_253 dX5_versionAt_10 dX5_versionAt_13 dX5_versionAt_14 dX5_versionAt_17 dX5_versionAt_20 rfl ⟨(Nat.le_of_ble_eq_true rfl), (Nat.le_of_ble_eq_true rfl), (Nat.le_of_ble_eq_true rfl), (Nat.le_of_ble_eq_true rfl)⟩ (Nat.le_of_ble_eq_true rfl) (Nat.le_of_ble_eq_true rfl) ⟨hz, rfl, rfl⟩
  · refine hr_iload_n X dX5_versionAt_4 rfl ?_
    refine hr_bipush (16) X dX5_versionAt_5 (by decide) ?_
    refine hr_icmp_lt 21 X dX5_versionAt_7 (by decide) (fun c7 => ?_) (fun c7 => ?_)
    · obtain ⟨c, hc, rfl⟩ : ∃ c, c < 16 ∧ v = nI c := by
        obtain ⟨c, h1, h2⟩ := sp_in_nat (b := 15) (by decide) (sp_in_t c1 (sb_16.mp c7))
        exact ⟨c, by omega, h2⟩
      refine hr_aload_n X dX5_versionAt_21 rfl (Or.inr ⟨_, rfl⟩) ?_
      refine hr_get X kF5_132 dX5_versionAt_22 (hR.c8 ha) rfl ?_
      refine hr_iload_n X dX5_versionAt_25 rfl ?_
      refine hr_aald 4 X rfl dX5_versionAt_26 (hR.c9 ha) (mm_in rfl (by omega) (by decide)).1 ?_
      rw [nI_clamp (by omega)]
      refine hr_astore_n X dX5_versionAt_27 (Nat.le_of_ble_eq_true rfl) (hm_rf _) ?_
      refine hr_aload_n X dX5_versionAt_28 rfl (hm_rf _) ?_
      refine hr_ifnonnull 43 X dX5_versionAt_29 (by decide) (fun a29 c29 => ?_) (fun c29 => ?_)
      · have hs : ¬ sg 2 (16 * a + c) = 0 := fun q => by rw [if_pos q] at c29; cases c29
        refine hr_aload_n X dX5_versionAt_43 rfl (hm_rf _) ?_
        exact hr_aretX X dX5_versionAt_44 (hm_rf _) (Nat.le_of_ble_eq_true rfl) (Nat.le_of_ble_eq_true rfl) ⟨⟨c, hc, hs, rfl, by rw [if_neg hs]; rfl⟩, rfl⟩
      · have hs : sg 2 (16 * a + c) = 0 := by
          by_cases q : sg 2 (16 * a + c) = 0
          · exact q
          · rw [if_neg q] at c29; cases c29
        exact hr_throwW X XE kT5_249_289_253 dX5_versionAt_32 dX5_versionAt_35 dX5_versionAt_36 dX5_versionAt_39 dX5_versionAt_42 rfl ⟨(Nat.le_of_ble_eq_true rfl), (Nat.le_of_ble_eq_true rfl), (Nat.le_of_ble_eq_true rfl), (Nat.le_of_ble_eq_true rfl)⟩ (Nat.le_of_ble_eq_true rfl) (Nat.le_of_ble_eq_true rfl) ⟨sp_isV_no ha4 hc hs, rfl, rfl⟩
    · have hz : sp_isV sg (nI a) v = false := sp_isV_in (sb_inF (Or.inr (Classical.not_not.mp (fun q => c7 (sb_16.mpr q)))))
      exact hr_throwW X XE kT5_249_289_253 dX5_versionAt_10 dX5_versionAt_13 dX5_versionAt_14 dX5_versionAt_17 dX5_versionAt_20 rfl ⟨(Nat.le_of_ble_eq_true rfl), (Nat.le_of_ble_eq_true rfl), (Nat.le_of_ble_eq_true rfl), (Nat.le_of_ble_eq_true rfl)⟩ (Nat.le_of_ble_eq_true rfl) (Nat.le_of_ble_eq_true rfl) ⟨hz, rfl, rfl⟩
set_option maxHeartbeats 4000000 in
set_option maxRecDepth 100000 in
theorem c_X5_numberOf_s (cA : Nat → ClassId) {sg ta : mm_S} {ad : Nat → Nat → Nat} {M0 M : hm_M} (hR : cr_R cA sg ta ad M0 M) (hI : sp_I sg) (x : Nat) (hx : cr_isV sg x = true) : hm_Met cA yX5_numberOf cX5_numberOf 1 (some .int) r_X5_numberOf [.ref (ad 13 x)] M (hm_pu (some (.int (nI (x % 16)))) M) := by
  refine hm_met 0 (by decide +kernel) (fun w h => by simp only [List.mem_cons, List.not_mem_nil, or_false] at h; rcases h with rfl <;> rfl) rfl (fun C X => ?_)
  show hm_W C 0 0 _ M 0 [some (.ref (ad 13 x))] []
  refine hr_aload_n X dX5_numberOf_0 rfl (Or.inr ⟨_, rfl⟩) ?_
  refine hr_ifnonnullR 8 X dX5_numberOf_1 (by decide) ?_
  refine hr_aload_n X dX5_numberOf_8 rfl (Or.inr ⟨_, rfl⟩) ?_
  refine hr_get X kF5_293 dX5_numberOf_9 (hR.c13 hx) rfl ?_
  exact hr_iret X dX5_numberOf_12 (Nat.le_of_ble_eq_true rfl) (Nat.le_of_ble_eq_true rfl) ⟨rfl, rfl⟩
set_option maxHeartbeats 4000000 in
set_option maxRecDepth 100000 in
theorem c_X5_numberOf_n (cA : Nat → ClassId) {M : hm_M}  : hm_Met cA yX5_numberOf cX5_numberOf 1 (some .int) r_X5_numberOf [va_rf none] M (hm_pu (some (.int (-1))) M) := by
  refine hm_met 0 (by decide +kernel) (fun w h => by simp only [List.mem_cons, List.not_mem_nil, or_false] at h; rcases h with rfl <;> rfl) rfl (fun C X => ?_)
  show hm_W C 0 0 _ M 0 [some (va_rf none)] []
  refine hr_aload_n X dX5_numberOf_0 rfl (hm_rf _) ?_
  refine hr_ifnonnull 8 X dX5_numberOf_1 (by decide) (fun a1 c1 => ?_) (fun c1 => ?_)
  · exact absurd c1 (by intro q; cases q)
  · refine hr_iconst (-1) X dX5_numberOf_4 (by decide) ?_
    refine hr_goto 12 X dX5_numberOf_5 (by decide) ?_
    exact hr_iret X dX5_numberOf_12 (Nat.le_of_ble_eq_true rfl) (Nat.le_of_ble_eq_true rfl) ⟨rfl, rfl⟩
set_option maxHeartbeats 4000000 in
set_option maxRecDepth 100000 in
theorem c_X5_tellerOf (cA : Nat → ClassId) {sg ta : mm_S} {ad : Nat → Nat → Nat} {M0 M : hm_M} (hR : cr_R cA sg ta ad M0 M) (hI : sp_I sg) (s v t : Nat) (hs : s < sp_n sg) (hv : sp_th sg s v) (ht : t < 5) : hm_Met cA yX5_tellerOf cX5_tellerOf 3 (some (.object "SheetVault$Version")) r_X5_tellerOf [.ref (ad 13 (16 * s + v)), .int (nI t)] M (fun v' M' => v' = some (va_rf ((sp_tel sg s v t).map (fun u => ad 13 (16 * s + u)))) ∧ M = M') := by
  refine hm_met 1 (by decide +kernel) (fun w h => by simp only [List.mem_cons, List.not_mem_nil, or_false] at h; rcases h with rfl | rfl <;> rfl) rfl (fun C X => ?_)
  show hm_W C 0 0 _ M 0 [some (.ref (ad 13 (16 * s + v))), some (.int (nI t)), none] []
  refine hr_aload_n X dX5_tellerOf_0 rfl (Or.inr ⟨_, rfl⟩) ?_
  refine hr_astore_n X dX5_tellerOf_1 (Nat.le_of_ble_eq_true rfl) (Or.inr ⟨_, rfl⟩) ?_
  have lp2 : ∀ (f9 : Nat) (u : Nat), u < f9 → sp_th sg s u → sp_tel sg s u t = sp_tel sg s v t → hm_W C 0 0 (hm_T C (fun v' M' => v' = some (va_rf ((sp_tel sg s v t).map (fun u => ad 13 (16 * s + u)))) ∧ M = M') r_X5_tellerOf.cells r_X5_tellerOf.slots) M 2 [some (.ref (ad 13 (16 * s + v))), some (.int (nI t)), some (.ref (ad 13 (16 * s + u)))] [] := by
    intro f9
    induction f9 with
    | zero => intro u h1 h2 h3; exact absurd h1 (by omega)
    | succ f9 ih =>
      intro u h1 h2 h3
      have hx := cr_isV_th hs h2
      refine hr_aload_n X dX5_tellerOf_2 rfl (Or.inr ⟨_, rfl⟩) ?_
      refine hr_ifnullR X dX5_tellerOf_3 ?_
      refine hr_aload_n X dX5_tellerOf_6 rfl (Or.inr ⟨_, rfl⟩) ?_
      refine hr_get X kF5_296 dX5_tellerOf_7 (hR.c13 hx) rfl ?_
      refine hr_iload_n X dX5_tellerOf_10 rfl ?_
      refine hr_aald 5 X rfl dX5_tellerOf_11 (hR.c14 hx) (mm_in rfl (by omega) (by decide)).1 ?_
      rw [nI_clamp (by omega)]
      refine hr_ifnull 17 X dX5_tellerOf_12 (by decide) (fun c12 => ?_) (fun a12 c12 => ?_)
      · have h4 : sg 6 (sp_e s u t) = 4 := by
          by_cases q : sg 6 (5 * (16 * s + u) + t) = 4
          · exact q
          · rw [if_neg q] at c12; cases c12
        refine hr_aload_n X dX5_tellerOf_17 rfl (Or.inr ⟨_, rfl⟩) ?_
        refine hr_get X kF5_135 dX5_tellerOf_18 (hR.c13 hx) rfl ?_
        refine hr_astore_n X dX5_tellerOf_21 (Nat.le_of_ble_eq_true rfl) (hm_rf _) ?_
        refine hr_goto 2 X dX5_tellerOf_22 (by decide) ?_
        rcases (hI.i3 s hs).2 u h2 with ⟨-, hr, -⟩ | ⟨z, g, z1, z2, z3, -⟩
        · rw [show cr_up sg (16 * s + u) = none from if_pos hr]
          refine hr_aload_n X dX5_tellerOf_2 rfl (Or.inl rfl) ?_
          refine hr_ifnull 25 X dX5_tellerOf_3 (by decide) (fun c3 => ?_) (fun a3 c3 => by cases c3)
          refine hr_null X dX5_tellerOf_25 ?_
          exact hr_aret X dX5_tellerOf_26 (Or.inl rfl) (Nat.le_of_ble_eq_true rfl) (Nat.le_of_ble_eq_true rfl) ⟨by rw [← h3, sp_tel_root h4 hr]; rfl, rfl⟩
        · rw [show cr_up sg (16 * s + u) = some (16 * s + z) by rw [cr_up, z2, if_neg (nI_m1 (by have := z3.1; omega)), show nN (nI z) = z from nI_clamp (by have := z3.1; omega), show (16 * s + u) / 16 = s by have := h2.1; omega]]
          exact ih z (by omega) z3 (by rw [← h3, sp_tel_step hI hs h2 h4 z2 z3 z1])
      · have h4 : ¬ sg 6 (sp_e s u t) = 4 := fun q => by
          rw [if_pos (show sg 6 (5 * (16 * s + u) + t) = 4 from q)] at c12; cases c12
        refine hr_aload_n X dX5_tellerOf_15 rfl (Or.inr ⟨_, rfl⟩) ?_
        exact hr_aret X dX5_tellerOf_16 (Or.inr ⟨_, rfl⟩) (Nat.le_of_ble_eq_true rfl) (Nat.le_of_ble_eq_true rfl) ⟨by rw [← h3, sp_tel_here h4]; rfl, rfl⟩
  exact lp2 (v + 1) v (Nat.lt_succ_self v) hv rfl
