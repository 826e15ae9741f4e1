/-! reading calls: parent, toldIn -/
def sb_no : Option Nat → Int32
  | none => -1
  | some x => nI (x % 16)
theorem c_X5_numberOf (cA : Nat → ClassId) {sg ta : mm_S} {ad : Nat → Nat → Nat} {M0 M : hm_M} (hR : cr_R cA sg ta ad M0 M) (hI : sp_I sg) (o : Option Nat) (ho : ∀ x, o = some x → cr_isV sg x = true) : hm_Met cA yX5_numberOf cX5_numberOf 1 (some .int) r_X5_numberOf [va_rf (o.map (ad 13))] M (hm_pu (some (.int (sb_no o))) M) := by
  cases o with
  | none => exact c_X5_numberOf_n cA
  | some x => exact c_X5_numberOf_s cA hR hI x (ho x rfl)
theorem cr_up_no {sg : mm_S} (hI : sp_I sg) {s v : Nat} (hs : s < sp_n sg) (hv : sp_th sg s v) : sb_no (cr_up sg (16 * s + v)) = sg 3 (16 * s + v) ∧ ∀ x, cr_up sg (16 * s + v) = some x → cr_isV sg x = true := by
  rcases (hI.i3 s hs).2 v hv with ⟨-, hr, -⟩ | ⟨z, g, z1, z2, z3, -⟩
  · rw [show cr_up sg (16 * s + v) = none from if_pos hr, hr]
    exact ⟨rfl, fun x q => by cases q⟩
  · have h16 := z3.1
    have v16 := hv.1
    rw [show cr_up sg (16 * s + v) = some (16 * s + z) by rw [cr_up, z2, if_neg (nI_m1 (by omega)), show nN (nI z) = z from nI_clamp (by omega), show (16 * s + v) / 16 = s by omega], z2]
    refine ⟨?_, fun x q => ?_⟩
    · show nI ((16 * s + z) % 16) = nI z
      rw [show (16 * s + z) % 16 = z by omega]
    · cases q
      exact cr_isV_th hs z3
theorem sp_isV_yes {sg : mm_S} (hI : sp_I sg) {a c : Nat} (ha : a < 4) (hs : cr_isS sg a = true) (hc : c < 16) (h : ¬ sg 2 (16 * a + c) = 0) : sp_isV sg (nI a) (nI c) = true := by
  have h1 : sp_isS sg (nI a) = true := by rw [← cr_isS_nat hI ha]; exact hs
  have h2 : sp_in (nI c) 0 15 = true := sp_nat_in (b := 15) (by decide) (by omega)
  simp [sp_isV, h1, h2, nI_clamp (show a < 2 ^ 31 by omega), nI_clamp (show c < 2 ^ 31 by omega), h]
theorem sp_isV_S {sg : mm_S} {s v : Int32} (h : sp_isS sg s = false) : sp_isV sg s v = false := by simp [sp_isV, h]
set_option maxHeartbeats 4000000 in
set_option maxRecDepth 100000 in
theorem c_X5_parent (cA : Nat → ClassId) {sg ta : mm_S} {ad : Nat → Nat → Nat} {M0 M : hm_M} (hR : cr_R cA sg ta ad M0 M) (hI : sp_I sg) (s v : Int32) : hm_XMet cA yX5_parent cX5_parent 3 (some .int) r_X5_parent [.ref (ad 0 0), .int s, .int v] M (fun v' M' => sp_isV sg s v = true ∧ v' = some (.int (sg 3 (16 * nN s + nN v))) ∧ M = M') (fun E M' => sp_isV sg s v = false ∧ E = "java/lang/IndexOutOfBoundsException" ∧ M = M') := by
  refine hm_xmet 0 (by decide +kernel) (fun w h => by simp only [List.mem_cons, List.not_mem_nil, or_false] at h; rcases h with rfl | rfl | rfl <;> rfl) rfl (fun C X XE => ?_)
  show hm_W C 0 0 _ M 0 [some (.ref (ad 0 0)), some (.int s), some (.int v)] []
  refine hr_aload_n X dX5_parent_0 rfl (Or.inr ⟨_, rfl⟩) ?_
  refine hr_iload_n X dX5_parent_1 rfl ?_
  refine hr_callVX X XE kC5_49 dX5_parent_2 (c_X5_sheetAt cA hR hI s) hR.c0 rfl rfl rfl rfl (Nat.le_of_ble_eq_true rfl) ⟨⟨(Nat.le_of_ble_eq_true rfl), (Nat.le_of_ble_eq_true rfl)⟩, (Nat.le_of_ble_eq_true rfl), (Nat.le_of_ble_eq_true rfl)⟩ (Nat.le_of_ble_eq_true rfl) (Nat.le_of_ble_eq_true rfl) (fun _ _ h => ⟨sp_isV_S h.1, h.2⟩) (fun v M2 hp2 => ?_)
  obtain ⟨⟨a, ha, hs, rfl, rfl⟩, rfl⟩ := hp2
  obtain ⟨ha1, ha4⟩ := cr_isS_4 hI hs
  refine hr_iload_n X dX5_parent_5 rfl ?_
  refine hr_callSX X XE kC5_86 dX5_parent_6 (c_X5_versionAt cA hR hI a hs v) rfl rfl rfl (Nat.le_of_ble_eq_true rfl) ⟨⟨(Nat.le_of_ble_eq_true rfl), (Nat.le_of_ble_eq_true rfl)⟩, (Nat.le_of_ble_eq_true rfl), (Nat.le_of_ble_eq_true rfl)⟩ (Nat.le_of_ble_eq_true rfl) (Nat.le_of_ble_eq_true rfl) (fun _ _ h => ⟨h.1, h.2⟩) (fun v M6 hp6 => ?_)
  obtain ⟨⟨c, hc, hn, rfl, rfl⟩, rfl⟩ := hp6
  have hv : sp_th sg a c := ⟨hc, hn⟩
  have hx := cr_isV_th ha1 hv
  have hV := sp_isV_yes hI ha4 hs hc hn
  refine hr_get X kF5_135 dX5_parent_9 (hR.c13 hx) rfl ?_
  refine hr_callS X kC5_90 dX5_parent_12 (c_X5_numberOf cA hR hI _ (cr_up_no hI ha1 hv).2) rfl rfl rfl (Nat.le_of_ble_eq_true rfl) ⟨⟨(Nat.le_of_ble_eq_true rfl), (Nat.le_of_ble_eq_true rfl)⟩, (Nat.le_of_ble_eq_true rfl), (Nat.le_of_ble_eq_true rfl)⟩ (fun v M12 hp => ?_)
  obtain ⟨rfl, rfl⟩ := hp
  exact hr_iretX X dX5_parent_15 (Nat.le_of_ble_eq_true rfl) (Nat.le_of_ble_eq_true rfl) ⟨hV, by rw [show nN (nI a) = a from nI_clamp (by omega), show nN (nI c) = c from nI_clamp (by omega), (cr_up_no hI ha1 hv).1], rfl⟩
