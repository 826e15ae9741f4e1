/-! what lies at each key; looking up sheets and versions -/
theorem cr_R.c0  {cA : Nat → ClassId} {sg ta : mm_S} {ad : Nat → Nat → Nat} {M0 M : hm_M} (h : cr_R cA sg ta ad M0 M) : M (ad 0 0) = some (.inr (5, [.ref (ad 1 0), .int (sg 1 0), .ref (ad 2 0), .ref (ad 3 0), .ref (ad 4 0), .ref (ad 5 0), .ref (ad 6 0)])) := h.at (q := 0) (x := 0) rfl
theorem cr_R.c1  {cA : Nat → ClassId} {sg ta : mm_S} {ad : Nat → Nat → Nat} {M0 M : hm_M} (h : cr_R cA sg ta ad M0 M) : M (ad 1 0) = some (cr_rw cA 3 4 (fun s => if cr_isS sg s = true then some (ad 8 s) else none)) := h.at (q := 1) (x := 0) rfl
theorem cr_R.c2  {cA : Nat → ClassId} {sg ta : mm_S} {ad : Nat → Nat → Nat} {M0 M : hm_M} (h : cr_R cA sg ta ad M0 M) : M (ad 2 0) = some (cr_iw cA 0 4 (sg 12)) := h.at (q := 2) (x := 0) rfl
theorem cr_R.c3  {cA : Nat → ClassId} {sg ta : mm_S} {ad : Nat → Nat → Nat} {M0 M : hm_M} (h : cr_R cA sg ta ad M0 M) : M (ad 3 0) = some (cr_iw cA 0 4 (ta 0)) := h.at (q := 3) (x := 0) rfl
theorem cr_R.c4  {cA : Nat → ClassId} {sg ta : mm_S} {ad : Nat → Nat → Nat} {M0 M : hm_M} (h : cr_R cA sg ta ad M0 M) : M (ad 4 0) = some (cr_iw cA 0 7 (ta 5)) := h.at (q := 4) (x := 0) rfl
theorem cr_R.c5  {cA : Nat → ClassId} {sg ta : mm_S} {ad : Nat → Nat → Nat} {M0 M : hm_M} (h : cr_R cA sg ta ad M0 M) : M (ad 5 0) = some (cr_rw cA 8 12 (fun p => some (ad 7 p))) := h.at (q := 5) (x := 0) rfl
theorem cr_R.c6  {cA : Nat → ClassId} {sg ta : mm_S} {ad : Nat → Nat → Nat} {M0 M : hm_M} (h : cr_R cA sg ta ad M0 M) : M (ad 6 0) = some (cr_iw cA 0 12 (ta 7)) := h.at (q := 6) (x := 0) rfl
theorem cr_R.c7 {p : Nat} {cA : Nat → ClassId} {sg ta : mm_S} {ad : Nat → Nat → Nat} {M0 M : hm_M} (h : cr_R cA sg ta ad M0 M) (hx : (decide (p < 12)) = true) : M (ad 7 p) = some (cr_iw cA 0 50 (fun i => ta 6 (50 * p + i))) := h.at (q := 7) (x := p) (if_pos hx)
theorem cr_R.c8 {s : Nat} {cA : Nat → ClassId} {sg ta : mm_S} {ad : Nat → Nat → Nat} {M0 M : hm_M} (h : cr_R cA sg ta ad M0 M) (hx : (cr_isS sg s) = true) : M (ad 8 s) = some (.inr (3, [.ref (ad 9 s), .int (sg 5 s), .ref (ad 10 s), .ref (ad 11 s), .ref (ad 12 s)])) := h.at (q := 8) (x := s) (if_pos hx)
theorem cr_R.c9 {s : Nat} {cA : Nat → ClassId} {sg ta : mm_S} {ad : Nat → Nat → Nat} {M0 M : hm_M} (h : cr_R cA sg ta ad M0 M) (hx : (cr_isS sg s) = true) : M (ad 9 s) = some (cr_rw cA 4 16 (fun v => if sg 2 (16 * s + v) = 0 then none else some (ad 13 (16 * s + v)))) := h.at (q := 9) (x := s) (if_pos hx)
theorem cr_R.c10 {s : Nat} {cA : Nat → ClassId} {sg ta : mm_S} {ad : Nat → Nat → Nat} {M0 M : hm_M} (h : cr_R cA sg ta ad M0 M) (hx : (cr_isS sg s) = true) : M (ad 10 s) = some (cr_rw cA 4 4 (fun g => some (ad 13 (cr_hd sg s g)))) := h.at (q := 10) (x := s) (if_pos hx)
theorem cr_R.c11 {s : Nat} {cA : Nat → ClassId} {sg ta : mm_S} {ad : Nat → Nat → Nat} {M0 M : hm_M} (h : cr_R cA sg ta ad M0 M) (hx : (cr_isS sg s) = true) : M (ad 11 s) = some (cr_iw cA 1 4 (fun g => sg 11 (4 * s + g))) := h.at (q := 11) (x := s) (if_pos hx)
theorem cr_R.c12 {s : Nat} {cA : Nat → ClassId} {sg ta : mm_S} {ad : Nat → Nat → Nat} {M0 M : hm_M} (h : cr_R cA sg ta ad M0 M) (hx : (cr_isS sg s) = true) : M (ad 12 s) = some (cr_rw cA 6 12 (fun p => if sg 13 (12 * s + p) = 0 then none else some (ad 16 (12 * s + p)))) := h.at (q := 12) (x := s) (if_pos hx)
theorem cr_R.c13 {x : Nat} {cA : Nat → ClassId} {sg ta : mm_S} {ad : Nat → Nat → Nat} {M0 M : hm_M} (h : cr_R cA sg ta ad M0 M) (hx : (cr_isV sg x) = true) : M (ad 13 x) = some (.inr (4, [.int (nI (x % 16)), .int (sg 4 x), va_rf ((cr_up sg x).map (ad 13)), .ref (ad 14 x)])) := h.at (q := 13) (x := x) (if_pos hx)
theorem cr_R.c14 {x : Nat} {cA : Nat → ClassId} {sg ta : mm_S} {ad : Nat → Nat → Nat} {M0 M : hm_M} (h : cr_R cA sg ta ad M0 M) (hx : (cr_isV sg x) = true) : M (ad 14 x) = some (cr_rw cA 5 5 (fun t => if sg 6 (5 * x + t) = 4 then none else some (ad 15 (5 * x + t)))) := h.at (q := 14) (x := x) (if_pos hx)
theorem cr_R.c15 {e : Nat} {cA : Nat → ClassId} {sg ta : mm_S} {ad : Nat → Nat → Nat} {M0 M : hm_M} (h : cr_R cA sg ta ad M0 M) (hx : (cr_isE sg e) = true) : M (ad 15 e) = some (.inr (1, [.int (cr_kd sg e), .int (sg 7 e), .int (sg 8 e), .int (sg 9 e)])) := h.at (q := 15) (x := e) (if_pos hx)
theorem cr_R.c16 {k : Nat} {cA : Nat → ClassId} {sg ta : mm_S} {ad : Nat → Nat → Nat} {M0 M : hm_M} (h : cr_R cA sg ta ad M0 M) (hx : (cr_isK sg k) = true) : M (ad 16 k) = some (.inr (0, [.ref (ad 13 (16 * (k / 12) + nN (sg 14 k))), .ref (ad 17 k), .int (if sg 13 k = 2 then 1 else 0), .int (sp_rMark sg k), .int (ta 1 k), .int (sg 16 k), .ref (ad 18 k), .int (ta 2 k)])) := h.at (q := 16) (x := k) (if_pos hx)
theorem cr_R.c17 {k : Nat} {cA : Nat → ClassId} {sg ta : mm_S} {ad : Nat → Nat → Nat} {M0 M : hm_M} (h : cr_R cA sg ta ad M0 M) (hx : (cr_isK sg k) = true) : M (ad 17 k) = some (cr_rw cA 7 5 (fun t => some (ad 19 (5 * k + t)))) := h.at (q := 17) (x := k) (if_pos hx)
theorem cr_R.c18 {k : Nat} {cA : Nat → ClassId} {sg ta : mm_S} {ad : Nat → Nat → Nat} {M0 M : hm_M} (h : cr_R cA sg ta ad M0 M) (hx : (cr_isK sg k) = true) : M (ad 18 k) = some (cr_iw cA 0 50 (fun i => ta 3 (50 * k + i))) := h.at (q := 18) (x := k) (if_pos hx)
theorem cr_R.c19 {j : Nat} {cA : Nat → ClassId} {sg ta : mm_S} {ad : Nat → Nat → Nat} {M0 M : hm_M} (h : cr_R cA sg ta ad M0 M) (hx : (cr_isK sg (j / 5)) = true) : M (ad 19 j) = some (.inr (2, [.int (sg 17 j), .int (ta 8 j), .int (sg 19 j), .ref (ad 20 j), .int (sg 20 j)])) := h.at (q := 19) (x := j) (if_pos hx)
theorem cr_R.c20 {j : Nat} {cA : Nat → ClassId} {sg ta : mm_S} {ad : Nat → Nat → Nat} {M0 M : hm_M} (h : cr_R cA sg ta ad M0 M) (hx : (cr_isK sg (j / 5)) = true) : M (ad 20 j) = some (cr_iw cA 0 12 (fun i => ta 4 (12 * j + i))) := h.at (q := 20) (x := j) (if_pos hx)
theorem cr_isS_nat {sg : mm_S} (hI : sp_I sg) {a : Nat} (h : a < 4) : cr_isS sg a = sp_isS sg (nI a) := by
  by_cases q : a < sp_n sg
  · rw [sp_nat_isS hI q]; exact decide_eq_true q
  · rw [show cr_isS sg a = false from decide_eq_false q]
    symm
    apply Bool.eq_false_iff.mpr
    intro z
    obtain ⟨b, h1, h2, h3⟩ := sp_isS_nat hI z
    rw [(nI_eq (by omega) (by omega)).mp h3] at q
    exact q h1
theorem sp_isS_lo {sg : mm_S} {s : Int32} (h : s < 0) : sp_isS sg s = false := sb_inF (Or.inl h)
theorem sp_isS_hi {sg : mm_S} (hI : sp_I sg) {s : Int32} (h : ¬ s < 4) : sp_isS sg s = false := by
  apply Bool.eq_false_iff.mpr
  intro z
  obtain ⟨b, h1, h2, rfl⟩ := sp_isS_nat hI z
  exact h ((nI_ltI (b := 4) (by omega) (by decide)).mpr h2)
set_option maxHeartbeats 4000000 in
set_option maxRecDepth 100000 in
theorem c_X5_sheetAt (cA : Nat → ClassId) {sg ta : mm_S} {ad : Nat → Nat → Nat} {M0 M : hm_M} (hR : cr_R cA sg ta ad M0 M) (hI : sp_I sg) (s : Int32) : hm_XMet cA yX5_sheetAt cX5_sheetAt 3 (some (.object "SheetVault$Sheet")) r_X5_sheetAt [.ref (ad 0 0), .int s] M (fun v' M' => (∃ a, a < 4 ∧ cr_isS sg a = true ∧ s = nI a ∧ v' = some (.ref (ad 8 a))) ∧ M = M') (fun E M' => sp_isS sg s = false ∧ E = "java/lang/IndexOutOfBoundsException" ∧ M = M') := by
  refine hm_xmet 1 (by decide +kernel) (fun w h => by simp only [List.mem_cons, List.not_mem_nil, or_false] at h; rcases h with rfl | rfl <;> rfl) rfl (fun C X XE => ?_)
  show hm_W C 0 0 _ M 0 [some (.ref (ad 0 0)), some (.int s), none] []
  refine hr_iload_n X dX5_sheetAt_0 rfl ?_
  refine hr_if_lt 9 X dX5_sheetAt_1 (by decide) (fun c1 => ?_) (fun c1 => ?_)
  · have hz : sp_isS sg s = false := sp_isS_lo c1
    exact hr_throwW X XE kT5_249_287_253 dX5_sheetAt_9 dX5_sheetAt_12 dX5_sheetAt_13 dX5_sheetAt_16 dX5_sheetAt_19 rfl ⟨(Nat.le_of_ble_eq_true rfl), (Nat.le_of_ble_eq_true rfl), (Nat.le_of_ble_eq_true rfl), (Nat.le_of_ble_eq_true rfl)⟩ (Nat.le_of_ble_eq_true rfl) (Nat.le_of_ble_eq_true rfl) ⟨hz, rfl, rfl⟩
  · refine hr_iload_n X dX5_sheetAt_4 rfl ?_
    refine hr_iconst (4) X dX5_sheetAt_5 (by decide) ?_
    refine hr_icmp_lt 20 X dX5_sheetAt_6 (by decide) (fun c6 => ?_) (fun c6 => ?_)
    · obtain ⟨a, ha, rfl⟩ : ∃ a, a < 4 ∧ s = nI a := by
        obtain ⟨a, h1, h2⟩ := sp_in_nat (b := 3) (by decide) (sp_in_t c1 (sb_4.mp c6))
        exact ⟨a, by omega, h2⟩
      refine hr_aload_n X dX5_sheetAt_20 rfl (Or.inr ⟨_, rfl⟩) ?_
      refine hr_get X kF5_11 dX5_sheetAt_21 hR.c0 rfl ?_
      refine hr_iload_n X dX5_sheetAt_24 rfl ?_
      refine hr_aald 3 X rfl dX5_sheetAt_25 hR.c1 (mm_in rfl (by omega) (by decide)).1 ?_
      rw [nI_clamp (by omega)]
      have e := cr_isS_nat hI ha
      refine hr_astore_n X dX5_sheetAt_26 (Nat.le_of_ble_eq_true rfl) (hm_rf _) ?_
      refine hr_aload_n X dX5_sheetAt_27 rfl (hm_rf _) ?_
      refine hr_ifnonnull 42 X dX5_sheetAt_28 (by decide) (fun a28 c28 => ?_) (fun c28 => ?_)
      · have hs : cr_isS sg a = true := by
          by_cases q : cr_isS sg a = true
          · exact q
          · rw [if_neg q] at c28; cases c28
        refine hr_aload_n X dX5_sheetAt_42 rfl (hm_rf _) ?_
        exact hr_aretX X dX5_sheetAt_43 (hm_rf _) (Nat.le_of_ble_eq_true rfl) (Nat.le_of_ble_eq_true rfl) ⟨⟨a, ha, hs, rfl, by rw [if_pos hs]; rfl⟩, rfl⟩
      · have hs : cr_isS sg a = false := by
          by_cases q : cr_isS sg a = true
          · rw [if_pos q] at c28; cases c28
          · exact Bool.eq_false_iff.mpr q
        exact hr_throwW X XE kT5_249_287_253 dX5_sheetAt_31 dX5_sheetAt_34 dX5_sheetAt_35 dX5_sheetAt_38 dX5_sheetAt_41 rfl ⟨(Nat.le_of_ble_eq_true rfl), (Nat.le_of_ble_eq_true rfl), (Nat.le_of_ble_eq_true rfl), (Nat.le_of_ble_eq_true rfl)⟩ (Nat.le_of_ble_eq_true rfl) (Nat.le_of_ble_eq_true rfl) ⟨e.symm.trans hs, rfl, rfl⟩
    · have hz : sp_isS sg s = false := sp_isS_hi hI c6
      exact hr_throwW X XE kT5_249_287_253 dX5_sheetAt_9 dX5_sheetAt_12 dX5_sheetAt_13 dX5_sheetAt_16 dX5_sheetAt_19 rfl ⟨(Nat.le_of_ble_eq_true rfl), (Nat.le_of_ble_eq_true rfl), (Nat.le_of_ble_eq_true rfl), (Nat.le_of_ble_eq_true rfl)⟩ (Nat.le_of_ble_eq_true rfl) (Nat.le_of_ble_eq_true rfl) ⟨hz, rfl, rfl⟩
