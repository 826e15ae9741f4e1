/-! quotas, heads; what folding looks at; leaving a version out, an entry handed down -/
section HW
variable {C : hm_C} {k n : Nat} {Q : State → Prop} {M M0 : hm_M} {pc : Nat} {L : List (Option Value)} {st : List Value} {cA : Nat → ClassId} {sg ta : mm_S} {ad : Nat → Nat → Nat}
theorem hr_w2 (h : cr_R cA sg ta ad M0 M) {g : Nat} {v : Int32} (kk : ∀ M2 : hm_M, cr_R cA (mm_up sg 12 g v) ta ad M0 M2 → hm_W C k n Q M2 pc L st) : hm_W C k n Q (hm_up M (ad 2 0) (.inl (cA 0, 4, .inl (upd (sg 12) g v)))) pc L st := by
  refine hr_re1 h (q0 := 2) (x0 := 0) rfl (fun e he => ?_) (fun q y e hn he => ?_) kk
  · cases cr_ob_e he
    rw [mm_up_row]
    exact va_sm.rf
  · by_cases hq : q = 2
    · subst hq
      rw [cr_cell_0 (by decide) (fun z => hn ⟨rfl, z⟩)] at he
      cases he
    · exact cr_one_g (j0 := 12) (fun j hj => mm_up_j hj) (by decide) (by decide) (by decide) (by decide) hq he
theorem hr_w10 (h : cr_R cA sg ta ad M0 M) {a g w : Nat} (hs : cr_isS sg a = true) (hg : g < 4) (hw : w < 16) (kk : ∀ M2 : hm_M, cr_R cA (mm_up sg 10 (4 * a + g) (nI w)) ta ad M0 M2 → hm_W C k n Q M2 pc L st) : hm_W C k n Q (hm_up M (ad 10 a) (.inl (cA 4, 4, .inr (.inr (.inr (.inr (va_up (fun g => some (ad 13 (cr_hd sg a g))) g (some (ad 13 (16 * a + w))))))))) ) pc L st := by
  refine hr_re1 h (q0 := 10) (x0 := a) (if_pos hs) (fun e he => ?_) (fun q y e hn he => ?_) kk
  · cases cr_ob_e he
    refine va_sm.r (fun i hi => ?_)
    unfold va_up cr_hd
    by_cases z : i = g
    · rw [if_pos z, z, mm_up_s, show nN (nI w) = w from nI_clamp (by omega)]
    · rw [if_neg z, mm_up_x (by omega)]
  · by_cases hq : q = 10
    · subst hq
      have hy : y ≠ a := fun z => hn ⟨rfl, z⟩
      exact cr_sm_10 (sg := sg) (ta := ta) (sg' := mm_up sg 10 (4 * a + g) (nI w)) (ta' := ta) ⟨(by rw [mm_up_j (by decide)]), fun i hi => mm_up_x (by omega)⟩ he
    · exact cr_one_g (j0 := 10) (fun j hj => mm_up_j hj) (by decide) (by decide) (by decide) (by decide) hq he
end HW
section HA2
variable {C : hm_C} {own : String} {cc : ByteArray} {nL : Nat} {ret : Option FieldType} {nm : String} {rm : Room} {cA : Nat → ClassId} {k n : Nat} {Q : State → Prop} {M : hm_M} {pc : Nat} {L : List (Option Value)} {st : List Value}
theorem hr_aastO (t ci : Nat) {a N : Nat} {f : Nat → Option Nat} {i : Int32} {r : vw_C} {o : Option Nat} (X : hm_X C own cc nL ret nm rm cA) (ht : (hm_tys cA)[t]? = some (cA t, .object r.1)) (hc : vwCl[ci]? = some r) (d : decode cc pc = .ok (.aastore, 1)) (hM : M a = some (.inl (cA t, N, .inr (.inr (.inr (.inr f)))))) (hv : ∀ v, o = some v → ∃ vs, M v = some (.inr (ci, vs))) (hi : vp_in i N) (kk : hm_W C k n Q (hm_up M a (.inl (cA t, N, .inr (.inr (.inr (.inr (va_up f i.toNatClampNeg o))))))) (pc + 1) L st) : hm_W C k n Q M pc L (va_rf o :: .int i :: .ref a :: st) := by
  cases o with
  | none => exact hr_aastN t X ht d hM hi kk
  | some v =>
    obtain ⟨vs, h⟩ := hv v rfl
    exact hr_aast t ci X ht hc d hM h hi kk
end HA2
theorem ca_ihr {f1 f2 : Nat → Option Nat} {n t : Nat} (q : ¬ t = n) : (if t < n + 1 ∧ f1 t = none then f2 t else f1 t) = if t < n ∧ f1 t = none then f2 t else f1 t := by
  by_cases z : t < n ∧ f1 t = none
  · rw [if_pos z, if_pos ⟨by omega, z.2⟩]
  · rw [if_neg z, if_neg (fun y => z ⟨by omega, y.2⟩)]
theorem cr_R.inj {cA : Nat → ClassId} {sg ta : mm_S} {ad : Nat → Nat → Nat} {M0 M : hm_M} (h : cr_R cA sg ta ad M0 M) {y z : Nat} (hy : cr_isV sg y = true) (hz : cr_isV sg z = true) (e : ad 13 y = ad 13 z) : y = z := (h.2.1 13 y 13 z _ _ (if_pos hy) (if_pos hz) e).2
def ca_hd2 (sg : mm_S) (s v : Nat) : Nat → Bool
  | 0 => false
  | k + 1 => ca_hd2 sg s v k || decide (sg 10 (4 * s + k) = nI v)
def ca_td (sg : mm_S) (s v : Nat) : Nat → Bool
  | 0 => false
  | k + 1 => ca_td sg s v k || (!decide (sg 13 (12 * s + k) = 0) && decide (sg 14 (12 * s + k) = nI v))
def ca_cc (sg : mm_S) (s v : Nat) : Nat → Nat
  | 0 => 0
  | k + 1 => ca_cc sg s v k + if sp_isCh sg s v k = true then 1 else 0
theorem ca_hd2_mono {sg : mm_S} {s v : Nat} : ∀ (d k : Nat), ca_hd2 sg s v k = true → ca_hd2 sg s v (k + d) = true
  | 0, _, h => h
  | d + 1, k, h => by
    show (ca_hd2 sg s v (k + d) || _) = true
    rw [ca_hd2_mono d k h]
    rfl
theorem ca_td_mono {sg : mm_S} {s v : Nat} : ∀ (d k : Nat), ca_td sg s v k = true → ca_td sg s v (k + d) = true
  | 0, _, h => h
  | d + 1, k, h => by
    show (ca_td sg s v (k + d) || _) = true
    rw [ca_td_mono d k h]
    rfl
theorem ca_cc_le (sg : mm_S) (s v : Nat) : ∀ k, ca_cc sg s v k ≤ k
  | 0 => Nat.le_refl 0
  | k + 1 => by
    have := ca_cc_le sg s v k
    unfold ca_cc
    split <;> omega
theorem sp_ndH_hd (sg : mm_S) (s v : Nat) : ∀ k, sp_ndH sg s v k = (decide (nI v = 0) || ca_hd2 sg s v k)
  | 0 => (Bool.or_false _).symm
  | k + 1 => by
    show (sp_ndH sg s v k || _) = (decide (nI v = 0) || (ca_hd2 sg s v k || _))
    rw [sp_ndH_hd sg s v k, Bool.or_assoc]
theorem sp_ndA_td (sg : mm_S) (s v : Nat) : ∀ k, sp_ndA sg s v k = (sp_ndH sg s v 4 || ca_td sg s v k)
  | 0 => (Bool.or_false _).symm
  | k + 1 => by
    show (sp_ndA sg s v k || _) = (sp_ndH sg s v 4 || (ca_td sg s v k || _))
    rw [sp_ndA_td sg s v k, Bool.or_assoc]
theorem sp_ch_cc (sg : mm_S) (s v : Nat) : ∀ k, k ≤ 16 → (ca_cc sg s v k = 0 → sp_ch sg s v k = -1) ∧ (ca_cc sg s v k = 1 → ∃ c, c < k ∧ sp_ch sg s v k = nI c) ∧ (2 ≤ ca_cc sg s v k → sp_ch sg s v k = -2)
  | 0, _ => ⟨fun _ => rfl, fun h => absurd (show (0 : Nat) = 1 from h) (by decide), fun h => absurd (show (2 : Nat) ≤ 0 from h) (by decide)⟩
  | k + 1, hk => by
    obtain ⟨h0, h1, h2⟩ := sp_ch_cc sg s v k (by omega)
    unfold ca_cc sp_ch
    by_cases q : sp_isCh sg s v k = true
    · rw [if_pos q, if_pos q]
      refine ⟨fun z => by omega, fun z => ⟨k, by omega, if_pos (h0 (by omega))⟩, fun z => ?_⟩
      rcases (show ca_cc sg s v k = 1 ∨ 2 ≤ ca_cc sg s v k by omega) with y | y
      · obtain ⟨c, c1, c2⟩ := h1 y
        rw [c2]
        exact if_neg (nI_m1 (by omega))
      · rw [h2 y]
        exact if_neg (by decide)
    · rw [if_neg q, if_neg q]
      refine ⟨fun z => h0 (by omega), fun z => ?_, fun z => h2 (by omega)⟩
      obtain ⟨c, c1, c2⟩ := h1 (by omega)
      exact ⟨c, by omega, c2⟩
theorem sp_ch_2 {sg : mm_S} {s v : Nat} : sp_ch sg s v 16 = -2 ↔ 2 ≤ ca_cc sg s v 16 := by
  obtain ⟨h0, h1, h2⟩ := sp_ch_cc sg s v 16 (Nat.le_refl _)
  refine ⟨fun q => ?_, h2⟩
  rcases (show ca_cc sg s v 16 = 0 ∨ ca_cc sg s v 16 = 1 ∨ 2 ≤ ca_cc sg s v 16 by omega) with y | y | y
  · rw [h0 y] at q
    exact absurd q (by decide)
  · obtain ⟨c, c1, c2⟩ := h1 y
    rw [c2] at q
    exact absurd q (nI_m2 (by omega))
  · exact y
theorem sp_ch_mono {sg : mm_S} {s v : Nat} {k : Nat} (h : ¬ sp_ch sg s v k = -1) : ∀ d, sp_ch sg s v (k + d) = sp_ch sg s v k ∨ sp_ch sg s v (k + d) = -2
  | 0 => Or.inl rfl
  | d + 1 => by
    show (if sp_isCh sg s v (k + d) = true then (if sp_ch sg s v (k + d) = -1 then nI (k + d) else -2) else sp_ch sg s v (k + d)) = sp_ch sg s v k ∨ (if sp_isCh sg s v (k + d) = true then (if sp_ch sg s v (k + d) = -1 then nI (k + d) else -2) else sp_ch sg s v (k + d)) = -2
    rcases sp_ch_mono h d with q | q
    · rw [q]
      by_cases z : sp_isCh sg s v (k + d) = true
      · rw [if_pos z, if_neg h]
        exact Or.inr rfl
      · rw [if_neg z]
        exact Or.inl rfl
    · rw [q]
      by_cases z : sp_isCh sg s v (k + d) = true
      · rw [if_pos z, if_neg (by decide)]
        exact Or.inr rfl
      · rw [if_neg z]
        exact Or.inr rfl
/-- a version that is there: its child is one whose parent it is -/
theorem sp_isCh_th {sg : mm_S} (hI : sp_I sg) {s v k : Nat} (hs : s < sp_n sg) (hv : v < 16) (hk : sp_th sg s k) : sp_isCh sg s v k = decide (sg 3 (16 * s + k) = nI v) := by
  unfold sp_isCh
  rw [decide_eq_false hk.2, Bool.not_false, Bool.true_and]
  by_cases q : sg 3 (16 * s + k) = nI v
  · have hne : ¬ nI k = nI v := fun z => by
      have hk16 := hk.1
      rcases (hI.i3 s hs).2 k hk with ⟨-, h1, -⟩ | ⟨u, g, h1, h2, h3, -⟩
      · rw [h1] at q
        exact nI_m1 (by omega) q.symm
      · have h16 := h3.1
        rw [h2] at q
        have e1 := (nI_eq (by omega) (by omega)).mp q
        have e2 := (nI_eq (by omega) (by omega)).mp z
        omega
    rw [decide_eq_false hne]
    rfl
  · rw [decide_eq_false q, Bool.and_false]
theorem cr_up_is {sg : mm_S} (hI : sp_I sg) {s v k : Nat} (hs : s < sp_n sg) (hv : v < 16) (hk : sp_th sg s k) : cr_up sg (16 * s + k) = some (16 * s + v) ↔ sg 3 (16 * s + k) = nI v := by
  have hk16 := hk.1
  unfold cr_up
  rcases (hI.i3 s hs).2 k hk with ⟨-, h1, -⟩ | ⟨u, g, h1, h2, h3, -⟩
  · rw [if_pos h1, h1]
    exact ⟨fun q => (by cases q), fun q => absurd q.symm (nI_m1 (by omega))⟩
  · have h16 := h3.1
    rw [h2, if_neg (nI_m1 (by omega)), show nN (nI u) = u from nI_clamp (by omega), show (16 * s + k) / 16 = s by omega]
    constructor
    · intro q
      have := Option.some.inj q
      rw [show u = v by omega]
    · intro q
      rw [(nI_eq (by omega) (by omega)).mp q]
theorem cr_par_is {cA : Nat → ClassId} {sg ta : mm_S} {ad : Nat → Nat → Nat} {M0 M : hm_M} (hR : cr_R cA sg ta ad M0 M) (hI : sp_I sg) {s v k : Nat} (hs : s < sp_n sg) (hv : sp_th sg s v) (hk : sp_th sg s k) : (cr_up sg (16 * s + k)).map (ad 13) = some (ad 13 (16 * s + v)) ↔ sp_isCh sg s v k = true := by
  rw [sp_isCh_th hI hs hv.1 hk, decide_eq_true_eq, ← cr_up_is hI hs hv.1 hk]
  have h2 := (cr_up_no hI hs hk).2
  cases e : cr_up sg (16 * s + k) with
  | none => exact ⟨fun q => (by cases q), fun q => (by cases q)⟩
  | some y =>
    refine ⟨fun q => ?_, fun q => by rw [q]; rfl⟩
    rw [hR.inj (h2 y e) (cr_isV_th hs hv) (Option.some.inj q)]
set_option maxHeartbeats 4000000 in
set_option maxRecDepth 100000 in
theorem c_X5_setQuota (cA : Nat → ClassId) {sg ta : mm_S} {ad : Nat → Nat → Nat} {M0 M : hm_M} (hR : cr_R cA sg ta ad M0 M) (g q : Int32) : hm_XMet cA yX5_setQuota cX5_setQuota 4 (some .int) r_X5_setQuota [.ref (ad 0 0), .int g, .int q] M (fun v' M' => sp_thQuota g q = 0 ∧ v' = some (.int (sg 12 (nN g))) ∧ cr_R cA (mm_up sg 12 (nN g) q) ta ad M0 M') (fun E M' => ((sp_thQuota g q = 1 ∧ E = "java/lang/IndexOutOfBoundsException") ∨ (sp_thQuota g q = 2 ∧ E = "java/lang/IllegalArgumentException")) ∧ M = M') := by
  refine hm_xmet 1 (by decide +kernel) (fun w h => by simp only [List.mem_cons, List.not_mem_nil, or_false] at h; rcases h with rfl | rfl | rfl <;> rfl) rfl (fun C X XE => ?_)
  show hm_W C 0 0 _ M 0 [some (.ref (ad 0 0)), some (.int g), some (.int q), none] []
  refine hr_iload_n X dX5_setQuota_0 rfl ?_
  refine hr_callSX X XE kC5_45 dX5_setQuota_1 (c_X5_checkClass cA (M := M) g) rfl rfl rfl (Nat.le_of_ble_eq_true rfl) ⟨⟨(Nat.le_of_ble_eq_true rfl), (Nat.le_of_ble_eq_true rfl)⟩, (Nat.le_of_ble_eq_true rfl), (Nat.le_of_ble_eq_true rfl)⟩ (Nat.le_of_ble_eq_true rfl) (Nat.le_of_ble_eq_true rfl) (fun _ _ h => ⟨(Or.inl ⟨(show sp_thQuota g q = 1 by unfold sp_thQuota; rw [h.1]; rfl), h.2.1⟩), h.2.2⟩) (fun v M1 hp1 => ?_)
  obtain ⟨h1, rfl, rfl⟩ := hp1
  obtain ⟨g, hg, rfl⟩ := sp_in_g h1
  refine hr_iload_n X dX5_setQuota_4 rfl ?_
  refine hr_iconst (0) X dX5_setQuota_5 (by decide) ?_
  refine hr_sipush (1000) X dX5_setQuota_6 (by decide) ?_
  refine hr_callSX X XE kC5_56 dX5_setQuota_9 (c_X5_checkRange cA (M := M) q 0 1000) rfl rfl rfl (Nat.le_of_ble_eq_true rfl) ⟨⟨(Nat.le_of_ble_eq_true rfl), (Nat.le_of_ble_eq_true rfl)⟩, (Nat.le_of_ble_eq_true rfl), (Nat.le_of_ble_eq_true rfl)⟩ (Nat.le_of_ble_eq_true rfl) (Nat.le_of_ble_eq_true rfl) (fun _ _ h => ⟨(Or.inr ⟨(show sp_thQuota (nI g) q = 2 by unfold sp_thQuota; rw [h1, h.1]; rfl), h.2.1⟩), h.2.2⟩) (fun v M9 hp9 => ?_)
  obtain ⟨h9, rfl, rfl⟩ := hp9
  have hz : sp_thQuota (nI g) q = 0 := by unfold sp_thQuota; rw [h1, h9]; rfl
  refine hr_aload_n X dX5_setQuota_12 rfl (Or.inr ⟨_, rfl⟩) ?_
  refine hr_get X kF5_19 dX5_setQuota_13 hR.c0 rfl ?_
  refine hr_iload_n X dX5_setQuota_16 rfl ?_
  refine hr_iald X dX5_setQuota_17 hR.c2 (mm_in rfl (by omega) (by decide)).1 ?_
  rw [nI_clamp (by omega)]
  refine hr_istore_n X dX5_setQuota_18 (Nat.le_of_ble_eq_true rfl) ?_
  refine hr_aload_n X dX5_setQuota_19 rfl (Or.inr ⟨_, rfl⟩) ?_
  refine hr_get X kF5_19 dX5_setQuota_20 hR.c0 rfl ?_
  refine hr_iload_n X dX5_setQuota_23 rfl ?_
  refine hr_iload_n X dX5_setQuota_24 rfl ?_
  refine hr_iast X dX5_setQuota_25 hR.c2 (mm_in rfl (by omega) (by decide)).1 ?_
  rw [nI_clamp (by omega)]
  refine hr_w2 hR (fun M25 hR => ?_)
  refine hr_iload_n X dX5_setQuota_26 rfl ?_
  exact hr_iretX X dX5_setQuota_27 (Nat.le_of_ble_eq_true rfl) (Nat.le_of_ble_eq_true rfl) ⟨hz, by rw [show nN (nI g) = g from nI_clamp (by omega)], by rw [show nN (nI g) = g from nI_clamp (by omega)]; exact hR⟩
set_option maxHeartbeats 4000000 in
set_option maxRecDepth 100000 in
theorem c_X5_adopt (cA : Nat → ClassId) {sg ta : mm_S} {ad : Nat → Nat → Nat} {M0 M : hm_M} (hR : cr_R cA sg ta ad M0 M) (hI : sp_I sg) (g s v : Int32) : hm_XMet cA yX5_adopt cX5_adopt 7 (some .int) r_X5_adopt [.ref (ad 0 0), .int g, .int s, .int v] M (fun v' M' => sp_thAdopt sg g s v = 0 ∧ v' = some (.int (sg 10 (4 * nN s + nN g))) ∧ cr_R cA (mm_up sg 10 (4 * nN s + nN g) v) ta ad M0 M') (fun E M' => ((sp_thAdopt sg g s v = 1 ∧ E = "java/lang/IndexOutOfBoundsException")) ∧ M = M') := by
  refine hm_xmet 3 (by decide +kernel) (fun w h => by simp only [List.mem_cons, List.not_mem_nil, or_false] at h; rcases h with rfl | rfl | rfl | rfl <;> rfl) rfl (fun C X XE => ?_)
  show hm_W C 0 0 _ M 0 [some (.ref (ad 0 0)), some (.int g), some (.int s), some (.int v), none, none, none] []
  refine hr_iload_n X dX5_adopt_0 rfl ?_
  refine hr_callSX X XE kC5_45 dX5_adopt_1 (c_X5_checkClass cA (M := M) g) rfl rfl rfl (Nat.le_of_ble_eq_true rfl) ⟨⟨(Nat.le_of_ble_eq_true rfl), (Nat.le_of_ble_eq_true rfl)⟩, (Nat.le_of_ble_eq_true rfl), (Nat.le_of_ble_eq_true rfl)⟩ (Nat.le_of_ble_eq_true rfl) (Nat.le_of_ble_eq_true rfl) (fun _ _ h => ⟨⟨(show sp_thAdopt sg g s v = 1 by unfold sp_thAdopt; rw [h.1]; rfl), h.2.1⟩, h.2.2⟩) (fun v M1 hp1 => ?_)
  obtain ⟨h1, rfl, rfl⟩ := hp1
  obtain ⟨g, hg, rfl⟩ := sp_in_g h1
  refine hr_aload_n X dX5_adopt_4 rfl (Or.inr ⟨_, rfl⟩) ?_
  refine hr_iload_n X dX5_adopt_5 rfl ?_
  refine hr_callVX X XE kC5_49 dX5_adopt_6 (c_X5_sheetAt cA hR hI s) hR.c0 rfl rfl rfl rfl (Nat.le_of_ble_eq_true rfl) ⟨⟨(Nat.le_of_ble_eq_true rfl), (Nat.le_of_ble_eq_true rfl)⟩, (Nat.le_of_ble_eq_true rfl), (Nat.le_of_ble_eq_true rfl)⟩ (Nat.le_of_ble_eq_true rfl) (Nat.le_of_ble_eq_true rfl) (fun _ _ h => ⟨⟨(show sp_thAdopt sg (nI g) s v = 1 by unfold sp_thAdopt; rw [sp_isV_S h.1, Bool.and_false]; rfl), h.2.1⟩, h.2.2⟩) (fun v M6 hp6 => ?_)
  obtain ⟨⟨a, ha, hs, rfl, rfl⟩, rfl⟩ := hp6
  obtain ⟨ha1, ha4⟩ := cr_isS_4 hI hs
  refine hr_astore X dX5_adopt_9 (Nat.le_of_ble_eq_true rfl) (Or.inr ⟨_, rfl⟩) ?_
  refine hr_aload X dX5_adopt_11 rfl (Or.inr ⟨_, rfl⟩) ?_
  refine hr_iload_n X dX5_adopt_13 rfl ?_
  refine hr_callSX X XE kC5_86 dX5_adopt_14 (c_X5_versionAt cA hR hI a hs v) rfl rfl rfl (Nat.le_of_ble_eq_true rfl) ⟨⟨(Nat.le_of_ble_eq_true rfl), (Nat.le_of_ble_eq_true rfl)⟩, (Nat.le_of_ble_eq_true rfl), (Nat.le_of_ble_eq_true rfl)⟩ (Nat.le_of_ble_eq_true rfl) (Nat.le_of_ble_eq_true rfl) (fun _ _ h => ⟨⟨(show sp_thAdopt sg (nI g) (nI a) v = 1 by unfold sp_thAdopt; rw [h.1, Bool.and_false]; rfl), h.2.1⟩, h.2.2⟩) (fun v M14 hp14 => ?_)
  obtain ⟨⟨c, hc, hn, rfl, rfl⟩, rfl⟩ := hp14
  have hv : sp_th sg a c := ⟨hc, hn⟩
  have hx := cr_isV_th ha1 hv
  have hV := sp_isV_yes hI ha4 hs hc hn
  have hz : sp_thAdopt sg (nI g) (nI a) (nI c) = 0 := by unfold sp_thAdopt; rw [h1, hV]; rfl
  obtain ⟨w, w1, w2, w3⟩ := cr_hd_nat hI ha1 hg
  have hxw := cr_isV_th ha1 w1
  have w16 := w1.1
  refine hr_astore X dX5_adopt_17 (Nat.le_of_ble_eq_true rfl) (Or.inr ⟨_, rfl⟩) ?_
  refine hr_aload X dX5_adopt_19 rfl (Or.inr ⟨_, rfl⟩) ?_
  refine hr_get X kF5_76 dX5_adopt_21 (hR.c8 hs) rfl ?_
  refine hr_iload_n X dX5_adopt_24 rfl ?_
  refine hr_aald 4 X rfl dX5_adopt_25 (hR.c10 hs) (mm_in rfl (by omega) (by decide)).1 ?_
  rw [nI_clamp (by omega), w3]
  refine hr_callS X kC5_90 dX5_adopt_26 (c_X5_numberOf_s cA hR hI (16 * a + w) hxw) rfl rfl rfl (Nat.le_of_ble_eq_true rfl) ⟨⟨(Nat.le_of_ble_eq_true rfl), (Nat.le_of_ble_eq_true rfl)⟩, (Nat.le_of_ble_eq_true rfl), (Nat.le_of_ble_eq_true rfl)⟩ (fun v M26 hp => ?_)
  obtain ⟨rfl, rfl⟩ := hp
  rw [show (16 * a + w) % 16 = w by omega, ← w2]
  refine hr_istore X dX5_adopt_29 (Nat.le_of_ble_eq_true rfl) ?_
  refine hr_aload X dX5_adopt_31 rfl (Or.inr ⟨_, rfl⟩) ?_
  refine hr_get X kF5_76 dX5_adopt_33 (hR.c8 hs) rfl ?_
  refine hr_iload_n X dX5_adopt_36 rfl ?_
  refine hr_aload X dX5_adopt_37 rfl (Or.inr ⟨_, rfl⟩) ?_
  refine hr_aast 4 4 X rfl rfl dX5_adopt_39 (hR.c10 hs) (hR.c13 hx) (mm_in rfl (by omega) (by decide)).1 ?_
  rw [nI_clamp (by omega)]
  refine hr_w10 hR hs hg hc (fun M39 hR => ?_)
  refine hr_iload X dX5_adopt_40 rfl ?_
  exact hr_iretX X dX5_adopt_42 (Nat.le_of_ble_eq_true rfl) (Nat.le_of_ble_eq_true rfl) ⟨hz, by rw [show nN (nI g) = g from nI_clamp (by omega), show nN (nI a) = a from nI_clamp (by omega)], by rw [show nN (nI g) = g from nI_clamp (by omega), show nN (nI a) = a from nI_clamp (by omega)]; exact hR⟩
set_option maxHeartbeats 4000000 in
set_option maxRecDepth 100000 in
theorem c_X3_isHead (cA : Nat → ClassId) {sg ta : mm_S} {ad : Nat → Nat → Nat} {M0 M : hm_M} (hR : cr_R cA sg ta ad M0 M) (hI : sp_I sg) (a v : Nat) (hs : cr_isS sg a = true) (hv : sp_th sg a v) : hm_Met cA yX3_isHead cX3_isHead 3 (some .boolean) r_X3_isHead [.ref (ad 8 a), .ref (ad 13 (16 * a + v))] M (hm_pu (some (.int (hm_bI (ca_hd2 sg a v 4)))) M) := by
  refine hm_met 1 (by decide +kernel) (fun w h => by simp only [List.mem_cons, List.not_mem_nil, or_false] at h; rcases h with rfl | rfl <;> rfl) rfl (fun C X => ?_)
  show hm_W C 0 0 _ M 0 [some (.ref (ad 8 a)), some (.ref (ad 13 (16 * a + v))), none] []
  obtain ⟨ha1, ha4⟩ := cr_isS_4 hI hs
  have hx := cr_isV_th ha1 hv
  have hv16 := hv.1
  refine hr_iconst (0) X dX3_isHead_0 (by decide) ?_
  refine hr_istore_n X dX3_isHead_1 (Nat.le_of_ble_eq_true rfl) ?_
  have lp2 : ∀ (f : Nat) (n : Nat), 4 < n + f → n ≤ 4 → ca_hd2 sg a v n = false → hm_W C 0 0 (hm_T C (hm_pu (some (.int (hm_bI (ca_hd2 sg a v 4)))) M) r_X3_isHead.cells r_X3_isHead.slots) M 2 [some (.ref (ad 8 a)), some (.ref (ad 13 (16 * a + v))), some (.int (nI n))] [] := by
    intro f
    induction f with
    | zero => intro n h1 h2 h3; exact absurd h1 (by omega)
    | succ f ih =>
      intro n h1 h2 h3
      refine hr_iload_n X dX3_isHead_2 rfl ?_
      refine hr_iconst (4) X dX3_isHead_3 (by decide) ?_
      refine hr_icmp_ge 25 X dX3_isHead_4 (by decide) (fun c4 => ?_) (fun c4 => ?_)
      · have hz : n = 4 := by have := (nI_leI (a := 4) (by decide) (by omega)).mp c4; omega
        subst hz
        refine hr_iconst (0) X dX3_isHead_25 (by decide) ?_
        exact hr_zret X dX3_isHead_26 (by rfl) (Nat.le_of_ble_eq_true rfl) (Nat.le_of_ble_eq_true rfl) ⟨by rw [h3]; rfl, rfl⟩
      · have hn : n < 4 := by
          rcases Nat.lt_or_ge n 4 with q | q
          · exact q
          · exact absurd (nI_le (by omega) (by omega)) c4
        obtain ⟨w, w1, w2, w3⟩ := cr_hd_nat hI ha1 hn
        have hxw := cr_isV_th ha1 w1
        have w16 := w1.1
        refine hr_aload_n X dX3_isHead_7 rfl (Or.inr ⟨_, rfl⟩) ?_
        refine hr_get X kF3_21 dX3_isHead_8 (hR.c8 hs) rfl ?_
        refine hr_iload_n X dX3_isHead_11 rfl ?_
        refine hr_aald 4 X rfl dX3_isHead_12 (hR.c10 hs) (mm_in rfl (by omega) (by decide)).1 ?_
        rw [nI_clamp (by omega), w3]
        refine hr_aload_n X dX3_isHead_13 rfl (Or.inr ⟨_, rfl⟩) ?_
        refine hr_acmp_ne (rx := some (ad 13 (16 * a + w))) (ry := some (ad 13 (16 * a + v))) 19 X dX3_isHead_14 (by decide) (fun c14 => ?_) (fun c14 => ?_)
        · have hz : ca_hd2 sg a v (n + 1) = false := by
            show (ca_hd2 sg a v n || decide (sg 10 (4 * a + n) = nI v)) = false
            rw [h3, w2, decide_eq_false (fun z => c14 (by rw [(nI_eq (by omega) (by omega)).mp z]))]
            rfl
          refine hr_iinc (1) X dX3_isHead_19 rfl (by decide) ?_
          refine hr_goto 2 X dX3_isHead_22 (by decide) ?_
          rw [nI_1]
          exact ih (n + 1) (by omega) (by omega) hz
        · have hz : ca_hd2 sg a v 4 = true := by
            have e := hR.inj hxw hx (Option.some.inj c14)
            have e2 := ca_hd2_mono (sg := sg) (s := a) (v := v) (4 - (n + 1)) (n + 1) (by
              show (ca_hd2 sg a v n || decide (sg 10 (4 * a + n) = nI v)) = true
              rw [w2, decide_eq_true (by rw [show w = v by omega])]
              exact Bool.or_true _)
            rw [show n + 1 + (4 - (n + 1)) = 4 by omega] at e2
            exact e2
          refine hr_iconst (1) X dX3_isHead_17 (by decide) ?_
          exact hr_zret X dX3_isHead_18 (by rfl) (Nat.le_of_ble_eq_true rfl) (Nat.le_of_ble_eq_true rfl) ⟨by rw [hz]; rfl, rfl⟩
  exact lp2 5 0 (by decide) (by decide) rfl
set_option maxHeartbeats 4000000 in
set_option maxRecDepth 100000 in
theorem c_X3_isTied (cA : Nat → ClassId) {sg ta : mm_S} {ad : Nat → Nat → Nat} {M0 M : hm_M} (hR : cr_R cA sg ta ad M0 M) (hI : sp_I sg) (a v : Nat) (hs : cr_isS sg a = true) (hv : sp_th sg a v) : hm_Met cA yX3_isTied cX3_isTied 3 (some .boolean) r_X3_isTied [.ref (ad 8 a), .ref (ad 13 (16 * a + v))] M (hm_pu (some (.int (hm_bI (ca_td sg a v 12)))) M) := by
  refine hm_met 1 (by decide +kernel) (fun w h => by simp only [List.mem_cons, List.not_mem_nil, or_false] at h; rcases h with rfl | rfl <;> rfl) rfl (fun C X => ?_)
  show hm_W C 0 0 _ M 0 [some (.ref (ad 8 a)), some (.ref (ad 13 (16 * a + v))), none] []
  obtain ⟨ha1, ha4⟩ := cr_isS_4 hI hs
  have hx := cr_isV_th ha1 hv
  have hv16 := hv.1
  refine hr_iconst (0) X dX3_isTied_0 (by decide) ?_
  refine hr_istore_n X dX3_isTied_1 (Nat.le_of_ble_eq_true rfl) ?_
  have lp2 : ∀ (f : Nat) (n : Nat), 12 < n + f → n ≤ 12 → ca_td sg a v n = false → hm_W C 0 0 (hm_T C (hm_pu (some (.int (hm_bI (ca_td sg a v 12)))) M) r_X3_isTied.cells r_X3_isTied.slots) M 2 [some (.ref (ad 8 a)), some (.ref (ad 13 (16 * a + v))), some (.int (nI n))] [] := by
    intro f
    induction f with
    | zero => intro n h1 h2 h3; exact absurd h1 (by omega)
    | succ f ih =>
      intro n h1 h2 h3
      refine hr_iload_n X dX3_isTied_2 rfl ?_
      refine hr_bipush (12) X dX3_isTied_3 (by decide) ?_
      refine hr_icmp_ge 38 X dX3_isTied_5 (by decide) (fun c5 => ?_) (fun c5 => ?_)
      · have hz : n = 12 := by have := (nI_leI (a := 12) (by decide) (by omega)).mp c5; omega
        subst hz
        refine hr_iconst (0) X dX3_isTied_38 (by decide) ?_
        exact hr_zret X dX3_isTied_39 (by rfl) (Nat.le_of_ble_eq_true rfl) (Nat.le_of_ble_eq_true rfl) ⟨by rw [h3]; rfl, rfl⟩
      · have hn : n < 12 := by
          rcases Nat.lt_or_ge n 12 with q | q
          · exact q
          · exact absurd (nI_le (by omega) (by omega)) c5
        refine hr_aload_n X dX3_isTied_8 rfl (Or.inr ⟨_, rfl⟩) ?_
        refine hr_get X kF3_30 dX3_isTied_9 (hR.c8 hs) rfl ?_
        refine hr_iload_n X dX3_isTied_12 rfl ?_
        refine hr_aald 6 X rfl dX3_isTied_13 (hR.c12 hs) (mm_in rfl (by omega) (by decide)).1 ?_
        rw [nI_clamp (by omega)]
        refine hr_ifnull 32 X dX3_isTied_14 (by decide) (fun c14 => ?_) (fun a14 c14 => ?_)
        · have h13 : sg 13 (12 * a + n) = 0 := by
            by_cases q : sg 13 (12 * a + n) = 0
            · exact q
            · rw [if_neg q] at c14; cases c14
          have hz : ca_td sg a v (n + 1) = false := by
            show (ca_td sg a v n || (!decide (sg 13 (12 * a + n) = 0) && _)) = false
            rw [h3, decide_eq_true h13]
            rfl
          refine hr_iinc (1) X dX3_isTied_32 rfl (by decide) ?_
          refine hr_goto 2 X dX3_isTied_35 (by decide) ?_
          rw [nI_1]
          exact ih (n + 1) (by omega) (by omega) hz
        · have h13 : ¬ sg 13 (12 * a + n) = 0 := fun q => by rw [if_pos q] at c14; cases c14
          have hK := cr_isK_at ha1 hn h13
          obtain ⟨-, w, e14, w1⟩ := sp_handed hI (k := 12 * a + n) (by omega) h13
          rw [show (12 * a + n) / 12 = a by omega] at w1
          have w16 := w1.1
          have hxw := cr_isV_th ha1 w1
          refine hr_aload_n X dX3_isTied_17 rfl (Or.inr ⟨_, rfl⟩) ?_
          refine hr_get X kF3_30 dX3_isTied_18 (hR.c8 hs) rfl ?_
          refine hr_iload_n X dX3_isTied_21 rfl ?_
          refine hr_aald 6 X rfl dX3_isTied_22 (hR.c12 hs) (mm_in rfl (by omega) (by decide)).1 ?_
          rw [nI_clamp (by omega), if_neg h13]
          refine hr_get X kF3_51 dX3_isTied_23 (hR.c16 hK) rfl ?_
          rw [e14, show (12 * a + n) / 12 = a by omega, show nN (nI w) = w from nI_clamp (by omega)]
          refine hr_aload_n X dX3_isTied_26 rfl (Or.inr ⟨_, rfl⟩) ?_
          refine hr_acmp_ne (rx := some (ad 13 (16 * a + w))) (ry := some (ad 13 (16 * a + v))) 32 X dX3_isTied_27 (by decide) (fun c27 => ?_) (fun c27 => ?_)
          · have hz : ca_td sg a v (n + 1) = false := by
              show (ca_td sg a v n || (!decide (sg 13 (12 * a + n) = 0) && decide (sg 14 (12 * a + n) = nI v))) = false
              rw [h3, e14, decide_eq_false (show ¬ nI w = nI v from fun z => c27 (by rw [(nI_eq (by omega) (by omega)).mp z])), Bool.and_false]
              rfl
            refine hr_iinc (1) X dX3_isTied_32 rfl (by decide) ?_
            refine hr_goto 2 X dX3_isTied_35 (by decide) ?_
            rw [nI_1]
            exact ih (n + 1) (by omega) (by omega) hz
          · have hz : ca_td sg a v 12 = true := by
              have e := hR.inj hxw hx (Option.some.inj c27)
              have e2 := ca_td_mono (sg := sg) (s := a) (v := v) (12 - (n + 1)) (n + 1) (by
                show (ca_td sg a v n || (!decide (sg 13 (12 * a + n) = 0) && decide (sg 14 (12 * a + n) = nI v))) = true
                rw [e14, decide_eq_true (show nI w = nI v by rw [show w = v by omega]), decide_eq_false h13]
                exact Bool.or_true _)
              rw [show n + 1 + (12 - (n + 1)) = 12 by omega] at e2
              exact e2
            refine hr_iconst (1) X dX3_isTied_30 (by decide) ?_
            exact hr_zret X dX3_isTied_31 (by rfl) (Nat.le_of_ble_eq_true rfl) (Nat.le_of_ble_eq_true rfl) ⟨by rw [hz]; rfl, rfl⟩
  exact lp2 13 0 (by decide) (by decide) rfl
set_option maxHeartbeats 4000000 in
set_option maxRecDepth 100000 in
theorem c_X3_countChildren (cA : Nat → ClassId) {sg ta : mm_S} {ad : Nat → Nat → Nat} {M0 M : hm_M} (hR : cr_R cA sg ta ad M0 M) (hI : sp_I sg) (a v : Nat) (hs : cr_isS sg a = true) (hv : sp_th sg a v) : hm_Met cA yX3_countChildren cX3_countChildren 4 (some .int) r_X3_countChildren [.ref (ad 8 a), .ref (ad 13 (16 * a + v))] M (hm_pu (some (.int (nI (ca_cc sg a v 16)))) M) := by
  refine hm_met 2 (by decide +kernel) (fun w h => by simp only [List.mem_cons, List.not_mem_nil, or_false] at h; rcases h with rfl | rfl <;> rfl) rfl (fun C X => ?_)
  show hm_W C 0 0 _ M 0 [some (.ref (ad 8 a)), some (.ref (ad 13 (16 * a + v))), none, none] []
  obtain ⟨ha1, ha4⟩ := cr_isS_4 hI hs
  have hx := cr_isV_th ha1 hv
  have hv16 := hv.1
  refine hr_iconst (0) X dX3_countChildren_0 (by decide) ?_
  refine hr_istore_n X dX3_countChildren_1 (Nat.le_of_ble_eq_true rfl) ?_
  refine hr_iconst (0) X dX3_countChildren_2 (by decide) ?_
  refine hr_istore_n X dX3_countChildren_3 (Nat.le_of_ble_eq_true rfl) ?_
  have lp4 : ∀ (f : Nat) (n : Nat), 16 < n + f → n ≤ 16 → hm_W C 0 0 (hm_T C (hm_pu (some (.int (nI (ca_cc sg a v 16)))) M) r_X3_countChildren.cells r_X3_countChildren.slots) M 4 [some (.ref (ad 8 a)), some (.ref (ad 13 (16 * a + v))), some (.int (nI (ca_cc sg a v n))), some (.int (nI n))] [] := by
    intro f
    induction f with
    | zero => intro n h1 h2; exact absurd h1 (by omega)
    | succ f ih =>
      intro n h1 h2
      refine hr_iload_n X dX3_countChildren_4 rfl ?_
      refine hr_bipush (16) X dX3_countChildren_5 (by decide) ?_
      refine hr_icmp_ge 41 X dX3_countChildren_7 (by decide) (fun c7 => ?_) (fun c7 => ?_)
      · have hz : n = 16 := by have := (nI_leI (a := 16) (by decide) (by omega)).mp c7; omega
        subst hz
        refine hr_iload_n X dX3_countChildren_41 rfl ?_
        exact hr_iret X dX3_countChildren_42 (Nat.le_of_ble_eq_true rfl) (Nat.le_of_ble_eq_true rfl) ⟨rfl, rfl⟩
      · have hn : n < 16 := by
          rcases Nat.lt_or_ge n 16 with q | q
          · exact q
          · exact absurd (nI_le (by omega) (by omega)) c7
        refine hr_aload_n X dX3_countChildren_10 rfl (Or.inr ⟨_, rfl⟩) ?_
        refine hr_get X kF3_11 dX3_countChildren_11 (hR.c8 hs) rfl ?_
        refine hr_iload_n X dX3_countChildren_14 rfl ?_
        refine hr_aald 4 X rfl dX3_countChildren_15 (hR.c9 hs) (mm_in rfl (by omega) (by decide)).1 ?_
        rw [nI_clamp (by omega)]
        have J35 : hm_W C 0 0 (hm_T C (hm_pu (some (.int (nI (ca_cc sg a v 16)))) M) r_X3_countChildren.cells r_X3_countChildren.slots) M 35 [some (.ref (ad 8 a)), some (.ref (ad 13 (16 * a + v))), some (.int (nI (ca_cc sg a v (n + 1)))), some (.int (nI n))] [] := by
          refine hr_iinc (1) X dX3_countChildren_35 rfl (by decide) ?_
          refine hr_goto 4 X dX3_countChildren_38 (by decide) ?_
          rw [nI_1]
          exact ih (n + 1) (by omega) (by omega)
        refine hr_ifnull 35 X dX3_countChildren_16 (by decide) (fun c16 => ?_) (fun a16 c16 => ?_)
        · have h2 : sg 2 (16 * a + n) = 0 := by
            by_cases q : sg 2 (16 * a + n) = 0
            · exact q
            · rw [if_neg q] at c16; cases c16
          have hch : ¬ sp_isCh sg a v n = true := by unfold sp_isCh; rw [decide_eq_true h2]; exact fun z => by cases z
          have hz : nI (ca_cc sg a v (n + 1)) = nI (ca_cc sg a v n) := by rw [ca_cc, if_neg hch]; rfl
          exact hl_loc (by rw [hz] <;> rfl) J35
        · have h2 : ¬ sg 2 (16 * a + n) = 0 := fun q => by rw [if_pos q] at c16; cases c16
          have hk : sp_th sg a n := ⟨hn, h2⟩
          have hy := cr_isV_th ha1 hk
          have hp := cr_par_is hR hI ha1 hv hk
          refine hr_aload_n X dX3_countChildren_19 rfl (Or.inr ⟨_, rfl⟩) ?_
          refine hr_get X kF3_11 dX3_countChildren_20 (hR.c8 hs) rfl ?_
          refine hr_iload_n X dX3_countChildren_23 rfl ?_
          refine hr_aald 4 X rfl dX3_countChildren_24 (hR.c9 hs) (mm_in rfl (by omega) (by decide)).1 ?_
          rw [nI_clamp (by omega), if_neg h2]
          refine hr_get X kF3_55 dX3_countChildren_25 (hR.c13 hy) rfl ?_
          refine hr_aload_n X dX3_countChildren_28 rfl (Or.inr ⟨_, rfl⟩) ?_
          refine hr_acmp_ne (ry := some (ad 13 (16 * a + v))) 35 X dX3_countChildren_29 (by decide) (fun c29 => ?_) (fun c29 => ?_)
          · have hz : nI (ca_cc sg a v (n + 1)) = nI (ca_cc sg a v n) := by rw [ca_cc, if_neg (fun z => c29 (hp.mpr z))]; rfl
            exact hl_loc (by rw [hz] <;> rfl) J35
          · have hz : nI (ca_cc sg a v (n + 1)) = nI (ca_cc sg a v n) + 1 := by rw [ca_cc, if_pos (hp.mp c29), nI_1]
            refine hr_iinc (1) X dX3_countChildren_32 rfl (by decide) ?_
            exact hl_loc (by rw [hz] <;> rfl) J35
  exact lp4 17 0 (by decide) (by decide)
set_option maxHeartbeats 4000000 in
set_option maxRecDepth 100000 in
theorem c_X3_childOf (cA : Nat → ClassId) {sg ta : mm_S} {ad : Nat → Nat → Nat} {M0 M : hm_M} (hR : cr_R cA sg ta ad M0 M) (hI : sp_I sg) (a v : Nat) (hs : cr_isS sg a = true) (hv : sp_th sg a v) (h16 : ¬ sp_ch sg a v 16 = -2) : hm_Met cA yX3_childOf cX3_childOf 3 (some (.object "SheetVault$Version")) r_X3_childOf [.ref (ad 8 a), .ref (ad 13 (16 * a + v))] M (fun v' M' => v' = some (va_rf ((sp_chO sg a v).map (fun c => ad 13 (16 * a + c)))) ∧ M = M') := by
  refine hm_met 1 (by decide +kernel) (fun w h => by simp only [List.mem_cons, List.not_mem_nil, or_false] at h; rcases h with rfl | rfl <;> rfl) rfl (fun C X => ?_)
  show hm_W C 0 0 _ M 0 [some (.ref (ad 8 a)), some (.ref (ad 13 (16 * a + v))), none] []
  obtain ⟨ha1, ha4⟩ := cr_isS_4 hI hs
  have hx := cr_isV_th ha1 hv
  have hv16 := hv.1
  refine hr_iconst (0) X dX3_childOf_0 (by decide) ?_
  refine hr_istore_n X dX3_childOf_1 (Nat.le_of_ble_eq_true rfl) ?_
  have lp2 : ∀ (f : Nat) (n : Nat), 16 < n + f → n ≤ 16 → sp_ch sg a v n = -1 → hm_W C 0 0 (hm_T C (fun v' M' => v' = some (va_rf ((sp_chO sg a v).map (fun c => ad 13 (16 * a + c)))) ∧ M = M') r_X3_childOf.cells r_X3_childOf.slots) M 2 [some (.ref (ad 8 a)), some (.ref (ad 13 (16 * a + v))), some (.int (nI n))] [] := by
    intro f
    induction f with
    | zero => intro n h1 h2 h3; exact absurd h1 (by omega)
    | succ f ih =>
      intro n h1 h2 h3
      refine hr_iload_n X dX3_childOf_2 rfl ?_
      refine hr_bipush (16) X dX3_childOf_3 (by decide) ?_
      refine hr_icmp_ge 43 X dX3_childOf_5 (by decide) (fun c5 => ?_) (fun c5 => ?_)
      · have hz : n = 16 := by have := (nI_leI (a := 16) (by decide) (by omega)).mp c5; omega
        subst hz
        have hO : sp_chO sg a v = none := if_pos h3
        refine hr_null X dX3_childOf_43 ?_
        exact hr_aret X dX3_childOf_44 (Or.inl rfl) (Nat.le_of_ble_eq_true rfl) (Nat.le_of_ble_eq_true rfl) ⟨by rw [hO]; rfl, rfl⟩
      · have hn : n < 16 := by
          rcases Nat.lt_or_ge n 16 with q | q
          · exact q
          · exact absurd (nI_le (by omega) (by omega)) c5
        refine hr_aload_n X dX3_childOf_8 rfl (Or.inr ⟨_, rfl⟩) ?_
        refine hr_get X kF3_11 dX3_childOf_9 (hR.c8 hs) rfl ?_
        refine hr_iload_n X dX3_childOf_12 rfl ?_
        refine hr_aald 4 X rfl dX3_childOf_13 (hR.c9 hs) (mm_in rfl (by omega) (by decide)).1 ?_
        rw [nI_clamp (by omega)]
        refine hr_ifnull 37 X dX3_childOf_14 (by decide) (fun c14 => ?_) (fun a14 c14 => ?_)
        · have h2 : sg 2 (16 * a + n) = 0 := by
            by_cases q : sg 2 (16 * a + n) = 0
            · exact q
            · rw [if_neg q] at c14; cases c14
          have hch : ¬ sp_isCh sg a v n = true := by unfold sp_isCh; rw [decide_eq_true h2]; exact fun z => by cases z
          have hz : sp_ch sg a v (n + 1) = -1 := by rw [sp_ch, if_neg hch]; exact h3
          refine hr_iinc (1) X dX3_childOf_37 rfl (by decide) ?_
          refine hr_goto 2 X dX3_childOf_40 (by decide) ?_
          rw [nI_1]
          exact ih (n + 1) (by omega) (by omega) hz
        · have h2z : ¬ sg 2 (16 * a + n) = 0 := fun q => by rw [if_pos q] at c14; cases c14
          have hk : sp_th sg a n := ⟨hn, h2z⟩
          have hy := cr_isV_th ha1 hk
          have hp := cr_par_is hR hI ha1 hv hk
          refine hr_aload_n X dX3_childOf_17 rfl (Or.inr ⟨_, rfl⟩) ?_
          refine hr_get X kF3_11 dX3_childOf_18 (hR.c8 hs) rfl ?_
          refine hr_iload_n X dX3_childOf_21 rfl ?_
          refine hr_aald 4 X rfl dX3_childOf_22 (hR.c9 hs) (mm_in rfl (by omega) (by decide)).1 ?_
          rw [nI_clamp (by omega), if_neg h2z]
          refine hr_get X kF3_55 dX3_childOf_23 (hR.c13 hy) rfl ?_
          refine hr_aload_n X dX3_childOf_26 rfl (Or.inr ⟨_, rfl⟩) ?_
          refine hr_acmp_ne (ry := some (ad 13 (16 * a + v))) 37 X dX3_childOf_27 (by decide) (fun c27 => ?_) (fun c27 => ?_)
          · have hz : sp_ch sg a v (n + 1) = -1 := by rw [sp_ch, if_neg (fun z => c27 (hp.mpr z))]; exact h3
            refine hr_iinc (1) X dX3_childOf_37 rfl (by decide) ?_
            refine hr_goto 2 X dX3_childOf_40 (by decide) ?_
            rw [nI_1]
            exact ih (n + 1) (by omega) (by omega) hz
          · have hz : sp_ch sg a v (n + 1) = nI n := by rw [sp_ch, if_pos (hp.mp c27), if_pos h3]
            have hO : sp_chO sg a v = some n := by
              have hm := sp_ch_mono (sg := sg) (s := a) (v := v) (k := n + 1) (by rw [hz]; exact nI_m1 (by omega)) (16 - (n + 1))
              rw [show n + 1 + (16 - (n + 1)) = 16 by omega, hz] at hm
              rcases hm with q | q
              · unfold sp_chO
                rw [q, if_neg (nI_m1 (by omega)), if_neg (nI_m2 (by omega)), show nN (nI n) = n from nI_clamp (by omega)]
              · exact absurd q h16
            refine hr_aload_n X dX3_childOf_30 rfl (Or.inr ⟨_, rfl⟩) ?_
            refine hr_get X kF3_11 dX3_childOf_31 (hR.c8 hs) rfl ?_
            refine hr_iload_n X dX3_childOf_34 rfl ?_
            refine hr_aald 4 X rfl dX3_childOf_35 (hR.c9 hs) (mm_in rfl (by omega) (by decide)).1 ?_
            rw [nI_clamp (by omega), if_neg h2z]
            exact hr_aret X dX3_childOf_36 (hm_rf _) (Nat.le_of_ble_eq_true rfl) (Nat.le_of_ble_eq_true rfl) ⟨by rw [hO]; rfl, rfl⟩
  exact lp2 17 0 (by decide) (by decide) rfl
set_option maxHeartbeats 4000000 in
set_option maxRecDepth 100000 in
theorem c_X3_canFold (cA : Nat → ClassId) {sg ta : mm_S} {ad : Nat → Nat → Nat} {M0 M : hm_M} (hR : cr_R cA sg ta ad M0 M) (hI : sp_I sg) (a v : Nat) (hs : cr_isS sg a = true) (hv : sp_th sg a v) : hm_Met cA yX3_canFold cX3_canFold 2 (some .boolean) r_X3_canFold [.ref (ad 8 a), .ref (ad 13 (16 * a + v))] M (hm_pu (some (.int (hm_bI (!sp_need sg a v)))) M) := by
  refine hm_met 0 (by decide +kernel) (fun w h => by simp only [List.mem_cons, List.not_mem_nil, or_false] at h; rcases h with rfl | rfl <;> rfl) rfl (fun C X => ?_)
  show hm_W C 0 0 _ M 0 [some (.ref (ad 8 a)), some (.ref (ad 13 (16 * a + v)))] []
  obtain ⟨ha1, ha4⟩ := cr_isS_4 hI hs
  have hx := cr_isV_th ha1 hv
  have hv16 := hv.1
  have hcc := ca_cc_le sg a v 16
  refine hr_aload_n X dX3_canFold_0 rfl (Or.inr ⟨_, rfl⟩) ?_
  refine hr_get X kF3_37 dX3_canFold_1 (hR.c13 hx) rfl ?_
  rw [show (16 * a + v) % 16 = v by omega]
  refine hr_if_eq 36 X dX3_canFold_4 (by decide) (fun c4 => ?_) (fun c4 => ?_)
  · have hz : (!sp_need sg a v) = false := by rw [sp_need, sp_ndA_td, sp_ndH_hd, decide_eq_true c4]; rfl
    refine hr_iconst (0) X dX3_canFold_36 (by decide) ?_
    exact hr_zret X dX3_canFold_37 (by rfl) (Nat.le_of_ble_eq_true rfl) (Nat.le_of_ble_eq_true rfl) ⟨by rw [hz]; rfl, rfl⟩
  · have e1 : decide (nI v = 0) = false := decide_eq_false c4
    refine hr_aload_n X dX3_canFold_7 rfl (Or.inr ⟨_, rfl⟩) ?_
    refine hr_aload_n X dX3_canFold_8 rfl (Or.inr ⟨_, rfl⟩) ?_
    refine hr_callV X kC3_40 dX3_canFold_9 (c_X3_isHead cA hR hI a v hs hv) (hR.c8 hs) rfl rfl rfl rfl (Nat.le_of_ble_eq_true rfl) ⟨⟨(Nat.le_of_ble_eq_true rfl), (Nat.le_of_ble_eq_true rfl)⟩, (Nat.le_of_ble_eq_true rfl), (Nat.le_of_ble_eq_true rfl)⟩ (fun v M9 hp => ?_)
    obtain ⟨rfl, rfl⟩ := hp
    refine hr_if_ne 36 X dX3_canFold_12 (by decide) (fun c12 => ?_) (fun c12 => ?_)
    · have hz : (!sp_need sg a v) = false := by rw [sp_need, sp_ndA_td, sp_ndH_hd, e1, hm_bI_ne.mp c12]; rfl
      refine hr_iconst (0) X dX3_canFold_36 (by decide) ?_
      exact hr_zret X dX3_canFold_37 (by rfl) (Nat.le_of_ble_eq_true rfl) (Nat.le_of_ble_eq_true rfl) ⟨by rw [hz]; rfl, rfl⟩
    · have e2 := hm_bI_eq.mp c12
      refine hr_aload_n X dX3_canFold_15 rfl (Or.inr ⟨_, rfl⟩) ?_
      refine hr_aload_n X dX3_canFold_16 rfl (Or.inr ⟨_, rfl⟩) ?_
      refine hr_callV X kC3_44 dX3_canFold_17 (c_X3_isTied cA hR hI a v hs hv) (hR.c8 hs) rfl rfl rfl rfl (Nat.le_of_ble_eq_true rfl) ⟨⟨(Nat.le_of_ble_eq_true rfl), (Nat.le_of_ble_eq_true rfl)⟩, (Nat.le_of_ble_eq_true rfl), (Nat.le_of_ble_eq_true rfl)⟩ (fun v M17 hp => ?_)
      obtain ⟨rfl, rfl⟩ := hp
      refine hr_if_ne 36 X dX3_canFold_20 (by decide) (fun c20 => ?_) (fun c20 => ?_)
      · have hz : (!sp_need sg a v) = false := by rw [sp_need, sp_ndA_td, sp_ndH_hd, e1, e2, hm_bI_ne.mp c20]; rfl
        refine hr_iconst (0) X dX3_canFold_36 (by decide) ?_
        exact hr_zret X dX3_canFold_37 (by rfl) (Nat.le_of_ble_eq_true rfl) (Nat.le_of_ble_eq_true rfl) ⟨by rw [hz]; rfl, rfl⟩
      · have e3 := hm_bI_eq.mp c20
        refine hr_aload_n X dX3_canFold_23 rfl (Or.inr ⟨_, rfl⟩) ?_
        refine hr_aload_n X dX3_canFold_24 rfl (Or.inr ⟨_, rfl⟩) ?_
        refine hr_callV X kC3_47 dX3_canFold_25 (c_X3_countChildren cA hR hI a v hs hv) (hR.c8 hs) rfl rfl rfl rfl (Nat.le_of_ble_eq_true rfl) ⟨⟨(Nat.le_of_ble_eq_true rfl), (Nat.le_of_ble_eq_true rfl)⟩, (Nat.le_of_ble_eq_true rfl), (Nat.le_of_ble_eq_true rfl)⟩ (fun v M25 hp => ?_)
        obtain ⟨rfl, rfl⟩ := hp
        refine hr_iconst (1) X dX3_canFold_28 (by decide) ?_
        refine hr_icmp_gt 36 X dX3_canFold_29 (by decide) (fun c29 => ?_) (fun c29 => ?_)
        · have hz : (!sp_need sg a v) = false := by
            have h2 := (nI_ltI (a := 1) (by decide) (by omega)).mp c29
            rw [sp_need, sp_ndA_td, sp_ndH_hd, e1, e2, e3, decide_eq_true (sp_ch_2.mpr (by omega))]; rfl
          refine hr_iconst (0) X dX3_canFold_36 (by decide) ?_
          exact hr_zret X dX3_canFold_37 (by rfl) (Nat.le_of_ble_eq_true rfl) (Nat.le_of_ble_eq_true rfl) ⟨by rw [hz]; rfl, rfl⟩
        · have hz : (!sp_need sg a v) = true := by
            have h2 : ca_cc sg a v 16 ≤ 1 := (nI_leI (by omega) (by decide)).mp (Int32.not_lt.mp c29)
            rw [sp_need, sp_ndA_td, sp_ndH_hd, e1, e2, e3, decide_eq_false (fun z => by have := sp_ch_2.mp z; omega)]; rfl
          refine hr_iconst (1) X dX3_canFold_32 (by decide) ?_
          refine hr_goto 37 X dX3_canFold_33 (by decide) ?_
          exact hr_zret X dX3_canFold_37 (by rfl) (Nat.le_of_ble_eq_true rfl) (Nat.le_of_ble_eq_true rfl) ⟨by rw [hz]; rfl, rfl⟩
set_option maxHeartbeats 4000000 in
set_option maxRecDepth 100000 in
theorem c_X3_remove (cA : Nat → ClassId) {M : hm_M} {bs bv r v : Nat} {v1 v2 v3 v4 : Value} {w1 w2 w3 : Value} {f : Nat → Option Nat} (hS : M bs = some (.inr (3, [.ref r, v1, v2, v3, v4]))) (hV : M bv = some (.inr (4, [.int (nI v), w1, w2, w3]))) (hr : M r = some (cr_rw cA 4 16 f)) (hv : v < 16) : hm_Met cA yX3_remove cX3_remove 2 none r_X3_remove [.ref bs, .ref bv] M (fun v' M' => v' = none ∧ M' = hm_up M r (cr_rw cA 4 16 (va_up f v none))) := by
  refine hm_met 0 (by decide +kernel) (fun w h => by simp only [List.mem_cons, List.not_mem_nil, or_false] at h; rcases h with rfl | rfl <;> rfl) rfl (fun C X => ?_)
  show hm_W C 0 0 _ M 0 [some (.ref bs), some (.ref bv)] []
  refine hr_aload_n X dX3_remove_0 rfl (Or.inr ⟨_, rfl⟩) ?_
  refine hr_get X kF3_37 dX3_remove_1 hV rfl ?_
  refine hr_if_lt 26 X dX3_remove_4 (by decide) (fun c4 => ?_) (fun c4 => ?_)
  · exact absurd c4 (Int32.not_lt.mpr (nI_pos' (by omega)))
  · refine hr_aload_n X dX3_remove_7 rfl (Or.inr ⟨_, rfl⟩) ?_
    refine hr_get X kF3_37 dX3_remove_8 hV rfl ?_
    refine hr_bipush (16) X dX3_remove_11 (by decide) ?_
    refine hr_icmp_ge 26 X dX3_remove_13 (by decide) (fun c13 => ?_) (fun c13 => ?_)
    · exact absurd ((nI_leI (a := 16) (by decide) (by omega)).mp c13) (by omega)
    · refine hr_aload_n X dX3_remove_16 rfl (Or.inr ⟨_, rfl⟩) ?_
      refine hr_get X kF3_11 dX3_remove_17 hS rfl ?_
      refine hr_aload_n X dX3_remove_20 rfl (Or.inr ⟨_, rfl⟩) ?_
      refine hr_get X kF3_37 dX3_remove_21 hV rfl ?_
      refine hr_null X dX3_remove_24 ?_
      refine hr_aastN 4 X rfl dX3_remove_25 hr (mm_in rfl (by omega) (by decide)).1 ?_
      rw [nI_clamp (by omega)]
      exact hr_vret X dX3_remove_26 (Nat.le_of_ble_eq_true rfl) (Nat.le_of_ble_eq_true rfl) ⟨rfl, rfl⟩
set_option maxHeartbeats 4000000 in
set_option maxRecDepth 100000 in
theorem c_X4_inherit (cA : Nat → ClassId) {M : hm_M} {b1 b2 e1 e2 : Nat} {n1 o1 r1 n2 o2 r2 : Value} {f1 f2 : Nat → Option Nat} (h1 : M b1 = some (.inr (4, [n1, o1, r1, .ref e1]))) (h2 : M b2 = some (.inr (4, [n2, o2, r2, .ref e2]))) (g1 : M e1 = some (cr_rw cA 5 5 f1)) (g2 : M e2 = some (cr_rw cA 5 5 f2)) (hne : e2 ≠ e1) (hr2 : r2 = .null ∨ ∃ a, r2 = .ref a) (hx : ∀ t y, t < 5 → f2 t = some y → ∃ vs, M y = some (.inr (1, vs))) : hm_Met cA yX4_inherit cX4_inherit 3 none r_X4_inherit [.ref b1, .ref b2] M (fun v' M' => v' = none ∧ M' = hm_up (hm_up M e1 (cr_rw cA 5 5 (fun t => if t < 5 ∧ f1 t = none then f2 t else f1 t))) b1 (.inr (4, [n1, o1, r2, .ref e1]))) := by
  refine hm_met 1 (by decide +kernel) (fun w h => by simp only [List.mem_cons, List.not_mem_nil, or_false] at h; rcases h with rfl | rfl <;> rfl) rfl (fun C X => ?_)
  show hm_W C 0 0 _ M 0 [some (.ref b1), some (.ref b2), none] []
  have k1 : ∀ g, hm_up M e1 (cr_rw cA 5 5 g) b1 = some (.inr (4, [n1, o1, r1, .ref e1])) := fun g => hm_up_o h1 g1 (by intro q; cases q)
  have k2 : ∀ g, hm_up M e1 (cr_rw cA 5 5 g) b2 = some (.inr (4, [n2, o2, r2, .ref e2])) := fun g => hm_up_o h2 g1 (by intro q; cases q)
  have k3 : ∀ g, hm_up M e1 (cr_rw cA 5 5 g) e2 = some (cr_rw cA 5 5 f2) := fun g => (hm_up_n hne).trans g2
  have k4 : ∀ g t y, t < 5 → f2 t = some y → ∃ vs, hm_up M e1 (cr_rw cA 5 5 g) y = some (.inr (1, vs)) := fun g t y q0 q => by
    obtain ⟨vs, hvs⟩ := hx t y q0 q
    exact ⟨vs, hm_up_o hvs g1 (by intro q; cases q)⟩
  have k0 : hm_up M e1 (cr_rw cA 5 5 (fun t => if t < 0 ∧ f1 t = none then f2 t else f1 t)) = M := by
    rw [show (fun t => if t < 0 ∧ f1 t = none then f2 t else f1 t) = f1 from funext fun t => if_neg (fun q => absurd q.1 (Nat.not_lt_zero t))]
    exact hm_up_id g1
  refine hr_iconst (0) X dX4_inherit_0 (by decide) ?_
  refine hr_istore_n X dX4_inherit_1 (Nat.le_of_ble_eq_true rfl) ?_
  have lp2 : ∀ (f : Nat) (n : Nat), 5 < n + f → n ≤ 5 → hm_W C 0 0 (hm_T C (fun v' M' => v' = none ∧ M' = hm_up (hm_up M e1 (cr_rw cA 5 5 (fun t => if t < 5 ∧ f1 t = none then f2 t else f1 t))) b1 (.inr (4, [n1, o1, r2, .ref e1]))) r_X4_inherit.cells r_X4_inherit.slots) (hm_up M e1 (cr_rw cA 5 5 (fun t => if t < n ∧ f1 t = none then f2 t else f1 t))) 2 [some (.ref b1), some (.ref b2), some (.int (nI n))] [] := by
    intro f
    induction f with
    | zero => intro n m1 m2; exact absurd m1 (by omega)
    | succ f ih =>
      intro n m1 m2
      refine hr_iload_n X dX4_inherit_2 rfl ?_
      refine hr_iconst (5) X dX4_inherit_3 (by decide) ?_
      refine hr_icmp_ge 34 X dX4_inherit_4 (by decide) (fun c4 => ?_) (fun c4 => ?_)
      · have hz : n = 5 := by have := (nI_leI (a := 5) (by decide) (by omega)).mp c4; omega
        subst hz
        refine hr_aload_n X dX4_inherit_34 rfl (Or.inr ⟨_, rfl⟩) ?_
        refine hr_aload_n X dX4_inherit_35 rfl (Or.inr ⟨_, rfl⟩) ?_
        refine hr_get X kF4_24 dX4_inherit_36 (k2 _) rfl ?_
        refine hr_put X kF4_24 dX4_inherit_39 (k1 _) (by rcases hr2 with rfl | ⟨y, rfl⟩ <;> rfl) (by rcases hr2 with rfl | ⟨y, rfl⟩ <;> rfl) (Nat.le_of_ble_eq_true rfl) ?_
        exact hr_vret X dX4_inherit_42 (Nat.le_of_ble_eq_true rfl) (Nat.le_of_ble_eq_true rfl) ⟨rfl, rfl⟩
      · have hn : n < 5 := by
          rcases Nat.lt_or_ge n 5 with q | q
          · exact q
          · exact absurd (nI_le (by omega) (by omega)) c4
        refine hr_aload_n X dX4_inherit_7 rfl (Or.inr ⟨_, rfl⟩) ?_
        refine hr_get X kF4_11 dX4_inherit_8 (k1 _) rfl ?_
        refine hr_iload_n X dX4_inherit_11 rfl ?_
        refine hr_aald 5 X rfl dX4_inherit_12 hm_up_s (mm_in rfl (by omega) (by decide)).1 ?_
        rw [nI_clamp (by omega)]
        have J28 : hm_W C 0 0 (hm_T C (fun v' M' => v' = none ∧ M' = hm_up (hm_up M e1 (cr_rw cA 5 5 (fun t => if t < 5 ∧ f1 t = none then f2 t else f1 t))) b1 (.inr (4, [n1, o1, r2, .ref e1]))) r_X4_inherit.cells r_X4_inherit.slots) (hm_up M e1 (cr_rw cA 5 5 (fun t => if t < n + 1 ∧ f1 t = none then f2 t else f1 t))) 28 [some (.ref b1), some (.ref b2), some (.int (nI n))] [] := by
          refine hr_iinc (1) X dX4_inherit_28 rfl (by decide) ?_
          refine hr_goto 2 X dX4_inherit_31 (by decide) ?_
          rw [nI_1]
          exact ih (n + 1) (by omega) (by omega)
        refine hr_ifnonnull 28 X dX4_inherit_13 (by decide) (fun a13 c13 => ?_) (fun c13 => ?_)
        · have hn1 : ¬ f1 n = none := fun q => by rw [if_neg (fun z => absurd z.1 (Nat.lt_irrefl n)), q] at c13; cases c13
          rw [show (fun t => if t < n + 1 ∧ f1 t = none then f2 t else f1 t) = fun t => if t < n ∧ f1 t = none then f2 t else f1 t from funext fun t => by
            by_cases q : t = n
            · rw [q, if_neg (fun z => hn1 z.2), if_neg (fun z => hn1 z.2)]
            · exact ca_ihr q] at J28
          exact J28
        · have hn1 : f1 n = none := by rw [if_neg (fun z => absurd z.1 (Nat.lt_irrefl n))] at c13; exact c13
          refine hr_aload_n X dX4_inherit_16 rfl (Or.inr ⟨_, rfl⟩) ?_
          refine hr_get X kF4_11 dX4_inherit_17 (k1 _) rfl ?_
          refine hr_iload_n X dX4_inherit_20 rfl ?_
          refine hr_aload_n X dX4_inherit_21 rfl (Or.inr ⟨_, rfl⟩) ?_
          refine hr_get X kF4_11 dX4_inherit_22 (k2 _) rfl ?_
          refine hr_iload_n X dX4_inherit_25 rfl ?_
          refine hr_aald 5 X rfl dX4_inherit_26 (k3 _) (mm_in rfl (by omega) (by decide)).1 ?_
          rw [nI_clamp (by omega)]
          refine hr_aastO 5 1 X rfl rfl dX4_inherit_27 hm_up_s (fun y q => k4 _ _ y hn q) (mm_in rfl (by omega) (by decide)).1 ?_
          rw [nI_clamp (by omega), hm_up_up, show va_up (fun t => if t < n ∧ f1 t = none then f2 t else f1 t) n (f2 n) = fun t => if t < n + 1 ∧ f1 t = none then f2 t else f1 t from funext fun t => by
            unfold va_up
            by_cases q : t = n
            · rw [if_pos q, q, if_pos ⟨Nat.lt_succ_self n, hn1⟩]
            · rw [if_neg q]; exact (ca_ihr q).symm]
          exact J28
  have z := lp2 6 0 (by decide) (by decide)
  rw [k0] at z
  exact z
