/-! new objects: first the surroundings', then the system's own at places told anew -/
theorem cr_R.fresh {cA : Nat → ClassId} {sg ta : mm_S} {ad : Nat → Nat → Nat} {M0 M : hm_M} (h : cr_R cA sg ta ad M0 M) {a : Nat} {e : va_E} (ha : M a = none) : cr_R cA sg ta ad (hm_up M0 a e) (hm_up M a e) := by
  have hne : ∀ q y w, cr_cell cA sg ta ad q y = some w → ad q y ≠ a := fun q y w hw z => by
    have := (h.1 q y w hw).1
    rw [z, ha] at this
    cases this
  refine ⟨fun q y w hw => ?_, h.2.1, fun b w hb => ?_⟩
  · rw [hm_up_n (hne q y w hw), hm_up_n (hne q y w hw)]
    exact h.1 q y w hw
  · by_cases z : b = a
    · rw [z, hm_up_s] at hb ⊢
      exact hb
    · rw [hm_up_n z] at hb ⊢
      exact h.2.2 b w hb
theorem cr_R.frame {cA : Nat → ClassId} {sg ta : mm_S} {ad : Nat → Nat → Nat} {M0 M : hm_M} (h : cr_R cA sg ta ad M0 M) {a : Nat} {e e0 : va_E} (ha : M0 a = some e0) : cr_R cA sg ta ad (hm_up M0 a e) (hm_up M a e) := by
  have hne : ∀ q y w, cr_cell cA sg ta ad q y = some w → ad q y ≠ a := fun q y w hw z => by
    have := (h.1 q y w hw).2
    rw [z, ha] at this
    cases this
  refine ⟨fun q y w hw => ?_, h.2.1, fun b w hb => ?_⟩
  · rw [hm_up_n (hne q y w hw), hm_up_n (hne q y w hw)]
    exact h.1 q y w hw
  · by_cases z : b = a
    · rw [z, hm_up_s] at hb ⊢
      exact hb
    · rw [hm_up_n z] at hb ⊢
      exact h.2.2 b w hb
theorem cr_R.less {cA : Nat → ClassId} {sg ta : mm_S} {ad : Nat → Nat → Nat} {M0 M1 M : hm_M} (h : cr_R cA sg ta ad M0 M) (h1 : ∀ a e, M1 a = some e → M0 a = some e) : cr_R cA sg ta ad M1 M := by
  refine ⟨fun q y w hw => ⟨(h.1 q y w hw).1, ?_⟩, h.2.1, fun a e he => h.2.2 a e (h1 a e he)⟩
  cases q1 : M1 (ad q y) with
  | none => rfl
  | some e =>
    have := h1 _ _ q1
    rw [(h.1 q y w hw).2] at this
    cases this
theorem cr_isV_nat {sg : mm_S} (hI : sp_I sg) {y : Nat} (h : cr_isV sg y = true) : y / 16 < sp_n sg ∧ sp_th sg (y / 16) (y % 16) := by
  unfold cr_isV at h
  rw [Bool.and_eq_true, decide_eq_true_eq, Bool.not_eq_true', decide_eq_false_iff_not] at h
  refine ⟨h.1, by omega, ?_⟩
  rw [show 16 * (y / 16) + y % 16 = y by omega]
  exact h.2
theorem cr_isK_nat {sg : mm_S} (hI : sp_I sg) {k : Nat} (h : cr_isK sg k = true) : k / 12 < sp_n sg ∧ k < 48 ∧ ¬ sg 13 k = 0 := by
  unfold cr_isK at h
  rw [Bool.and_eq_true, decide_eq_true_eq, Bool.not_eq_true', decide_eq_false_iff_not] at h
  have := cr_n4 hI h.1
  exact ⟨h.1, by omega, h.2⟩
section AD
variable {cA : Nat → ClassId} {sg ta : mm_S} {ad ad' : Nat → Nat → Nat}
/-- the same cells, with places told anew where nothing lies -/
theorem cr_ad (hI : sp_I sg) (he : ∀ q y e, cr_cell cA sg ta ad q y = some e → ad' q y = ad q y) {q y : Nat} {e : va_E} (h : cr_cell cA sg ta ad' q y = some e) : ∃ e0, cr_cell cA sg ta ad q y = some e0 ∧ va_sm e0 e := by
  have a13 : ∀ z, cr_isV sg z = true → ad' 13 z = ad 13 z := fun z hz => he 13 z _ (if_pos hz)
  rcases Nat.lt_or_ge 20 q with hq | hq
  · rw [cr_cell_hi hq] at h; cases h
  rcases (show q = 0 ∨ q = 1 ∨ q = 2 ∨ q = 3 ∨ q = 4 ∨ q = 5 ∨ q = 6 ∨ q = 7 ∨ q = 8 ∨ q = 9 ∨ q = 10 ∨ q = 11 ∨ q = 12 ∨ q = 13 ∨ q = 14 ∨ q = 15 ∨ q = 16 ∨ q = 17 ∨ q = 18 ∨ q = 19 ∨ q = 20 by omega) with rfl | rfl | rfl | rfl | rfl | rfl | rfl | rfl | rfl | rfl | rfl | rfl | rfl | rfl | rfl | rfl | rfl | rfl | rfl | rfl | rfl
  · refine va_sm.ob rfl ?_ h
    rw [he 1 0 _ rfl, he 2 0 _ rfl, he 3 0 _ rfl, he 4 0 _ rfl, he 5 0 _ rfl, he 6 0 _ rfl]
    exact va_sm.rf
  · refine va_sm.ob rfl ?_ h
    refine va_sm.r (fun s hs => ?_)
    by_cases z : cr_isS sg s = true
    · rw [if_pos z, if_pos z, he 8 s _ (if_pos z)]
    · rw [if_neg z, if_neg z]
  · exact va_sm.ob rfl va_sm.rf h
  · exact va_sm.ob rfl va_sm.rf h
  · exact va_sm.ob rfl va_sm.rf h
  · exact va_sm.ob rfl (va_sm.r (fun p hp => by rw [he 7 p _ (if_pos (decide_eq_true hp))])) h
  · exact va_sm.ob rfl va_sm.rf h
  · exact va_sm.ob rfl va_sm.rf h
  · have hs : cr_isS sg y = true := by
      by_cases z : cr_isS sg y = true
      · exact z
      · have h2 : cr_ob (cr_isS sg y) _ = some e := h
        unfold cr_ob at h2
        rw [if_neg z] at h2
        cases h2
    refine va_sm.ob rfl ?_ h
    rw [he 9 y _ (if_pos hs), he 10 y _ (if_pos hs), he 11 y _ (if_pos hs), he 12 y _ (if_pos hs)]
    exact va_sm.rf
  · have hs : cr_isS sg y = true := by
      by_cases z : cr_isS sg y = true
      · exact z
      · have h2 : cr_ob (cr_isS sg y) _ = some e := h
        unfold cr_ob at h2
        rw [if_neg z] at h2
        cases h2
    refine va_sm.ob rfl (va_sm.r (fun v hv => ?_)) h
    by_cases z : sg 2 (16 * y + v) = 0
    · rw [if_pos z, if_pos z]
    · rw [if_neg z, if_neg z, a13 _ (cr_isV_th (cr_isS_4 hI hs).1 ⟨hv, z⟩)]
  · have hs : cr_isS sg y = true := by
      by_cases z : cr_isS sg y = true
      · exact z
      · have h2 : cr_ob (cr_isS sg y) _ = some e := h
        unfold cr_ob at h2
        rw [if_neg z] at h2
        cases h2
    refine va_sm.ob rfl (va_sm.r (fun g hg => ?_)) h
    obtain ⟨v, v1, v2, v3⟩ := cr_hd_nat hI (cr_isS_4 hI hs).1 hg
    rw [v3, a13 _ (cr_isV_th (cr_isS_4 hI hs).1 v1)]
  · exact va_sm.ob rfl va_sm.rf h
  · have hs : cr_isS sg y = true := by
      by_cases z : cr_isS sg y = true
      · exact z
      · have h2 : cr_ob (cr_isS sg y) _ = some e := h
        unfold cr_ob at h2
        rw [if_neg z] at h2
        cases h2
    refine va_sm.ob rfl (va_sm.r (fun p hp => ?_)) h
    by_cases z : sg 13 (12 * y + p) = 0
    · rw [if_pos z, if_pos z]
    · rw [if_neg z, if_neg z, he 16 _ _ (if_pos (cr_isK_at (cr_isS_4 hI hs).1 hp z))]
  · have hv : cr_isV sg y = true := by
      by_cases z : cr_isV sg y = true
      · exact z
      · have h2 : cr_ob (cr_isV sg y) _ = some e := h
        unfold cr_ob at h2
        rw [if_neg z] at h2
        cases h2
    refine va_sm.ob rfl ?_ h
    obtain ⟨n1, n2⟩ := cr_isV_nat hI hv
    have hu := (cr_up_no hI n1 n2).2
    rw [show 16 * (y / 16) + y % 16 = y by omega] at hu
    rw [he 14 y _ (if_pos hv), show (cr_up sg y).map (ad' 13) = (cr_up sg y).map (ad 13) from by
      cases w : cr_up sg y with
      | none => rfl
      | some z => exact congrArg some (a13 z (hu z w))]
    exact va_sm.rf
  · have hv : cr_isV sg y = true := by
      by_cases z : cr_isV sg y = true
      · exact z
      · have h2 : cr_ob (cr_isV sg y) _ = some e := h
        unfold cr_ob at h2
        rw [if_neg z] at h2
        cases h2
    refine va_sm.ob rfl (va_sm.r (fun t ht => ?_)) h
    by_cases z : sg 6 (5 * y + t) = 4
    · rw [if_pos z, if_pos z]
    · rw [if_neg z, if_neg z, he 15 _ _ (if_pos (cr_isE_V hv ht z))]
  · exact va_sm.ob rfl va_sm.rf h
  · have hk : cr_isK sg y = true := by
      by_cases z : cr_isK sg y = true
      · exact z
      · have h2 : cr_ob (cr_isK sg y) _ = some e := h
        unfold cr_ob at h2
        rw [if_neg z] at h2
        cases h2
    refine va_sm.ob rfl ?_ h
    obtain ⟨n1, n2, n3⟩ := cr_isK_nat hI hk
    obtain ⟨-, v, hv, hvt⟩ := sp_handed hI n2 n3
    have hv16 := hvt.1
    rw [he 17 y _ (if_pos hk), he 18 y _ (if_pos hk), hv, show nN (nI v) = v from nI_clamp (by omega), a13 _ (cr_isV_th n1 hvt)]
    exact va_sm.rf
  · have hk : cr_isK sg y = true := by
      by_cases z : cr_isK sg y = true
      · exact z
      · have h2 : cr_ob (cr_isK sg y) _ = some e := h
        unfold cr_ob at h2
        rw [if_neg z] at h2
        cases h2
    refine va_sm.ob rfl (va_sm.r (fun t ht => ?_)) h
    rw [he 19 (5 * y + t) _ (if_pos (by rw [show (5 * y + t) / 5 = y by omega]; exact hk))]
  · exact va_sm.ob rfl va_sm.rf h
  · have hk : cr_isK sg (y / 5) = true := by
      by_cases z : cr_isK sg (y / 5) = true
      · exact z
      · have h2 : cr_ob (cr_isK sg (y / 5)) _ = some e := h
        unfold cr_ob at h2
        rw [if_neg z] at h2
        cases h2
    refine va_sm.ob rfl ?_ h
    rw [he 20 y _ (if_pos hk)]
    exact va_sm.rf
  · exact va_sm.ob rfl va_sm.rf h
variable {C : hm_C} {k n : Nat} {Q : State → Prop} {M M0 : hm_M} {pc : Nat} {L : List (Option Value)} {st : List Value}
theorem hr_ad (ad' : Nat → Nat → Nat) (hI : sp_I sg) (h : cr_R cA sg ta ad M0 M) (he : ∀ q y e, cr_cell cA sg ta ad q y = some e → ad' q y = ad q y) (kk : ∀ M2 : hm_M, cr_R cA sg ta ad' M0 M2 → hm_W C k n Q M2 pc L st) : hm_W C k n Q M pc L st := by
  have hp : ∀ q y e, cr_cell cA sg ta ad' q y = some e → ∃ e0, cr_cell cA sg ta ad q y = some e0 ∧ va_sm e0 e ∧ ad' q y = ad q y := fun q y e hy => by
    obtain ⟨e0, h1, h2⟩ := cr_ad hI he hy
    exact ⟨e0, h1, h2, he q y e0 h1⟩
  refine hr_re (fun q y e hy => ?_) (fun q y q' y' e e' hy hy' ha => ?_) h.2.2 kk
  · obtain ⟨e0, h1, h2, h3⟩ := hp q y e hy
    rw [h3]
    exact ⟨e0, (h.1 q y e0 h1).1, h2, (h.1 q y e0 h1).2⟩
  · obtain ⟨e1, h1, -, h3⟩ := hp q y e hy
    obtain ⟨e2, g1, -, g3⟩ := hp q' y' e' hy'
    rw [h3, g3] at ha
    exact h.2.1 _ _ _ _ _ _ h1 g1 ha
/-- some cells overwritten, some made the system's that were the surroundings' -/
theorem hr_re2 {F Mb M' : hm_M} {sg' ta' : mm_S} (h : cr_R cA sg ta ad F M) (hF : ∀ a e, Mb a = some e → F a = some e) (hM : ∀ a e, F a = some e → M' a = some e) (N : Nat → Nat → Prop)
    (ho : ∀ q y e, cr_cell cA sg' ta' ad q y = some e → ¬ N q y → ∃ e2 e0, cr_cell cA sg ta ad q y = some e2 ∧ M' (ad q y) = some e0 ∧ va_sm e0 e)
    (hn : ∀ q y, N q y → Mb (ad q y) = none ∧ ∃ e0, F (ad q y) = some e0 ∧ ∀ e, cr_cell cA sg' ta' ad q y = some e → va_sm e0 e)
    (hi : ∀ q y q' y', N q y → N q' y' → ad q y = ad q' y' → q = q' ∧ y = y')
    (kk : ∀ M2 : hm_M, cr_R cA sg' ta' ad Mb M2 → hm_W C k n Q M2 pc L st) : hm_W C k n Q M' pc L st := by
  have hb : ∀ q y e2, cr_cell cA sg ta ad q y = some e2 → Mb (ad q y) = none := fun q y e2 h2 => by
    cases q1 : Mb (ad q y) with
    | none => rfl
    | some e =>
      have := hF _ _ q1
      rw [(h.1 q y e2 h2).2] at this
      cases this
  refine hr_re (fun q y e hy => ?_) (fun q y q' y' e e' hy hy' ha => ?_) (fun a e he => hM a e (hF a e he)) kk
  · by_cases z : N q y
    · obtain ⟨n1, e0, n2, n3⟩ := hn q y z
      exact ⟨e0, hM _ _ n2, n3 e hy, n1⟩
    · obtain ⟨e2, e0, h1, h2, h3⟩ := ho q y e hy z
      exact ⟨e0, h2, h3, hb q y e2 h1⟩
  · by_cases z : N q y <;> by_cases z' : N q' y'
    · exact hi _ _ _ _ z z' ha
    · obtain ⟨-, e0, n2, -⟩ := hn q y z
      obtain ⟨e2, -, h1, -⟩ := ho q' y' e' hy' z'
      rw [ha, (h.1 q' y' e2 h1).2] at n2
      cases n2
    · obtain ⟨-, e0, n2, -⟩ := hn q' y' z'
      obtain ⟨e2, -, h1, -⟩ := ho q y e hy z
      rw [← ha, (h.1 q y e2 h1).2] at n2
      cases n2
    · obtain ⟨e2, -, h1, -⟩ := ho q y e hy z
      obtain ⟨e3, -, h2, -⟩ := ho q' y' e' hy' z'
      exact h.2.1 _ _ _ _ _ _ h1 h2 ha
end AD
set_option maxHeartbeats 4000000 in
set_option maxRecDepth 100000 in
theorem c_X1_init (cA : Nat → ClassId) {M : hm_M} {b : Nat} (hb : M b = some (.inr (1, [.int 0, .int 0, .int 0, .int 0]))) (kd pt rl sl : Int32) : hm_Met cA yX1_init cX1_init 5 none r_X1_init [.ref b, .int kd, .int pt, .int rl, .int sl] M (fun v' M' => v' = none ∧ M' = hm_up M b (.inr (1, [.int kd, .int pt, .int rl, .int sl]))) := by
  refine hm_met 0 (by decide +kernel) (fun w h => by simp only [List.mem_cons, List.not_mem_nil, or_false] at h; rcases h with rfl | rfl | rfl | rfl | rfl <;> rfl) rfl (fun C X => ?_)
  show hm_W C 0 0 _ M 0 [some (.ref b), some (.int kd), some (.int pt), some (.int rl), some (.int sl)] []
  refine hr_aload_n X dX1_init_0 rfl (Or.inr ⟨_, rfl⟩) ?_
  refine hr_objInit X dX1_init_1 kO1_3 kO_i kO_c rfl ⟨(Nat.le_of_ble_eq_true rfl), (Nat.le_of_ble_eq_true rfl)⟩ ?_
  refine hr_aload_n X dX1_init_4 rfl (Or.inr ⟨_, rfl⟩) ?_
  refine hr_iload_n X dX1_init_5 rfl ?_
  refine hr_putF (ini := true) X kF1_9 dX1_init_6 hb rfl rfl (Nat.le_of_ble_eq_true rfl) rfl ?_
  refine hr_aload_n X dX1_init_9 rfl (Or.inr ⟨_, rfl⟩) ?_
  refine hr_iload_n X dX1_init_10 rfl ?_
  refine hr_putF (ini := true) X kF1_15 dX1_init_11 hm_up_s rfl rfl (Nat.le_of_ble_eq_true rfl) rfl ?_
  refine hr_aload_n X dX1_init_14 rfl (Or.inr ⟨_, rfl⟩) ?_
  refine hr_iload_n X dX1_init_15 rfl ?_
  refine hr_put X kF1_18 dX1_init_16 hm_up_s rfl rfl (Nat.le_of_ble_eq_true rfl) ?_
  refine hr_aload_n X dX1_init_19 rfl (Or.inr ⟨_, rfl⟩) ?_
  refine hr_iload X dX1_init_20 rfl ?_
  refine hr_put X kF1_21 dX1_init_22 hm_up_s rfl rfl (Nat.le_of_ble_eq_true rfl) ?_
  exact hr_vret X dX1_init_25 (Nat.le_of_ble_eq_true rfl) (Nat.le_of_ble_eq_true rfl) ⟨rfl, by rw [hm_up_up, hm_up_up, hm_up_up]; rfl⟩
set_option maxHeartbeats 4000000 in
set_option maxRecDepth 100000 in
theorem c_X4_init (cA : Nat → ClassId) {M : hm_M} {b : Nat} (hb : M b = some (.inr (4, [.int 0, .int 0, .null, .null]))) (num own : Int32) (o : Option Nat) : hm_Met cA yX4_init cX4_init 4 none r_X4_init [.ref b, .int num, .int own, va_rf o] M (fun v' M' => v' = none ∧ ∃ q, M q = none ∧ M' = hm_up (hm_up M q (cr_rw cA 5 5 (fun _ => none))) b (.inr (4, [.int num, .int own, va_rf o, .ref q]))) := by
  refine hm_met 0 (by decide +kernel) (fun w h => by simp only [List.mem_cons, List.not_mem_nil, or_false] at h; rcases h with rfl | rfl | rfl | rfl <;> first | rfl | exact hm_rfc _) rfl (fun C X => ?_)
  show hm_W C 0 0 _ M 0 [some (.ref b), some (.int num), some (.int own), some (va_rf o)] []
  refine hr_aload_n X dX4_init_0 rfl (Or.inr ⟨_, rfl⟩) ?_
  refine hr_objInit X dX4_init_1 kO4_3 kO_i kO_c rfl ⟨(Nat.le_of_ble_eq_true rfl), (Nat.le_of_ble_eq_true rfl)⟩ ?_
  refine hr_aload_n X dX4_init_4 rfl (Or.inr ⟨_, rfl⟩) ?_
  refine hr_iconst (5) X dX4_init_5 (by decide) ?_
  refine hr_anew 5 5 RX1 X dX4_init_6 rfl kR4_9 (by decide +kernel) (by decide) (by decide) (by decide) ⟨(Nat.le_of_ble_eq_true rfl), (Nat.le_of_ble_eq_true rfl)⟩ (fun q hq => ?_)
  have hbq : b ≠ q := fun z => by rw [← z, hb] at hq; cases hq
  refine hr_putF (ini := true) X kF4_11 dX4_init_9 ((hm_up_n hbq).trans hb) rfl rfl (Nat.le_of_ble_eq_true rfl) rfl ?_
  refine hr_aload_n X dX4_init_12 rfl (Or.inr ⟨_, rfl⟩) ?_
  refine hr_iload_n X dX4_init_13 rfl ?_
  refine hr_putF (ini := true) X kF4_17 dX4_init_14 hm_up_s rfl rfl (Nat.le_of_ble_eq_true rfl) rfl ?_
  refine hr_aload_n X dX4_init_17 rfl (Or.inr ⟨_, rfl⟩) ?_
  refine hr_iload_n X dX4_init_18 rfl ?_
  refine hr_putF (ini := true) X kF4_21 dX4_init_19 hm_up_s rfl rfl (Nat.le_of_ble_eq_true rfl) rfl ?_
  refine hr_aload_n X dX4_init_22 rfl (Or.inr ⟨_, rfl⟩) ?_
  refine hr_aload_n X dX4_init_23 rfl (hm_rf _) ?_
  refine hr_put X kF4_24 dX4_init_24 hm_up_s (by cases o <;> rfl) (by cases o <;> rfl) (Nat.le_of_ble_eq_true rfl) ?_
  exact hr_vret X dX4_init_27 (Nat.le_of_ble_eq_true rfl) (Nat.le_of_ble_eq_true rfl) ⟨rfl, q, hq, by rw [hm_up_up, hm_up_up, hm_up_up]; rfl⟩
