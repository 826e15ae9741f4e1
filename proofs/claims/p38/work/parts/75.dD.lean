/-! what an answer's numbers rest on; a new answer -/
/-- all that the answer k rests on is the same, but its own state and mark -/
def sp_loc (sg sg' : mm_S) (k : Nat) : Prop := sg' 3 = sg 3 ∧ sg' 6 = sg 6 ∧ sg' 7 = sg 7 ∧ sg' 8 = sg 8 ∧ sg' 9 = sg 9 ∧ sg' 14 k = sg 14 k ∧ ∀ t, t < 5 → sg' 17 (5 * k + t) = sg 17 (5 * k + t) ∧ sg' 18 (5 * k + t) = sg 18 (5 * k + t) ∧ sg' 19 (5 * k + t) = sg 19 (5 * k + t) ∧ sg' 20 (5 * k + t) = sg 20 (5 * k + t) ∧ ∀ i, i < 12 → sg' 21 (12 * (5 * k + t) + i) = sg 21 (12 * (5 * k + t) + i)
theorem sp_due_loc {sg sg' : mm_S} (hI : sp_I sg) {k : Nat} (hk : k < 48) (h : sp_loc sg sg' k) : sp_due sg' k = sp_due sg k := by
  obtain ⟨h3, h6, h7, h8, h9, h14, hT⟩ := h
  refine sp_is_congr 5 (fun t ht => ?_)
  unfold sp_dueT
  rw [h14, sp_has_congr h3 h6]
  cases sp_has sg (k / 12) (nN (sg 14 k)) t with
  | none => rfl
  | some u =>
    dsimp only
    obtain ⟨h17, h18, h19, h20, h21⟩ := hT t ht
    obtain ⟨-, -, ⟨wc, hwc, hw⟩, -⟩ := hI.i12 (5 * k + t) (by omega)
    unfold sp_gain sp_com
    rw [h6, h7, h8, h9, h17, h18, h19, h20]
    rw [sp_D_congr (w := fun i => sg' 21 (12 * (5 * k + t) + i)) (w' := fun i => sg 21 (12 * (5 * k + t) + i)) (nN (sg 20 (5 * k + t))) (fun q hq => h21 q (by rw [hw, show nN (nI wc) = wc from nI_clamp (by omega)] at hq; omega))]
theorem sp_layI_loc {sg sg' : mm_S} {rule : Int32} {j : Nat} {l : List Int32} (h : ∀ i, i < 12 → sg' 21 (12 * j + i) = sg 21 (12 * j + i)) : ∀ i, i ≤ 10 → sp_layI sg' rule j l i = sp_layI sg rule j l i
  | 0, _ => rfl
  | i + 1, hi => by
    have e : sp_pt sg' j i = sp_pt sg j i := by
      unfold sp_pt
      rw [h i (by omega), show 12 * j + i + 1 = 12 * j + (i + 1) by omega, show 12 * j + i + 2 = 12 * j + (i + 2) by omega, h (i + 1) (by omega), h (i + 2) (by omega)]
    unfold sp_layI
    rw [sp_layI_loc h i (by omega), e]
theorem sp_layL_loc {sg sg' : mm_S} (hI : sp_I sg) {k : Nat} (hk : k < 48) (h : sp_loc sg sg' k) : ∀ t, t ≤ 5 → sp_layL sg' k t = sp_layL sg k t
  | 0, _ => rfl
  | t + 1, ht => by
    have ih := sp_layL_loc hI hk h t (by omega)
    obtain ⟨h3, h6, h7, h8, h9, h14, hT⟩ := h
    show sp_layT sg' k t (sp_layL sg' k t) = sp_layT sg k t (sp_layL sg k t)
    rw [ih]
    unfold sp_layT
    rw [h14, sp_has_congr h3 h6]
    cases sp_has sg (k / 12) (nN (sg 14 k)) t with
    | none => rfl
    | some u =>
      dsimp only
      obtain ⟨h17, h18, h19, h20, h21⟩ := hT t (by omega)
      obtain ⟨-, -, ⟨wc, hwc, hw⟩, -⟩ := hI.i12 (5 * k + t) (by omega)
      rw [h6, h8, h20, sp_layI_loc h21 _ (by rw [hw, show nN (nI wc) = wc from nI_clamp (by omega)]; omega)]
theorem sp_prs_loc {sg sg' : mm_S} (hI : sp_I sg) {k : Nat} (hk : k < 48) (h : sp_loc sg sg' k) (h13 : sg' 13 k = sg 13 k) (h15 : sg' 15 k = sg 15 k) : sp_prs sg' k = sp_prs sg k := by
  unfold sp_prs
  rw [h13, h15, sp_layL_loc hI hk h 5 (Nat.le_refl _)]
/-- all that is new belongs to the surroundings -/
def cr_gr (M M4 M0 : hm_M) : hm_M := fun a => match M a with | none => M4 a | some _ => M0 a
theorem cr_gr_n {M M4 M0 : hm_M} {a : Nat} (h : M a = none) : cr_gr M M4 M0 a = M4 a := by unfold cr_gr; rw [h]
theorem cr_gr_s {M M4 M0 : hm_M} {a : Nat} {e : va_E} (h : M a = some e) : cr_gr M M4 M0 a = M0 a := by unfold cr_gr; rw [h]
theorem cr_R.grow {cA : Nat → ClassId} {sg ta : mm_S} {ad : Nat → Nat → Nat} {M0 M M4 : hm_M} (h : cr_R cA sg ta ad M0 M) (hM : ∀ a e, M a = some e → M4 a = some e) : cr_R cA sg ta ad (cr_gr M M4 M0) M4 := by
  refine ⟨fun q y e he => ?_, h.2.1, fun a e he => ?_⟩
  · obtain ⟨h1, h2⟩ := h.1 q y e he
    exact ⟨hM _ _ h1, (cr_gr_s h1).trans h2⟩
  · cases z : M a with
    | none => rw [cr_gr_n z] at he; exact he
    | some w =>
      rw [cr_gr_s z] at he
      exact hM a e (h.2.2 a e he)
theorem cr_iw_rw {cA : Nat → ClassId} {t t' N N' : Nat} {f : Nat → Int32} {g : Nat → Option Nat} : cr_iw cA t N f ≠ cr_rw cA t' N' g := fun y => by
  have h := congrArg (fun e : va_E => match e with | .inl (_, _, .inl _) => true | _ => false) y
  exact absurd (show true = false from h) (by decide)
def ca_said (w : Nat) : va_E := .inr (2, [.int 0, .int 0, .int 0, .ref w, .int 0])
/-- an answer as it is made, its first n parts laid -/
def ca_N (cA : Nat → ClassId) (M : hm_M) (b v qp qr n : Nat) (sa wa : Nat → Nat) (Mn : hm_M) : Prop :=
  Mn b = some (.inr (0, [.ref v, .ref qp, .int 0, .int (-1), .int (-1), .int 0, .ref qr, .int 0])) ∧
  Mn qp = some (cr_rw cA 7 5 (fun t => if t < n then some (sa t) else none)) ∧ Mn qr = some (cr_iw cA 0 50 (fun _ => 0)) ∧ M qp = none ∧ M qr = none ∧
  (∀ t, t < n → Mn (sa t) = some (ca_said (wa t)) ∧ Mn (wa t) = some (cr_iw cA 0 12 (fun _ => 0)) ∧ M (sa t) = none ∧ M (wa t) = none) ∧
  (∀ t t', t < n → t' < n → (sa t = sa t' → t = t') ∧ (wa t = wa t' → t = t')) ∧
  ∀ a e, M a = some e → a ≠ b → Mn a = some e
theorem ca_N.step {cA : Nat → ClassId} {M : hm_M} {b v qp qr n : Nat} {sa wa : Nat → Nat} {Mn : hm_M} (h : ca_N cA M b v qp qr n sa wa Mn) {eb : va_E} (hb : M b = some eb) {q w : Nat} {e0 : va_E} (hq : Mn q = none) (hw : hm_up Mn q e0 w = none) :
    ca_N cA M b v qp qr (n + 1) (fun t => if t = n then q else sa t) (fun t => if t = n then w else wa t) (hm_up (hm_up (hm_up (hm_up Mn q e0) w (cr_iw cA 0 12 (fun _ => 0))) q (ca_said w)) qp (cr_rw cA 7 5 (va_up (fun t => if t < n then some (sa t) else none) n (some q)))) := by
  obtain ⟨h1, h2, h3, h4, h5, h6, h7, h8⟩ := h
  have hqw : q ≠ w := fun z => by rw [← z, hm_up_s] at hw; cases hw
  have hw2 : Mn w = none := (hm_up_n hqw.symm).symm.trans hw
  have ne : ∀ z e, Mn z = some e → z ≠ q ∧ z ≠ w := fun z e hz => ⟨fun y => (by rw [y, hq] at hz; cases hz), fun y => (by rw [y, hw2] at hz; cases hz)⟩
  have keep : ∀ z e, Mn z = some e → z ≠ qp → hm_up (hm_up (hm_up (hm_up Mn q e0) w (cr_iw cA 0 12 (fun _ => 0))) q (ca_said w)) qp (cr_rw cA 7 5 (va_up (fun t => if t < n then some (sa t) else none) n (some q))) z = some e := fun z e hz hzp => by
    obtain ⟨z1, z2⟩ := ne z e hz
    rw [hm_up_n hzp, hm_up_n z1, hm_up_n z2, hm_up_n z1, hz]
  have np : ∀ z e, Mn z = some e → e ≠ cr_rw cA 7 5 (fun t => if t < n then some (sa t) else none) → z ≠ qp := fun z e hz he y => by
    rw [y, h2] at hz
    exact he (Option.some.inj hz).symm
  have hqp : q ≠ qp := fun y => by rw [y, h2] at hq; cases hq
  have hwp : w ≠ qp := fun y => by rw [y, h2] at hw2; cases hw2
  have Mq : M q = none := by
    cases z : M q with
    | none => rfl
    | some e =>
      by_cases y : q = b
      · rw [y, h1] at hq; cases hq
      · have := h8 q e z y; rw [hq] at this; cases this
  have Mw : M w = none := by
    cases z : M w with
    | none => rfl
    | some e =>
      by_cases y : w = b
      · rw [y, h1] at hw2; cases hw2
      · have := h8 w e z y; rw [hw2] at this; cases this
  refine ⟨keep _ _ h1 (np _ _ h1 (fun y => by cases y)), ?_, keep _ _ h3 (np _ _ h3 cr_iw_rw), h4, h5, fun t ht => ?_, fun t t' ht ht' => ?_, fun a e ha hab => ?_⟩
  · rw [hm_up_s]
    rw [show va_up (fun t => if t < n then some (sa t) else none) n (some q) = fun t => if t < n + 1 then some (if t = n then q else sa t) else none from funext fun t => by
      unfold va_up
      by_cases y : t = n
      · rw [if_pos y, if_pos (by omega), if_pos y]
      · rw [if_neg y, if_neg y]
        show (if t < n then some (sa t) else none) = _
        by_cases x : t < n
        · rw [if_pos x, if_pos (by omega)]
        · rw [if_neg x, if_neg (by omega)]]
  · dsimp only
    by_cases y : t = n
    · rw [if_pos y, if_pos y]
      exact ⟨by rw [hm_up_n hqp, hm_up_s], by rw [hm_up_n hwp, hm_up_n hqw.symm, hm_up_s], Mq, Mw⟩
    · rw [if_neg y, if_neg y]
      obtain ⟨a1, a2, a3, a4⟩ := h6 t (by omega)
      exact ⟨keep _ _ a1 (np _ _ a1 (fun y => by unfold ca_said cr_rw at y; cases y)), keep _ _ a2 (np _ _ a2 cr_iw_rw), a3, a4⟩
  · dsimp only
    by_cases y : t = n <;> by_cases y' : t' = n
    · exact ⟨fun _ => by omega, fun _ => by omega⟩
    · obtain ⟨a1, a2, -⟩ := h6 t' (by omega)
      rw [if_pos y, if_pos y, if_neg y', if_neg y']
      exact ⟨fun z => absurd z.symm (ne _ _ a1).1, fun z => absurd z.symm (ne _ _ a2).2⟩
    · obtain ⟨a1, a2, -⟩ := h6 t (by omega)
      rw [if_neg y, if_neg y, if_pos y', if_pos y']
      exact ⟨fun z => absurd z (ne _ _ a1).1, fun z => absurd z (ne _ _ a2).2⟩
    · rw [if_neg y, if_neg y, if_neg y', if_neg y']
      exact h7 t t' (by omega) (by omega)
  · have := h8 a e ha hab
    exact keep _ _ this (fun y => by rw [y, h4] at ha; cases ha)
set_option maxHeartbeats 4000000 in
set_option maxRecDepth 100000 in
theorem c_X2_init (cA : Nat → ClassId) {M : hm_M} {b : Nat} (hb : M b = some (.inr (2, [.int 0, .int 0, .int 0, .null, .int 0]))) : hm_Met cA yX2_init cX2_init 1 none r_X2_init [.ref b] M (fun v' M' => v' = none ∧ ∃ q, M q = none ∧ M' = hm_up (hm_up M q (cr_iw cA 0 12 (fun _ => 0))) b (ca_said q)) := by
  refine hm_met 0 (by decide +kernel) (fun w h => by simp only [List.mem_cons, List.not_mem_nil, or_false] at h; rcases h with rfl <;> rfl) rfl (fun C X => ?_)
  show hm_W C 0 0 _ M 0 [some (.ref b)] []
  refine hr_aload_n X dX2_init_0 rfl (Or.inr ⟨_, rfl⟩) ?_
  refine hr_objInit X dX2_init_1 kO2_3 kO_i kO_c rfl ⟨(Nat.le_of_ble_eq_true rfl), (Nat.le_of_ble_eq_true rfl)⟩ ?_
  refine hr_aload_n X dX2_init_4 rfl (Or.inr ⟨_, rfl⟩) ?_
  refine hr_iconst (0) X dX2_init_5 (by decide) ?_
  refine hr_put X kF2_9 dX2_init_6 hb rfl rfl (Nat.le_of_ble_eq_true rfl) ?_
  refine hr_aload_n X dX2_init_9 rfl (Or.inr ⟨_, rfl⟩) ?_
  refine hr_iconst (0) X dX2_init_10 (by decide) ?_
  refine hr_put X kF2_15 dX2_init_11 hm_up_s rfl rfl (Nat.le_of_ble_eq_true rfl) ?_
  refine hr_aload_n X dX2_init_14 rfl (Or.inr ⟨_, rfl⟩) ?_
  refine hr_iconst (0) X dX2_init_15 (by decide) ?_
  refine hr_put X kF2_19 dX2_init_16 hm_up_s rfl rfl (Nat.le_of_ble_eq_true rfl) ?_
  refine hr_aload_n X dX2_init_19 rfl (Or.inr ⟨_, rfl⟩) ?_
  refine hr_bipush (12) X dX2_init_20 (by decide) ?_
  refine hr_newa 0 .int 12 (12, .inl (fun _ => 0)) X dX2_init_22 rfl kA_int (fun _ => rfl) (by decide) (by decide) (by decide) ⟨(Nat.le_of_ble_eq_true rfl), (Nat.le_of_ble_eq_true rfl)⟩ hm_nuI (fun q22 hq22 => ?_)
  have hbq : b ≠ q22 := fun z => by rw [← z, hm_up_s] at hq22; cases hq22
  refine hr_putF (ini := true) X kF2_22 dX2_init_24 ((hm_up_n hbq).trans hm_up_s) rfl rfl (Nat.le_of_ble_eq_true rfl) rfl ?_
  refine hr_aload_n X dX2_init_27 rfl (Or.inr ⟨_, rfl⟩) ?_
  refine hr_iconst (0) X dX2_init_28 (by decide) ?_
  refine hr_put X kF2_26 dX2_init_29 hm_up_s rfl rfl (Nat.le_of_ble_eq_true rfl) ?_
  refine hr_vret X dX2_init_32 (Nat.le_of_ble_eq_true rfl) (Nat.le_of_ble_eq_true rfl) ⟨rfl, q22, ?_, ?_⟩
  · rw [hm_up_n hbq.symm, hm_up_n hbq.symm, hm_up_n hbq.symm] at hq22
    exact hq22
  · funext z
    unfold hm_up
    by_cases y : z = b
    · simp only [if_pos y]
      rfl
    · simp only [if_neg y]
      rfl
set_option maxHeartbeats 4000000 in
set_option maxRecDepth 100000 in
theorem c_X0_init (cA : Nat → ClassId) {M : hm_M} {b v : Nat} (hb : M b = some (.inr (0, [.null, .null, .int 0, .int 0, .int 0, .int 0, .null, .int 0]))) : hm_Met cA yX0_init cX0_init 3 none r_X0_init [.ref b, .ref v] M (fun v' M' => v' = none ∧ ∃ (qp qr : Nat) (sa wa : Nat → Nat), ca_N cA M b v qp qr 5 sa wa M') := by
  refine hm_met 1 (by decide +kernel) (fun w h => by simp only [List.mem_cons, List.not_mem_nil, or_false] at h; rcases h with rfl | rfl <;> rfl) rfl (fun C X => ?_)
  show hm_W C 0 0 _ M 0 [some (.ref b), some (.ref v), none] []
  refine hr_aload_n X dX0_init_0 rfl (Or.inr ⟨_, rfl⟩) ?_
  refine hr_objInit X dX0_init_1 kO0_3 kO_i kO_c rfl ⟨(Nat.le_of_ble_eq_true rfl), (Nat.le_of_ble_eq_true rfl)⟩ ?_
  refine hr_aload_n X dX0_init_4 rfl (Or.inr ⟨_, rfl⟩) ?_
  refine hr_iconst (5) X dX0_init_5 (by decide) ?_
  refine hr_anew 7 5 RX2 X dX0_init_6 rfl kR0_9 (by decide +kernel) (by decide) (by decide) (by decide) ⟨(Nat.le_of_ble_eq_true rfl), (Nat.le_of_ble_eq_true rfl)⟩ (fun qp hqp => ?_)
  have hbp : b ≠ qp := fun z => by rw [← z, hb] at hqp; cases hqp
  refine hr_putF (ini := true) X kF0_11 dX0_init_9 ((hm_up_n hbp).trans hb) rfl rfl (Nat.le_of_ble_eq_true rfl) rfl ?_
  refine hr_aload_n X dX0_init_12 rfl (Or.inr ⟨_, rfl⟩) ?_
  refine hr_iconst (0) X dX0_init_13 (by decide) ?_
  refine hr_put X kF0_17 dX0_init_14 hm_up_s rfl rfl (Nat.le_of_ble_eq_true rfl) ?_
  refine hr_aload_n X dX0_init_17 rfl (Or.inr ⟨_, rfl⟩) ?_
  refine hr_iconst (-1) X dX0_init_18 (by decide) ?_
  refine hr_put X kF0_21 dX0_init_19 hm_up_s rfl rfl (Nat.le_of_ble_eq_true rfl) ?_
  refine hr_aload_n X dX0_init_22 rfl (Or.inr ⟨_, rfl⟩) ?_
  refine hr_iconst (-1) X dX0_init_23 (by decide) ?_
  refine hr_put X kF0_25 dX0_init_24 hm_up_s rfl rfl (Nat.le_of_ble_eq_true rfl) ?_
  refine hr_aload_n X dX0_init_27 rfl (Or.inr ⟨_, rfl⟩) ?_
  refine hr_iconst (0) X dX0_init_28 (by decide) ?_
  refine hr_put X kF0_28 dX0_init_29 hm_up_s rfl rfl (Nat.le_of_ble_eq_true rfl) ?_
  refine hr_aload_n X dX0_init_32 rfl (Or.inr ⟨_, rfl⟩) ?_
  refine hr_bipush (50) X dX0_init_33 (by decide) ?_
  refine hr_newa 0 .int 50 (50, .inl (fun _ => 0)) X dX0_init_35 rfl kA_int (fun _ => rfl) (by decide) (by decide) (by decide) ⟨(Nat.le_of_ble_eq_true rfl), (Nat.le_of_ble_eq_true rfl)⟩ hm_nuI (fun q35 hq35 => ?_)
  have hbr : b ≠ q35 := fun z => by rw [← z, hm_up_s] at hq35; cases hq35
  have hpr : qp ≠ q35 := fun z => by rw [← z, hm_up_n hbp.symm, hm_up_n hbp.symm, hm_up_n hbp.symm, hm_up_n hbp.symm, hm_up_n hbp.symm, hm_up_s] at hq35; cases hq35
  have hMr : M q35 = none := by
    rw [hm_up_n hbr.symm, hm_up_n hbr.symm, hm_up_n hbr.symm, hm_up_n hbr.symm, hm_up_n hbr.symm, hm_up_n hpr.symm] at hq35
    exact hq35
  refine hr_putF (ini := true) X kF0_31 dX0_init_37 ((hm_up_n hbr).trans hm_up_s) rfl rfl (Nat.le_of_ble_eq_true rfl) rfl ?_
  refine hr_aload_n X dX0_init_40 rfl (Or.inr ⟨_, rfl⟩) ?_
  refine hr_iconst (0) X dX0_init_41 (by decide) ?_
  refine hr_put X kF0_35 dX0_init_42 hm_up_s rfl rfl (Nat.le_of_ble_eq_true rfl) ?_
  refine hr_aload_n X dX0_init_45 rfl (Or.inr ⟨_, rfl⟩) ?_
  refine hr_aload_n X dX0_init_46 rfl (Or.inr ⟨_, rfl⟩) ?_
  refine hr_putF (ini := true) X kF0_38 dX0_init_47 hm_up_s rfl rfl (Nat.le_of_ble_eq_true rfl) rfl ?_
  refine hr_widen (k2 := 2) (n2 := 55) (Nat.le_of_ble_eq_true rfl) (Nat.le_of_ble_eq_true rfl) ?_
  have hN0 : ca_N cA M b v qp q35 0 (fun _ => 0) (fun _ => 0) (hm_up (hm_up (hm_up M qp (cr_rw cA 7 5 (fun _ => none))) q35 (cr_iw cA 0 50 (fun _ => 0))) b (.inr (0, [.ref v, .ref qp, .int 0, .int (-1), .int (-1), .int 0, .ref q35, .int 0]))) := ⟨hm_up_s, by rw [hm_up_n hbp.symm, hm_up_n hpr, hm_up_s]; rfl, by rw [hm_up_n hbr.symm, hm_up_s], hqp, hMr, fun t ht => absurd ht (Nat.not_lt_zero t), fun t _ ht => absurd ht (Nat.not_lt_zero t), fun a e ha hab => by
    rw [hm_up_n hab, hm_up_n (fun z => by rw [z, hMr] at ha; cases ha), hm_up_n (fun z => by rw [z, hqp] at ha; cases ha)]
    exact ha⟩
  refine hr_less (M2 := hm_up (hm_up (hm_up M qp (cr_rw cA 7 5 (fun _ => none))) q35 (cr_iw cA 0 50 (fun _ => 0))) b (.inr (0, [.ref v, .ref qp, .int 0, .int (-1), .int (-1), .int 0, .ref q35, .int 0]))) (fun z e hz => ?_) ?_
  · by_cases y : z = b
    · rw [y, hm_up_s] at hz ⊢
      exact hz
    · by_cases y2 : z = q35
      · rw [y2, hm_up_n hbr.symm, hm_up_s] at hz
        rw [y2, hm_up_n hbr.symm, hm_up_n hbr.symm, hm_up_n hbr.symm, hm_up_s]
        exact hz
      · rw [hm_up_n y, hm_up_n y2] at hz
        rw [hm_up_n y, hm_up_n y, hm_up_n y, hm_up_n y2, hm_up_n y, hm_up_n y, hm_up_n y, hm_up_n y, hm_up_n y]
        exact hz
  refine hr_iconst (0) X dX0_init_50 (by decide) ?_
  refine hr_istore_n X dX0_init_51 (Nat.le_of_ble_eq_true rfl) ?_
  have lp52 : ∀ (f : Nat) (n : Nat) (sa wa : Nat → Nat) (Mn : hm_M), ca_N cA M b v qp q35 n sa wa Mn → n ≤ 5 → 5 < n + f → hm_W C (2 + 2 * n) (55 + 17 * n) (hm_T C (fun v' M' => v' = none ∧ ∃ (qp qr : Nat) (sa wa : Nat → Nat), ca_N cA M b v qp qr 5 sa wa M') r_X0_init.cells r_X0_init.slots) Mn 52 [some (.ref b), some (.ref v), some (.int (nI n))] [] := by
    intro f
    induction f with
    | zero => intro n sa wa Mn hN h1 h2; exact absurd h2 (by omega)
    | succ f ih =>
      intro n sa wa Mn hN h1 h2
      refine hr_iload_n X dX0_init_52 rfl ?_
      refine hr_iconst (5) X dX0_init_53 (by decide) ?_
      refine hr_icmp_ge 76 X dX0_init_54 (by decide) (fun c54 => ?_) (fun c54 => ?_)
      · have hz : n = 5 := by have := (nI_leI (a := 5) (by decide) (by omega)).mp c54; omega
        subst hz
        exact hr_vret X dX0_init_76 (Nat.le_of_ble_eq_true rfl) (Nat.le_of_ble_eq_true rfl) ⟨rfl, qp, q35, sa, wa, hN⟩
      · have hn : n < 5 := by
          rcases Nat.lt_or_ge n 5 with q | q
          · exact q
          · exact absurd (nI_le (by omega) (by omega)) c54
        refine hr_aload_n X dX0_init_57 rfl (Or.inr ⟨_, rfl⟩) ?_
        refine hr_get X kF0_11 dX0_init_58 hN.1 rfl ?_
        refine hr_iload_n X dX0_init_61 rfl ?_
        refine hr_new [.int 0, .int 0, .int 0, .null, .int 0] X kN0_9 dX0_init_62 (by intro j hj; rcases j with _ | _ | _ | _ | _ | j <;> first | rfl | omega) ⟨by show 2 + 2 * n + 1 ≤ 12; omega, by show 55 + 17 * n + 5 ≤ 140; omega⟩ (fun q hq => ?_)
        refine hr_dup X dX0_init_65 rfl ?_
        refine hr_callIN X kC0_42 dX0_init_66 (c_X2_init cA (b := q) hm_up_s) rfl rfl rfl (Nat.le_of_ble_eq_true rfl) ⟨⟨(Nat.le_of_ble_eq_true rfl), (Nat.le_of_ble_eq_true rfl)⟩, by show 2 + 2 * n + 1 + 1 ≤ 12; omega, by show 55 + 17 * n + 5 + 12 ≤ 140; omega⟩ (fun v66 M66 hp66 => ?_)
        obtain ⟨rfl, w, hw, rfl⟩ := hp66
        have hN1 := hN.step hb hq hw
        have hqp2 : qp ≠ q := fun z => by rw [← z, hN.2.1] at hq; cases hq
        have hwp : qp ≠ w := fun z => by rw [← z, hm_up_n hqp2, hN.2.1] at hw; cases hw
        refine hr_aast 7 2 X rfl rfl dX0_init_69 ((hm_up_n hqp2).trans ((hm_up_n hwp).trans ((hm_up_n hqp2).trans hN.2.1))) hm_up_s (mm_in rfl (by omega) (by decide)).1 ?_
        rw [nI_clamp (by omega)]
        refine hr_iinc (1) X dX0_init_70 rfl (by decide) ?_
        refine hr_goto 52 X dX0_init_73 (by decide) ?_
        rw [nI_1]
        refine hr_widen (k2 := 2 + 2 * (n + 1)) (n2 := 55 + 17 * (n + 1)) (by show 2 + 2 * n + 1 + 1 ≤ _; omega) (by show 55 + 17 * n + 5 + 12 ≤ _; omega) ?_
        exact ih (n + 1) _ _ _ hN1 (by omega) (by omega)
  exact lp52 6 0 _ _ _ hN0 (by decide) (by decide)
