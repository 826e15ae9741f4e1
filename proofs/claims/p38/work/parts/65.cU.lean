/-! threes found anew, and pairs by them -/
theorem cr_ob_e {b : Bool} {y e : va_E} (h : cr_ob b y = some e) : y = e := by
  unfold cr_ob at h
  split at h
  · exact Option.some.inj h
  · cases h
section HT
variable {C : hm_C} {k n : Nat} {Q : State → Prop} {M M0 : hm_M} {pc : Nat} {L : List (Option Value)} {st : List Value} {cA : Nat → ClassId} {sg ta : mm_S} {ad : Nat → Nat → Nat}
theorem hr_w7 (h : cr_R cA sg ta ad M0 M) {p c : Nat} {v : Int32} (hp : p < 12) (hc : c < 50) (kk : ∀ M2 : hm_M, cr_R cA sg (mm_up ta 6 (50 * p + c) v) ad M0 M2 → hm_W C k n Q M2 pc L st) : hm_W C k n Q (hm_up M (ad 7 p) (.inl (cA 0, 50, .inl (upd (fun i => ta 6 (50 * p + i)) c v)))) pc L st := by
  refine hr_re1 h (q0 := 7) (x0 := p) (if_pos (decide_eq_true hp)) (fun e he => ?_) (fun q y e hn he => ?_) kk
  · cases cr_ob_e he
    refine va_sm.i (fun i hi => ?_)
    unfold upd
    by_cases z : i = c
    · rw [if_pos z, z, mm_up_s]
    · rw [if_neg z, mm_up_x (by omega)]
  · by_cases hq : q = 7
    · subst hq
      have hy : y ≠ p := fun z => hn ⟨rfl, z⟩
      exact cr_sm_7 (sg := sg) (ta := ta) (ta' := mm_up ta 6 (50 * p + c) v) (fun i hi => mm_up_x (by omega)) he
    · exact cr_one_t (fun j hj => mm_up_j hj) hq he
theorem hr_w6 (h : cr_R cA sg ta ad M0 M) {p : Nat} {v : Int32} (kk : ∀ M2 : hm_M, cr_R cA sg (mm_up ta 7 p v) ad M0 M2 → hm_W C k n Q M2 pc L st) : hm_W C k n Q (hm_up M (ad 6 0) (.inl (cA 0, 12, .inl (upd (ta 7) p v)))) pc L st := by
  refine hr_re1 h (q0 := 6) (x0 := 0) rfl (fun e he => ?_) (fun q y e hn he => ?_) kk
  · cases cr_ob_e he
    rw [mm_up_row]
    exact va_sm.rf
  · by_cases hq : q = 6
    · subst hq
      rw [cr_cell_0 (by decide) (fun z => hn ⟨rfl, z⟩)] at he
      cases he
    · exact cr_one_t (fun j hj => mm_up_j hj) hq he
end HT
/-- the rows to work in hold these threes of a pupil -/
def cr_T (ta : mm_S) (p : Nat) (l : List Int32) : Prop := ta 7 p = nI l.length ∧ ∀ i z, l[i]? = some z → ta 6 (50 * p + i) = z
/-- only the pupil's own place has changed -/
def cr_Q (p : Nat) (ta0 ta : mm_S) : Prop := (∀ j, j ≠ 6 → j ≠ 7 → ta j = ta0 j) ∧ ∀ p', p' < 12 → p' ≠ p → ta 7 p' = ta0 7 p' ∧ ∀ i, i < 50 → ta 6 (50 * p' + i) = ta0 6 (50 * p' + i)
theorem cr_Q.rf {p : Nat} {ta : mm_S} : cr_Q p ta ta := ⟨fun _ _ _ => rfl, fun _ _ _ => ⟨rfl, fun _ _ => rfl⟩⟩
theorem cr_Q.tr {p : Nat} {t0 t1 t2 : mm_S} (h1 : cr_Q p t0 t1) (h2 : cr_Q p t1 t2) : cr_Q p t0 t2 := ⟨fun j a b => (h2.1 j a b).trans (h1.1 j a b), fun q a b => ⟨((h2.2 q a b).1).trans (h1.2 q a b).1, fun i hi => ((h2.2 q a b).2 i hi).trans ((h1.2 q a b).2 i hi)⟩⟩
theorem cr_Q.T {p p' : Nat} {t0 t1 : mm_S} {l : List Int32} (h : cr_Q p t0 t1) (hp : p' < 12) (hn : p' ≠ p) (hl : l.length ≤ 50) (hT : cr_T t0 p' l) : cr_T t1 p' l := by
  obtain ⟨h1, h2⟩ := h.2 p' hp hn
  refine ⟨h1.trans hT.1, fun i z hz => ?_⟩
  have hi := (List.getElem?_eq_some_iff.mp hz).1
  rw [h2 i (by omega)]
  exact hT.2 i z hz
theorem cr_Q.n {p : Nat} {ta : mm_S} {v : Int32} : cr_Q p ta (mm_up ta 7 p v) := ⟨fun j _ h7 => mm_up_j h7, fun q _ hn => ⟨mm_up_x hn, fun i _ => by rw [mm_up_j (by decide)]⟩⟩
theorem cr_Q.x {p c : Nat} {ta : mm_S} {v : Int32} (hc : c < 50) : cr_Q p ta (mm_up ta 6 (50 * p + c) v) := ⟨fun j h6 _ => mm_up_j h6, fun q _ hn => ⟨by rw [mm_up_j (by decide)], fun i hi => mm_up_x (by omega)⟩⟩
theorem cr_T.app {p : Nat} {ta : mm_S} {l : List Int32} {z : Int32} (h : cr_T ta p l) : cr_T (mm_up (mm_up ta 6 (50 * p + l.length) z) 7 p (nI (l.length + 1))) p (l ++ [z]) := by
  refine ⟨by rw [mm_up_s]; simp, fun i w hw => ?_⟩
  rw [mm_up_j (by decide)]
  have hi := (List.getElem?_eq_some_iff.mp hw).1
  rw [List.length_append, List.length_singleton] at hi
  by_cases q : i < l.length
  · rw [mm_up_x (by omega)]
    exact h.2 i w (by rw [List.getElem?_append_left q] at hw; exact hw)
  · have q2 : i = l.length := by omega
    subst q2
    rw [List.getElem?_append_right (Nat.le_refl _), Nat.sub_self] at hw
    cases hw
    exact mm_up_s
theorem sp_ad_in {l : List Int32} {z : Int32} (h : z ∈ l) : sp_ad l z = l := if_pos h
theorem sp_ad_new {l : List Int32} {z : Int32} (h : z ∉ l) : sp_ad l z = l ++ [z] := if_neg h
theorem cr_T.mem {p : Nat} {ta : mm_S} {l : List Int32} (h : cr_T ta p l) {n : Nat} (hn : n < l.length) : ta 6 (50 * p + n) ∈ l := by
  rw [h.2 n _ (List.getElem?_eq_getElem hn)]
  exact List.getElem_mem hn
theorem cr_T.no {p : Nat} {ta : mm_S} {l : List Int32} (h : cr_T ta p l) {z : Int32} (hz : ∀ i, i < l.length → ¬ ta 6 (50 * p + i) = z) : z ∉ l := fun q => by
  obtain ⟨i, hi, rfl⟩ := List.mem_iff_getElem.mp q
  exact hz i hi (h.2 i _ (List.getElem?_eq_getElem hi))
theorem cr_T.gD {p : Nat} {ta : mm_S} {l : List Int32} (h : cr_T ta p l) {n : Nat} (hn : n < l.length) : ta 6 (50 * p + n) = l.getD n 0 := by
  rw [h.2 n _ (List.getElem?_eq_getElem hn), List.getD_eq_getElem?_getD, List.getElem?_eq_getElem hn]
  rfl
theorem cr_lk2 {sg : mm_S} (hI : sp_I sg) {k1 k2 : Nat} (hk1 : k1 < 48) (hk2 : k2 < 48) : sp_pairB sg k1 k2 = sb_pp (sp_cmn (sp_prs sg k1) (sp_prs sg k2) (sp_prs sg k1).length) (nI (sp_prs sg k1).length) (nI (sp_prs sg k2).length) := by
  rw [sp_cmn_cm]
  exact (ca_num (ca_cm_l1 _ _) (ca_cm_l2 (sp_prs_nd sg k1)) (sp_prs_len hI hk1) (sp_prs_len hI hk2) (sp_alk sg k1 k2) (by unfold sp_alk sp_alike sp_lst; rw [sp_cmn_cm])).2
theorem sp_pt_eq {sg ta : mm_S} (hok : cr_o2 sg ta) {j wc i : Nat} (hj : j < 240) (hw : sg 20 j = nI wc) (hwc : wc ≤ 12) (hi : i + 3 ≤ wc) : sp_pr (ta 4 (12 * j + i)) (ta 4 (12 * j + (i + 1))) (ta 4 (12 * j + (i + 2))) = sp_pt sg j i := by
  have h := hok.2 j
  rw [h i hj (by omega) (by rw [hw]; exact nI_lt (by omega) (by omega)), h (i + 1) hj (by omega) (by rw [hw]; exact nI_lt (by omega) (by omega)), h (i + 2) hj (by omega) (by rw [hw]; exact nI_lt (by omega) (by omega))]
  rfl
set_option maxHeartbeats 4000000 in
set_option maxRecDepth 100000 in
theorem c_X5_isCollected (cA : Nat → ClassId) {sg ta : mm_S} {ad : Nat → Nat → Nat} {M0 M : hm_M} (hR : cr_R cA sg ta ad M0 M) (p : Nat) (hp : p < 12) (l : List Int32) (hT : cr_T ta p l) (hl : l.length ≤ 50) (z : Int32) : hm_Met cA yX5_isCollected cX5_isCollected 4 (some .boolean) r_X5_isCollected [.ref (ad 0 0), .int (nI p), .int z] M (hm_pu (some (.int (hm_bI (decide (z ∈ l))))) M) := by
  refine hm_met 1 (by decide +kernel) (fun w h => by simp only [List.mem_cons, List.not_mem_nil, or_false] at h; rcases h with rfl | rfl | rfl <;> rfl) rfl (fun C X => ?_)
  show hm_W C 0 0 _ M 0 [some (.ref (ad 0 0)), some (.int (nI p)), some (.int z), none] []
  refine hr_iconst (0) X dX5_isCollected_0 (by decide) ?_
  refine hr_istore_n X dX5_isCollected_1 (Nat.le_of_ble_eq_true rfl) ?_
  have lp2 : ∀ (f : Nat) (n : Nat), n ≤ l.length → (∀ i, i < n → ¬ ta 6 (50 * p + i) = z) → l.length < n + f → hm_W C 0 0 (hm_T C (hm_pu (some (.int (hm_bI (decide (z ∈ l))))) M) r_X5_isCollected.cells r_X5_isCollected.slots) M 2 [some (.ref (ad 0 0)), some (.int (nI p)), some (.int z), some (.int (nI n))] [] := by
    intro f
    induction f with
    | zero => intro n h1 h2 h3; exact absurd h3 (by omega)
    | succ f ih =>
      intro n h1 h2 h3
      refine hr_iload_n X dX5_isCollected_2 rfl ?_
      refine hr_aload_n X dX5_isCollected_3 rfl (Or.inr ⟨_, rfl⟩) ?_
      refine hr_get X kF5_34 dX5_isCollected_4 hR.c0 rfl ?_
      refine hr_iload_n X dX5_isCollected_7 rfl ?_
      refine hr_iald X dX5_isCollected_8 hR.c6 (mm_in rfl (by omega) (by decide)).1 ?_
      rw [nI_clamp (by omega), hT.1]
      refine hr_icmp_ge 32 X dX5_isCollected_9 (by decide) (fun c9 => ?_) (fun c9 => ?_)
      · have hn : n = l.length := by have := (nI_leI (by omega) (by omega)).mp c9; omega
        subst hn
        have hz : decide (z ∈ l) = false := decide_eq_false (hT.no h2)
        refine hr_iconst (0) X dX5_isCollected_32 (by decide) ?_
        exact hr_zret X dX5_isCollected_33 (by rfl) (Nat.le_of_ble_eq_true rfl) (Nat.le_of_ble_eq_true rfl) ⟨by rw [hz]; rfl, rfl⟩
      · have hn : n < l.length := by
          rcases Nat.lt_or_ge n l.length with q | q
          · exact q
          · exact absurd (nI_le (by omega) (by omega)) c9
        refine hr_aload_n X dX5_isCollected_12 rfl (Or.inr ⟨_, rfl⟩) ?_
        refine hr_get X kF5_31 dX5_isCollected_13 hR.c0 rfl ?_
        refine hr_iload_n X dX5_isCollected_16 rfl ?_
        refine hr_aaldA X dX5_isCollected_17 hR.c5 (mm_in rfl (by omega) (by decide)).1 ?_
        rw [nI_clamp (by omega)]
        refine hr_iload_n X dX5_isCollected_18 rfl ?_
        refine hr_iald X dX5_isCollected_19 (hR.c7 (decide_eq_true hp)) (mm_in rfl (by omega) (by decide)).1 ?_
        rw [nI_clamp (by omega)]
        refine hr_iload_n X dX5_isCollected_20 rfl ?_
        refine hr_icmp_ne 26 X dX5_isCollected_21 (by decide) (fun c21 => ?_) (fun c21 => ?_)
        · refine hr_iinc (1) X dX5_isCollected_26 rfl (by decide) ?_
          refine hr_goto 2 X dX5_isCollected_29 (by decide) ?_
          rw [nI_1]
          exact ih (n + 1) (by omega) (fun i hi => by
            rcases Nat.lt_or_ge i n with q | q
            · exact h2 i q
            · rw [show i = n by omega]; exact c21) (by omega)
        · have hz : decide (z ∈ l) = true := decide_eq_true (by rw [← c21]; exact hT.mem hn)
          refine hr_iconst (1) X dX5_isCollected_24 (by decide) ?_
          exact hr_zret X dX5_isCollected_25 (by rfl) (Nat.le_of_ble_eq_true rfl) (Nat.le_of_ble_eq_true rfl) ⟨by rw [hz]; rfl, rfl⟩
  exact lp2 (l.length + 1) 0 (Nat.zero_le _) (fun i hi => absurd hi (Nat.not_lt_zero i)) (by omega)
set_option maxHeartbeats 4000000 in
set_option maxRecDepth 100000 in
theorem c_X5_collectThree (cA : Nat → ClassId) {sg ta : mm_S} {ad : Nat → Nat → Nat} {M0 M : hm_M} (hR : cr_R cA sg ta ad M0 M) (p : Nat) (hp : p < 12) (l : List Int32) (hT : cr_T ta p l) (hl : l.length < 50) (z : Int32) : hm_Met cA yX5_collectThree cX5_collectThree 4 none r_X5_collectThree [.ref (ad 0 0), .int (nI p), .int z] M (fun v' M' => v' = none ∧ ∃ ta' : mm_S, cr_R cA sg ta' ad M0 M' ∧ cr_T ta' p (sp_ad l z) ∧ cr_Q p ta ta') := by
  refine hm_met 1 (by decide +kernel) (fun w h => by simp only [List.mem_cons, List.not_mem_nil, or_false] at h; rcases h with rfl | rfl | rfl <;> rfl) rfl (fun C X => ?_)
  show hm_W C 0 0 _ M 0 [some (.ref (ad 0 0)), some (.int (nI p)), some (.int z), none] []
  refine hr_aload_n X dX5_collectThree_0 rfl (Or.inr ⟨_, rfl⟩) ?_
  refine hr_get X kF5_34 dX5_collectThree_1 hR.c0 rfl ?_
  refine hr_iload_n X dX5_collectThree_4 rfl ?_
  refine hr_iald X dX5_collectThree_5 hR.c6 (mm_in rfl (by omega) (by decide)).1 ?_
  rw [nI_clamp (by omega), hT.1]
  refine hr_istore_n X dX5_collectThree_6 (Nat.le_of_ble_eq_true rfl) ?_
  refine hr_aload_n X dX5_collectThree_7 rfl (Or.inr ⟨_, rfl⟩) ?_
  refine hr_iload_n X dX5_collectThree_8 rfl ?_
  refine hr_iload_n X dX5_collectThree_9 rfl ?_
  refine hr_callV X kC5_387 dX5_collectThree_10 (c_X5_isCollected cA hR p hp l hT (by omega) z) hR.c0 rfl rfl rfl rfl (Nat.le_of_ble_eq_true rfl) ⟨⟨(Nat.le_of_ble_eq_true rfl), (Nat.le_of_ble_eq_true rfl)⟩, (Nat.le_of_ble_eq_true rfl), (Nat.le_of_ble_eq_true rfl)⟩ (fun v M10 hp => ?_)
  obtain ⟨rfl, rfl⟩ := hp
  refine hr_if_ne 40 X dX5_collectThree_13 (by decide) (fun c13 => ?_) (fun c13 => ?_)
  · exact hr_vret X dX5_collectThree_40 (Nat.le_of_ble_eq_true rfl) (Nat.le_of_ble_eq_true rfl) ⟨rfl, ta, hR, by rw [sp_ad_in (of_decide_eq_true (hm_bI_ne.mp c13))]; exact hT, cr_Q.rf⟩
  · have hz : z ∉ l := of_decide_eq_false (hm_bI_eq.mp c13)
    refine hr_iload_n X dX5_collectThree_16 rfl ?_
    refine hr_bipush (50) X dX5_collectThree_17 (by decide) ?_
    refine hr_icmp_ge 40 X dX5_collectThree_19 (by decide) (fun c19 => ?_) (fun c19 => ?_)
    · exact absurd ((nI_leI (a := 50) (by decide) (by omega)).mp c19) (by omega)
    · refine hr_aload_n X dX5_collectThree_22 rfl (Or.inr ⟨_, rfl⟩) ?_
      refine hr_get X kF5_31 dX5_collectThree_23 hR.c0 rfl ?_
      refine hr_iload_n X dX5_collectThree_26 rfl ?_
      refine hr_aaldA X dX5_collectThree_27 hR.c5 (mm_in rfl (by omega) (by decide)).1 ?_
      rw [nI_clamp (by omega)]
      refine hr_iload_n X dX5_collectThree_28 rfl ?_
      refine hr_iload_n X dX5_collectThree_29 rfl ?_
      refine hr_iast X dX5_collectThree_30 (hR.c7 (decide_eq_true hp)) (mm_in rfl (by omega) (by decide)).1 ?_
      rw [nI_clamp (by omega)]
      refine hr_w7 hR hp hl (fun M30 hR => ?_)
      refine hr_aload_n X dX5_collectThree_31 rfl (Or.inr ⟨_, rfl⟩) ?_
      refine hr_get X kF5_34 dX5_collectThree_32 hR.c0 rfl ?_
      refine hr_iload_n X dX5_collectThree_35 rfl ?_
      refine hr_iload_n X dX5_collectThree_36 rfl ?_
      refine hr_iconst (1) X dX5_collectThree_37 (by decide) ?_
      refine hr_iadd X dX5_collectThree_38 ?_
      refine hr_iast X dX5_collectThree_39 hR.c6 (mm_in rfl (by omega) (by decide)).1 ?_
      rw [nI_clamp (by omega), nI_1]
      refine hr_w6 hR (fun M39 hR => ?_)
      exact hr_vret X dX5_collectThree_40 (Nat.le_of_ble_eq_true rfl) (Nat.le_of_ble_eq_true rfl) ⟨rfl, _, hR, by rw [sp_ad_new hz]; exact hT.app, (cr_Q.x hl).tr cr_Q.n⟩
set_option maxHeartbeats 4000000 in
set_option maxRecDepth 100000 in
theorem c_X5_commonThrees (cA : Nat → ClassId) {sg ta : mm_S} {ad : Nat → Nat → Nat} {M0 M : hm_M} (hR : cr_R cA sg ta ad M0 M) (p q : Nat) (hp : p < 12) (hq : q < 12) (l l2 : List Int32) (hT : cr_T ta p l) (hT2 : cr_T ta q l2) (hl : l.length ≤ 50) (hl2 : l2.length ≤ 50) : hm_Met cA yX5_commonThrees cX5_commonThrees 5 (some .int) r_X5_commonThrees [.ref (ad 0 0), .int (nI p), .int (nI q)] M (hm_pu (some (.int (sp_cmn l l2 l.length))) M) := by
  refine hm_met 2 (by decide +kernel) (fun w h => by simp only [List.mem_cons, List.not_mem_nil, or_false] at h; rcases h with rfl | rfl | rfl <;> rfl) rfl (fun C X => ?_)
  show hm_W C 0 0 _ M 0 [some (.ref (ad 0 0)), some (.int (nI p)), some (.int (nI q)), none, none] []
  refine hr_iconst (0) X dX5_commonThrees_0 (by decide) ?_
  refine hr_istore_n X dX5_commonThrees_1 (Nat.le_of_ble_eq_true rfl) ?_
  refine hr_iconst (0) X dX5_commonThrees_2 (by decide) ?_
  refine hr_istore X dX5_commonThrees_3 (Nat.le_of_ble_eq_true rfl) ?_
  have lp5 : ∀ (f : Nat) (n : Nat), n ≤ l.length → l.length < n + f → hm_W C 0 0 (hm_T C (hm_pu (some (.int (sp_cmn l l2 l.length))) M) r_X5_commonThrees.cells r_X5_commonThrees.slots) M 5 [some (.ref (ad 0 0)), some (.int (nI p)), some (.int (nI q)), some (.int (sp_cmn l l2 n)), some (.int (nI n))] [] := by
    intro f
    induction f with
    | zero => intro n h1 h2; exact absurd h2 (by omega)
    | succ f ih =>
      intro n h1 h2
      refine hr_iload X dX5_commonThrees_5 rfl ?_
      refine hr_aload_n X dX5_commonThrees_7 rfl (Or.inr ⟨_, rfl⟩) ?_
      refine hr_get X kF5_34 dX5_commonThrees_8 hR.c0 rfl ?_
      refine hr_iload_n X dX5_commonThrees_11 rfl ?_
      refine hr_iald X dX5_commonThrees_12 hR.c6 (mm_in rfl (by omega) (by decide)).1 ?_
      rw [nI_clamp (by omega), hT.1]
      refine hr_icmp_ge 42 X dX5_commonThrees_13 (by decide) (fun c13 => ?_) (fun c13 => ?_)
      · have hn : n = l.length := by have := (nI_leI (by omega) (by omega)).mp c13; omega
        subst hn
        refine hr_iload_n X dX5_commonThrees_42 rfl ?_
        exact hr_iret X dX5_commonThrees_43 (Nat.le_of_ble_eq_true rfl) (Nat.le_of_ble_eq_true rfl) ⟨rfl, rfl⟩
      · have hn : n < l.length := by
          rcases Nat.lt_or_ge n l.length with q | q
          · exact q
          · exact absurd (nI_le (by omega) (by omega)) c13
        refine hr_aload_n X dX5_commonThrees_16 rfl (Or.inr ⟨_, rfl⟩) ?_
        refine hr_iload_n X dX5_commonThrees_17 rfl ?_
        refine hr_aload_n X dX5_commonThrees_18 rfl (Or.inr ⟨_, rfl⟩) ?_
        refine hr_get X kF5_31 dX5_commonThrees_19 hR.c0 rfl ?_
        refine hr_iload_n X dX5_commonThrees_22 rfl ?_
        refine hr_aaldA X dX5_commonThrees_23 hR.c5 (mm_in rfl (by omega) (by decide)).1 ?_
        rw [nI_clamp (by omega)]
        refine hr_iload X dX5_commonThrees_24 rfl ?_
        refine hr_iald X dX5_commonThrees_26 (hR.c7 (decide_eq_true hp)) (mm_in rfl (by omega) (by decide)).1 ?_
        rw [nI_clamp (by omega), hT.gD hn]
        refine hr_callV X kC5_387 dX5_commonThrees_27 (c_X5_isCollected cA hR q hq l2 hT2 hl2 (l.getD n 0)) hR.c0 rfl rfl rfl rfl (Nat.le_of_ble_eq_true rfl) ⟨⟨(Nat.le_of_ble_eq_true rfl), (Nat.le_of_ble_eq_true rfl)⟩, (Nat.le_of_ble_eq_true rfl), (Nat.le_of_ble_eq_true rfl)⟩ (fun v M27 hp => ?_)
        obtain ⟨rfl, rfl⟩ := hp
        have J36 : hm_W C 0 0 (hm_T C (hm_pu (some (.int (sp_cmn l l2 l.length))) M) r_X5_commonThrees.cells r_X5_commonThrees.slots) M 36 [some (.ref (ad 0 0)), some (.int (nI p)), some (.int (nI q)), some (.int (sp_cmn l l2 (n + 1))), some (.int (nI n))] [] := by
          refine hr_iinc (1) X dX5_commonThrees_36 rfl (by decide) ?_
          refine hr_goto 5 X dX5_commonThrees_39 (by decide) ?_
          rw [nI_1]
          exact ih (n + 1) (by omega) (by omega)
        refine hr_if_eq 36 X dX5_commonThrees_30 (by decide) (fun c30 => ?_) (fun c30 => ?_)
        · have hz : sp_cmn l l2 (n + 1) = sp_cmn l l2 n := sp_is_st (if_neg (of_decide_eq_false (hm_bI_eq.mp c30)))
          exact hl_loc (by rw [hz] <;> rfl) J36
        · have hz : sp_cmn l l2 (n + 1) = sp_cmn l l2 n + 1 := sp_is_up (if_pos (of_decide_eq_true (hm_bI_ne.mp c30)))
          refine hr_iinc (1) X dX5_commonThrees_33 rfl (by decide) ?_
          exact hl_loc (by rw [hz] <;> rfl) J36
  exact lp5 (l.length + 1) 0 (Nat.zero_le _) (by omega)
def sl_ix (h m : Int32) : Bool := !decide (h = 0) && decide (0 < m)
set_option maxHeartbeats 4000000 in
set_option maxRecDepth 100000 in
theorem c_X0_isInIndex (cA : Nat → ClassId) {M : hm_M} {b : Nat} {v0 v1 v4 v5 v6 v7 : Value} {h m : Int32} (hA : M b = some (.inr (0, [v0, v1, .int h, .int m, v4, v5, v6, v7]))) : hm_Met cA yX0_isInIndex cX0_isInIndex 1 (some .boolean) r_X0_isInIndex [.ref b] M (hm_pu (some (.int (hm_bI (sl_ix h m)))) M) := by
  refine hm_met 0 (by decide +kernel) (fun w h => by simp only [List.mem_cons, List.not_mem_nil, or_false] at h; rcases h with rfl <;> rfl) rfl (fun C X => ?_)
  show hm_W C 0 0 _ M 0 [some (.ref b)] []
  refine hr_aload_n X dX0_isInIndex_0 rfl (Or.inr ⟨_, rfl⟩) ?_
  refine hr_get X kF0_17 dX0_isInIndex_1 hA rfl ?_
  refine hr_if_eq 18 X dX0_isInIndex_4 (by decide) (fun c4 => ?_) (fun c4 => ?_)
  · have hz : sl_ix h m = false := by unfold sl_ix; rw [decide_eq_true c4]; rfl
    refine hr_iconst (0) X dX0_isInIndex_18 (by decide) ?_
    exact hr_zret X dX0_isInIndex_19 (by rfl) (Nat.le_of_ble_eq_true rfl) (Nat.le_of_ble_eq_true rfl) ⟨by rw [hz]; rfl, rfl⟩
  · refine hr_aload_n X dX0_isInIndex_7 rfl (Or.inr ⟨_, rfl⟩) ?_
    refine hr_get X kF0_21 dX0_isInIndex_8 hA rfl ?_
    refine hr_if_le 18 X dX0_isInIndex_11 (by decide) (fun c11 => ?_) (fun c11 => ?_)
    · have hz : sl_ix h m = false := by unfold sl_ix; rw [decide_eq_false (Int32.not_lt.mpr c11)]; exact Bool.and_false _
      refine hr_iconst (0) X dX0_isInIndex_18 (by decide) ?_
      exact hr_zret X dX0_isInIndex_19 (by rfl) (Nat.le_of_ble_eq_true rfl) (Nat.le_of_ble_eq_true rfl) ⟨by rw [hz]; rfl, rfl⟩
    · have hz : sl_ix h m = true := by unfold sl_ix; rw [decide_eq_false c4, decide_eq_true (Int32.not_le.mp c11)]; rfl
      refine hr_iconst (1) X dX0_isInIndex_14 (by decide) ?_
      refine hr_goto 19 X dX0_isInIndex_15 (by decide) ?_
      exact hr_zret X dX0_isInIndex_19 (by rfl) (Nat.le_of_ble_eq_true rfl) (Nat.le_of_ble_eq_true rfl) ⟨by rw [hz]; rfl, rfl⟩
theorem sl_ix_prs {sg : mm_S} {k : Nat} : (sl_ix (if sg 13 k = 2 then 1 else 0) (sp_rMark sg k) = true → sp_prs sg k = sp_layL sg k 5) ∧ (sl_ix (if sg 13 k = 2 then 1 else 0) (sp_rMark sg k) = false → sp_prs sg k = []) := by
  unfold sl_ix sp_rMark sp_prs
  by_cases h : sg 13 k = 2
  · rw [if_pos h, if_pos h, decide_eq_false (show ¬ (1 : Int32) = 0 by decide), Bool.not_false, Bool.true_and]
    exact ⟨fun q => if_pos ⟨h, of_decide_eq_true q⟩, fun q => if_neg (fun z => of_decide_eq_false q z.2)⟩
  · rw [if_neg h, if_neg h]
    exact ⟨fun q => absurd q (by decide), fun _ => if_neg (fun z => h z.1)⟩
theorem hm_rfc (o : Option Nat) : (va_rf o).category = 1 := by cases o <;> rfl
set_option maxHeartbeats 4000000 in
set_option maxRecDepth 100000 in
theorem c_X5_collectThrees (cA : Nat → ClassId) {sg ta0 : mm_S} {ad : Nat → Nat → Nat} {M0 M : hm_M} (hR : cr_R cA sg ta0 ad M0 M) (hI : sp_I sg) (hok : cr_ok sg ta0) (a p : Nat) (ha1 : a < sp_n sg) (hp : p < 12) : hm_Met cA yX5_collectThrees cX5_collectThrees 8 none r_X5_collectThrees [.ref (ad 0 0), va_rf (if sg 13 (12 * a + p) = 0 then none else some (ad 16 (12 * a + p))), .int (nI p)] M (fun v' M' => v' = none ∧ ∃ ta' : mm_S, cr_R cA sg ta' ad M0 M' ∧ cr_T ta' p (sp_prs sg (12 * a + p)) ∧ cr_Q p ta0 ta') := by
  refine hm_met 5 (by decide +kernel) (fun w h => by simp only [List.mem_cons, List.not_mem_nil, or_false] at h; rcases h with rfl | rfl | rfl <;> first | rfl | exact hm_rfc _) rfl (fun C X => ?_)
  show hm_W C 0 0 _ M 0 [some (.ref (ad 0 0)), some (va_rf (if sg 13 (12 * a + p) = 0 then none else some (ad 16 (12 * a + p)))), some (.int (nI p)), none, none, none, none, none] []
  have ha4 := cr_n4 hI ha1
  refine hr_aload_n X dX5_collectThrees_0 rfl (Or.inr ⟨_, rfl⟩) ?_
  refine hr_get X kF5_34 dX5_collectThrees_1 hR.c0 rfl ?_
  refine hr_iload_n X dX5_collectThrees_4 rfl ?_
  refine hr_iconst (0) X dX5_collectThrees_5 (by decide) ?_
  refine hr_iast X dX5_collectThrees_6 hR.c6 (mm_in rfl (by omega) (by decide)).1 ?_
  rw [nI_clamp (by omega)]
  refine hr_w6 hR (fun M6 hR => ?_)
  have hT : cr_T (mm_up ta0 7 p 0) p [] := ⟨mm_up_s, fun i z hz => by simp at hz⟩
  have hQ : cr_Q p ta0 (mm_up ta0 7 p 0) := cr_Q.n
  refine hr_aload_n X dX5_collectThrees_7 rfl (hm_rf _) ?_
  refine hr_ifnull 18 X dX5_collectThrees_8 (by decide) (fun c8 => ?_) (fun a8 c8 => ?_)
  · have hn0 : sg 13 (12 * a + p) = 0 := by
      by_cases q : sg 13 (12 * a + p) = 0
      · exact q
      · rw [if_neg q] at c8; cases c8
    have hL : sp_prs sg (12 * a + p) = [] := sp_prs_0 hn0
    exact hr_vret X dX5_collectThrees_18 (Nat.le_of_ble_eq_true rfl) (Nat.le_of_ble_eq_true rfl) ⟨rfl, _, hR, by rw [hL]; exact hT, hQ⟩
  · have hn0 : ¬ sg 13 (12 * a + p) = 0 := fun q => by rw [if_pos q] at c8; cases c8
    have hK := cr_isK_at ha1 hp hn0
    obtain ⟨-, v, hv, hvt⟩ := sp_handed hI (k := 12 * a + p) (by omega) hn0
    rw [show (12 * a + p) / 12 = a by omega] at hvt
    have hv16 := hvt.1
    rw [if_neg hn0]
    refine hr_aload_n X dX5_collectThrees_11 rfl (hm_rf _) ?_
    refine hr_callV X kC5_374 dX5_collectThrees_12 (c_X0_isInIndex cA (hR.c16 hK)) (hR.c16 hK) rfl rfl rfl rfl (Nat.le_of_ble_eq_true rfl) ⟨⟨(Nat.le_of_ble_eq_true rfl), (Nat.le_of_ble_eq_true rfl)⟩, (Nat.le_of_ble_eq_true rfl), (Nat.le_of_ble_eq_true rfl)⟩ (fun v M12 hp => ?_)
    obtain ⟨rfl, rfl⟩ := hp
    refine hr_if_ne 19 X dX5_collectThrees_15 (by decide) (fun c15 => ?_) (fun c15 => ?_)
    · have hL := sl_ix_prs.1 (hm_bI_ne.mp c15)
      refine hr_iconst (0) X dX5_collectThrees_19 (by decide) ?_
      refine hr_istore_n X dX5_collectThrees_20 (Nat.le_of_ble_eq_true rfl) ?_
      have lp21 : ∀ (f : Nat) (n : Nat) (y4 y5 y6 y7 : Option Value) (M : hm_M) (ta : mm_S), cr_R cA sg ta ad M0 M → cr_Q p ta0 ta → cr_T ta p (sp_layL sg (12 * a + p) n) → n ≤ 5 → 5 < n + f → hm_W C 0 0 (hm_T C (fun v' M' => v' = none ∧ ∃ ta' : mm_S, cr_R cA sg ta' ad M0 M' ∧ cr_T ta' p (sp_prs sg (12 * a + p)) ∧ cr_Q p ta0 ta') r_X5_collectThrees.cells r_X5_collectThrees.slots) M 21 [some (.ref (ad 0 0)), some (.ref (ad 16 (12 * a + p))), some (.int (nI p)), some (.int (nI n)), y4, y5, y6, y7] [] := by
        intro f
        induction f with
        | zero => intro n y4 y5 y6 y7 M ta hR hQ hT h1 h2; exact absurd h2 (by omega)
        | succ f ih =>
          intro n y4 y5 y6 y7 M ta hR hQ hT h1 h2
          refine hr_iload_n X dX5_collectThrees_21 rfl ?_
          refine hr_iconst (5) X dX5_collectThrees_22 (by decide) ?_
          refine hr_icmp_ge 122 X dX5_collectThrees_23 (by decide) (fun c23 => ?_) (fun c23 => ?_)
          · have hz : n = 5 := by have := (nI_leI (a := 5) (by decide) (by omega)).mp c23; omega
            subst hz
            exact hr_vret X dX5_collectThrees_122 (Nat.le_of_ble_eq_true rfl) (Nat.le_of_ble_eq_true rfl) ⟨rfl, _, hR, by rw [hL]; exact hT, hQ⟩
          · have hn : n < 5 := by
              rcases Nat.lt_or_ge n 5 with q | q
              · exact q
              · exact absurd (nI_le (by omega) (by omega)) c23
            have hlen := sp_layL_len hI (k := 12 * a + p) (by omega) n (by omega)
            refine hr_aload_n X dX5_collectThrees_26 rfl (Or.inr ⟨_, rfl⟩) ?_
            refine hr_get X kF5_180 dX5_collectThrees_27 (hR.c16 hK) rfl ?_
            rw [hv, show (12 * a + p) / 12 = a by omega, show nN (nI v) = v from nI_clamp (by omega)]
            refine hr_iload_n X dX5_collectThrees_30 rfl ?_
            refine hr_callS X kC5_80 dX5_collectThrees_31 (c_X5_taskOf cA hR hI a v n ha1 hvt hn) rfl rfl rfl (Nat.le_of_ble_eq_true rfl) ⟨⟨(Nat.le_of_ble_eq_true rfl), (Nat.le_of_ble_eq_true rfl)⟩, (Nat.le_of_ble_eq_true rfl), (Nat.le_of_ble_eq_true rfl)⟩ (fun v M31 hp => ?_)
            obtain ⟨rfl, rfl⟩ := hp
            refine hr_astore X dX5_collectThrees_34 (Nat.le_of_ble_eq_true rfl) (hm_rf _) ?_
            refine hr_aload_n X dX5_collectThrees_36 rfl (Or.inr ⟨_, rfl⟩) ?_
            refine hr_get X kF5_183 dX5_collectThrees_37 (hR.c16 hK) rfl ?_
            refine hr_iload_n X dX5_collectThrees_40 rfl ?_
            refine hr_aald 7 X rfl dX5_collectThrees_41 (hR.c17 hK) (mm_in rfl (by omega) (by decide)).1 ?_
            rw [nI_clamp (by omega)]
            refine hr_astore X dX5_collectThrees_42 (Nat.le_of_ble_eq_true rfl) (hm_rf _) ?_
            refine hr_aload X dX5_collectThrees_44 rfl (hm_rf _) ?_
            have J116 : ∀ (y6 y7 : Option Value) (M : hm_M) (ta : mm_S), cr_R cA sg ta ad M0 M → cr_Q p ta0 ta → cr_T ta p (sp_layL sg (12 * a + p) (n + 1)) → hm_W C 0 0 (hm_T C (fun v' M' => v' = none ∧ ∃ ta' : mm_S, cr_R cA sg ta' ad M0 M' ∧ cr_T ta' p (sp_prs sg (12 * a + p)) ∧ cr_Q p ta0 ta') r_X5_collectThrees.cells r_X5_collectThrees.slots) M 116 [some (.ref (ad 0 0)), some (.ref (ad 16 (12 * a + p))), some (.int (nI p)), some (.int (nI n)), some (va_rf ((sp_has sg a v n).map (fun u => ad 15 (sp_e a u n)))), some (va_rf (some (ad 19 (5 * (12 * a + p) + n)))), y6, y7] [] := by
              intro y6 y7 M ta hR hQ hT
              refine hr_iinc (1) X dX5_collectThrees_116 rfl (by decide) ?_
              refine hr_goto 21 X dX5_collectThrees_119 (by decide) ?_
              rw [nI_1]
              exact ih (n + 1) _ _ _ _ _ _ hR hQ hT (by omega) (by omega)
            refine hr_ifnull 116 X dX5_collectThrees_46 (by decide) (fun c46 => ?_) (fun a46 c46 => ?_)
            · have hz : sp_layL sg (12 * a + p) (n + 1) = sp_layL sg (12 * a + p) n := by
                show sp_layT sg (12 * a + p) n (sp_layL sg (12 * a + p) n) = _
                unfold sp_layT
                rw [hv, show (12 * a + p) / 12 = a by omega, show nN (nI v) = v from nI_clamp (by omega), show sp_has sg a v n = none from by
                  cases hq : sp_has sg a v n with
                  | none => rfl
                  | some u => rw [hq] at c46; cases c46]
              exact J116 _ _ _ _ hR hQ (by rw [hz]; exact hT)
            · obtain ⟨u, hu⟩ : ∃ u, sp_has sg a v n = some u := by
                cases hq : sp_has sg a v n with
                | none => rw [hq] at c46; cases c46
                | some u => exact ⟨u, rfl⟩
              obtain ⟨u1, u2, u3, u4⟩ := sp_has_some hI ha1 hvt hu
              have u16 := u1.1
              have hE := cr_isE_th ha1 u16 hn u3
              have hj5 : (5 * (12 * a + p) + n) < 240 := by omega
              have hK5 : cr_isK sg ((5 * (12 * a + p) + n) / 5) = true := by rw [show (5 * (12 * a + p) + n) / 5 = 12 * a + p by omega]; exact hK
              obtain ⟨-, -, ⟨wc, hwc, hw⟩, -⟩ := hI.i12 _ hj5
              have hkd : cr_kd sg (sp_e a u n) = sg 6 (sp_e a u n) := if_neg u4
              rw [hu] at J116 ⊢
              refine hr_aload X dX5_collectThrees_49 rfl (hm_rf _) ?_
              refine hr_get X kF5_139 dX5_collectThrees_51 (hR.c15 hE) rfl ?_
              refine hr_iconst (2) X dX5_collectThrees_54 (by decide) ?_
              refine hr_icmp_ne 116 X dX5_collectThrees_55 (by decide) (fun c55 => ?_) (fun c55 => ?_)
              · have hk2 : ¬ sg 6 (sp_e a u n) = 2 := fun q => c55 (by rw [hkd]; exact q)
                have hz : sp_layL sg (12 * a + p) (n + 1) = sp_layL sg (12 * a + p) n := by
                  show sp_layT sg (12 * a + p) n (sp_layL sg (12 * a + p) n) = _
                  unfold sp_layT
                  rw [hv, show (12 * a + p) / 12 = a by omega, show nN (nI v) = v from nI_clamp (by omega), hu]
                  exact if_neg hk2
                exact J116 _ _ _ _ hR hQ (by rw [hz]; exact hT)
              · have hk2 : sg 6 (sp_e a u n) = 2 := by rw [← hkd]; exact c55
                have hz : sp_layL sg (12 * a + p) (n + 1) = (sp_layI sg (sg 8 (sp_e a u n)) (5 * (12 * a + p) + n) (sp_layL sg (12 * a + p) n) (wc - 2)) := by
                  show sp_layT sg (12 * a + p) n (sp_layL sg (12 * a + p) n) = _
                  unfold sp_layT
                  rw [hv, show (12 * a + p) / 12 = a by omega, show nN (nI v) = v from nI_clamp (by omega), hu]
                  dsimp only
                  rw [if_pos hk2, hw, show nN (nI wc) = wc from nI_clamp (by omega)]
                refine hr_aload X dX5_collectThrees_58 rfl (hm_rf _) ?_
                refine hr_ifnonnullR 66 X dX5_collectThrees_60 (by decide) ?_
                refine hr_iconst (0) X dX5_collectThrees_66 (by decide) ?_
                refine hr_istore X dX5_collectThrees_67 (Nat.le_of_ble_eq_true rfl) ?_
                have lp69 : ∀ (f : Nat) (i : Nat) (y7 : Option Value) (M : hm_M) (ta : mm_S), cr_R cA sg ta ad M0 M → cr_Q p ta0 ta → cr_T ta p (sp_layI sg (sg 8 (sp_e a u n)) (5 * (12 * a + p) + n) (sp_layL sg (12 * a + p) n) i) → i ≤ wc - 2 → wc < i + f → hm_W C 0 0 (hm_T C (fun v' M' => v' = none ∧ ∃ ta' : mm_S, cr_R cA sg ta' ad M0 M' ∧ cr_T ta' p (sp_prs sg (12 * a + p)) ∧ cr_Q p ta0 ta') r_X5_collectThrees.cells r_X5_collectThrees.slots) M 69 [some (.ref (ad 0 0)), some (.ref (ad 16 (12 * a + p))), some (.int (nI p)), some (.int (nI n)), some (.ref (ad 15 (sp_e a u n))), some (va_rf (some (ad 19 (5 * (12 * a + p) + n)))), some (.int (nI i)), y7] [] := by
                  intro f
                  induction f with
                  | zero => intro i y7 M ta hR hQ hT g1 g2; exact absurd g2 (by omega)
                  | succ f ih69 =>
                    intro i y7 M ta hR hQ hT g1 g2
                    refine hr_iload X dX5_collectThrees_69 rfl ?_
                    refine hr_iconst (3) X dX5_collectThrees_71 (by decide) ?_
                    refine hr_iadd X dX5_collectThrees_72 ?_
                    rw [show nI i + 3 = nI (i + 3) from nI_add i 3]
                    refine hr_aload X dX5_collectThrees_73 rfl (hm_rf _) ?_
                    refine hr_get X kF5_343 dX5_collectThrees_75 (hR.c19 hK5) rfl ?_
                    rw [hw]
                    refine hr_icmp_gt 116 X dX5_collectThrees_78 (by decide) (fun c78 => ?_) (fun c78 => ?_)
                    · have hi : i = wc - 2 := by have := (nI_ltI (by omega) (by omega)).mp c78; omega
                      subst hi
                      exact J116 _ _ _ _ hR hQ (by rw [hz]; exact hT)
                    · have hi : i + 3 ≤ wc := by
                        rcases Nat.lt_or_ge wc (i + 3) with q | q
                        · exact absurd (nI_lt q (by omega)) c78
                        · exact q
                      refine hr_aload X dX5_collectThrees_81 rfl (hm_rf _) ?_
                      refine hr_iload X dX5_collectThrees_83 rfl ?_
                      refine hr_callV X kC5_378 dX5_collectThrees_85 (c_X2_printAt cA (M := M) (hR.c19 hK5) (hR.c20 hK5) i (by omega)) (hR.c19 hK5) rfl rfl rfl rfl (Nat.le_of_ble_eq_true rfl) ⟨⟨(Nat.le_of_ble_eq_true rfl), (Nat.le_of_ble_eq_true rfl)⟩, (Nat.le_of_ble_eq_true rfl), (Nat.le_of_ble_eq_true rfl)⟩ (fun v M85 hp => ?_)
                      obtain ⟨rfl, rfl⟩ := hp
                      rw [sp_pt_eq ((hok.congr (fun j _ h6 h7 => hQ.1 j h6 h7))).o2 hj5 hw hwc hi]
                      refine hr_istore X dX5_collectThrees_88 (Nat.le_of_ble_eq_true rfl) ?_
                      refine hr_aload X dX5_collectThrees_90 rfl (Or.inr ⟨_, rfl⟩) ?_
                      refine hr_get X kF5_314 dX5_collectThrees_92 (hR.c15 hE) rfl ?_
                      refine hr_iload X dX5_collectThrees_95 rfl ?_
                      refine hr_callS X kC5_381 dX5_collectThrees_97 (c_X5_ruleHasPrint cA (M := M) (sg 8 (sp_e a u n)) (sp_pt sg (5 * (12 * a + p) + n) i)) rfl rfl rfl (Nat.le_of_ble_eq_true rfl) ⟨⟨(Nat.le_of_ble_eq_true rfl), (Nat.le_of_ble_eq_true rfl)⟩, (Nat.le_of_ble_eq_true rfl), (Nat.le_of_ble_eq_true rfl)⟩ (fun v M97 hp => ?_)
                      obtain ⟨rfl, rfl⟩ := hp
                      have J110 : ∀ (M : hm_M) (ta : mm_S), cr_R cA sg ta ad M0 M → cr_Q p ta0 ta → cr_T ta p (sp_layI sg (sg 8 (sp_e a u n)) (5 * (12 * a + p) + n) (sp_layL sg (12 * a + p) n) (i + 1)) → hm_W C 0 0 (hm_T C (fun v' M' => v' = none ∧ ∃ ta' : mm_S, cr_R cA sg ta' ad M0 M' ∧ cr_T ta' p (sp_prs sg (12 * a + p)) ∧ cr_Q p ta0 ta') r_X5_collectThrees.cells r_X5_collectThrees.slots) M 110 [some (.ref (ad 0 0)), some (.ref (ad 16 (12 * a + p))), some (.int (nI p)), some (.int (nI n)), some (.ref (ad 15 (sp_e a u n))), some (va_rf (some (ad 19 (5 * (12 * a + p) + n)))), some (.int (nI i)), some (.int (sp_pt sg (5 * (12 * a + p) + n) i))] [] := by
                        intro M ta hR hQ hT2
                        refine hr_iinc (1) X dX5_collectThrees_110 rfl (by decide) ?_
                        refine hr_goto 69 X dX5_collectThrees_113 (by decide) ?_
                        rw [nI_1]
                        exact ih69 (i + 1) _ _ _ hR hQ hT2 (by omega) (by omega)
                      refine hr_if_ne 110 X dX5_collectThrees_100 (by decide) (fun c100 => ?_) (fun c100 => ?_)
                      · have hT3 : cr_T ta p (sp_layI sg (sg 8 (sp_e a u n)) (5 * (12 * a + p) + n) (sp_layL sg (12 * a + p) n) (i + 1)) := by
                          show cr_T ta p (if sp_inR (sg 8 (sp_e a u n)) (sp_pt sg (5 * (12 * a + p) + n) i) = true then (sp_layI sg (sg 8 (sp_e a u n)) (5 * (12 * a + p) + n) (sp_layL sg (12 * a + p) n) i) else sp_ad (sp_layI sg (sg 8 (sp_e a u n)) (5 * (12 * a + p) + n) (sp_layL sg (12 * a + p) n) i) (sp_pt sg (5 * (12 * a + p) + n) i))
                          rw [if_pos (hm_bI_ne.mp c100)]
                          exact hT
                        exact J110 _ _ hR hQ hT3
                      · have hlI := sp_layI_len sg (sg 8 (sp_e a u n)) (5 * (12 * a + p) + n) (sp_layL sg (12 * a + p) n) i
                        refine hr_aload_n X dX5_collectThrees_103 rfl (Or.inr ⟨_, rfl⟩) ?_
                        refine hr_iload_n X dX5_collectThrees_104 rfl ?_
                        refine hr_iload X dX5_collectThrees_105 rfl ?_
                        refine hr_callV X kC5_384 dX5_collectThrees_107 (c_X5_collectThree cA hR p hp (sp_layI sg (sg 8 (sp_e a u n)) (5 * (12 * a + p) + n) (sp_layL sg (12 * a + p) n) i) hT (by omega) (sp_pt sg (5 * (12 * a + p) + n) i)) hR.c0 rfl rfl rfl rfl (Nat.le_of_ble_eq_true rfl) ⟨⟨(Nat.le_of_ble_eq_true rfl), (Nat.le_of_ble_eq_true rfl)⟩, (Nat.le_of_ble_eq_true rfl), (Nat.le_of_ble_eq_true rfl)⟩ (fun v M107 hp107 => ?_)
                        obtain ⟨rfl, ta1, hR, hT1, hQ1⟩ := hp107
                        have hQ := hQ.tr hQ1
                        have hT3 : cr_T ta1 p (sp_layI sg (sg 8 (sp_e a u n)) (5 * (12 * a + p) + n) (sp_layL sg (12 * a + p) n) (i + 1)) := by
                          show cr_T ta1 p (if sp_inR (sg 8 (sp_e a u n)) (sp_pt sg (5 * (12 * a + p) + n) i) = true then (sp_layI sg (sg 8 (sp_e a u n)) (5 * (12 * a + p) + n) (sp_layL sg (12 * a + p) n) i) else sp_ad (sp_layI sg (sg 8 (sp_e a u n)) (5 * (12 * a + p) + n) (sp_layL sg (12 * a + p) n) i) (sp_pt sg (5 * (12 * a + p) + n) i))
                          rw [hm_bI_eq.mp c100]
                          exact hT1
                        exact J110 _ _ hR hQ hT3
                exact lp69 (wc + 1) 0 _ _ _ hR hQ hT (by omega) (by omega)
      exact lp21 6 0 _ _ _ _ _ _ hR hQ hT (by decide) (by decide)
    · have hL := sl_ix_prs.2 (hm_bI_eq.mp c15)
      exact hr_vret X dX5_collectThrees_18 (Nat.le_of_ble_eq_true rfl) (Nat.le_of_ble_eq_true rfl) ⟨rfl, _, hR, by rw [hL]; exact hT, hQ⟩
set_option maxHeartbeats 4000000 in
set_option maxRecDepth 100000 in
theorem c_X5_pairsAnew (cA : Nat → ClassId) {sg ta0 : mm_S} {ad : Nat → Nat → Nat} {M0 M : hm_M} (hR : cr_R cA sg ta0 ad M0 M) (hI : sp_I sg) (hok : cr_ok sg ta0) (s : Int32) : hm_XMet cA yX5_pairsAnew cX5_pairsAnew 6 (some .int) r_X5_pairsAnew [.ref (ad 0 0), .int s] M (fun v' M' => sp_isS sg s = true ∧ v' = some (.int (sp_prN sg (nN s) 144)) ∧ ∃ ta' : mm_S, cr_R cA sg ta' ad M0 M' ∧ ∀ j, j ≠ 6 → j ≠ 7 → ta' j = ta0 j) (fun E M' => sp_isS sg s = false ∧ E = "java/lang/IndexOutOfBoundsException" ∧ M = M') := by
  refine hm_xmet 4 (by decide +kernel) (fun w h => by simp only [List.mem_cons, List.not_mem_nil, or_false] at h; rcases h with rfl | rfl <;> rfl) rfl (fun C X XE => ?_)
  show hm_W C 0 0 _ M 0 [some (.ref (ad 0 0)), some (.int s), none, none, none, none] []
  refine hr_aload_n X dX5_pairsAnew_0 rfl (Or.inr ⟨_, rfl⟩) ?_
  refine hr_iload_n X dX5_pairsAnew_1 rfl ?_
  refine hr_callVX X XE kC5_49 dX5_pairsAnew_2 (c_X5_sheetAt cA hR hI s) hR.c0 rfl rfl rfl rfl (Nat.le_of_ble_eq_true rfl) ⟨⟨(Nat.le_of_ble_eq_true rfl), (Nat.le_of_ble_eq_true rfl)⟩, (Nat.le_of_ble_eq_true rfl), (Nat.le_of_ble_eq_true rfl)⟩ (Nat.le_of_ble_eq_true rfl) (Nat.le_of_ble_eq_true rfl) (fun _ _ h => ⟨h.1, h.2⟩) (fun v M2 hp2 => ?_)
  obtain ⟨⟨a, ha, hs, rfl, rfl⟩, rfl⟩ := hp2
  obtain ⟨ha1, ha4⟩ := cr_isS_4 hI hs
  have hS1 : sp_isS sg (nI a) = true := by rw [← cr_isS_nat hI ha]; exact hs
  refine hr_astore_n X dX5_pairsAnew_5 (Nat.le_of_ble_eq_true rfl) (Or.inr ⟨_, rfl⟩) ?_
  refine hr_iconst (0) X dX5_pairsAnew_6 (by decide) ?_
  refine hr_istore_n X dX5_pairsAnew_7 (Nat.le_of_ble_eq_true rfl) ?_
  have lp8 : ∀ (f : Nat) (p : Nat) (M9 : hm_M) (ta : mm_S), cr_R cA sg ta ad M0 M9 → (∀ j, j ≠ 6 → j ≠ 7 → ta j = ta0 j) → (∀ p1, p1 < p → cr_T ta p1 (sp_prs sg (12 * a + p1))) → p ≤ 12 → 12 < p + f → hm_W C (0 + r_X5_sheetAt.cells) (0 + r_X5_sheetAt.slots) (hm_TX C (fun v' M' => sp_isS sg (nI a) = true ∧ v' = some (.int (sp_prN sg (nN (nI a)) 144)) ∧ ∃ ta' : mm_S, cr_R cA sg ta' ad M0 M' ∧ ∀ j, j ≠ 6 → j ≠ 7 → ta' j = ta0 j) (fun E M' => sp_isS sg (nI a) = false ∧ E = "java/lang/IndexOutOfBoundsException" ∧ M = M') r_X5_pairsAnew.cells r_X5_pairsAnew.slots) M9 8 [some (.ref (ad 0 0)), some (.int (nI a)), some (.ref (ad 8 a)), some (.int (nI p)), none, none] [] := by
    intro f
    induction f with
    | zero => intro p M9 ta hR hQ hTT h1 h2; exact absurd h2 (by omega)
    | succ f ih =>
      intro p M9 ta hR hQ hTT h1 h2
      refine hr_iload_n X dX5_pairsAnew_8 rfl ?_
      refine hr_bipush (12) X dX5_pairsAnew_9 (by decide) ?_
      refine hr_icmp_ge 31 X dX5_pairsAnew_11 (by decide) (fun c11 => ?_) (fun c11 => ?_)
      · have hz : p = 12 := by have := (nI_leI (a := 12) (by decide) (by omega)).mp c11; omega
        subst hz
        refine hr_iconst (0) X dX5_pairsAnew_31 (by decide) ?_
        refine hr_istore_n X dX5_pairsAnew_32 (Nat.le_of_ble_eq_true rfl) ?_
        refine hr_iconst (0) X dX5_pairsAnew_33 (by decide) ?_
        refine hr_istore X dX5_pairsAnew_34 (Nat.le_of_ble_eq_true rfl) ?_
        have lp36 : ∀ (f : Nat) (l : Nat) (y5 : Option Value), 12 < l + f → l ≤ 12 → hm_W C (0 + r_X5_sheetAt.cells) (0 + r_X5_sheetAt.slots) (hm_TX C (fun v' M' => sp_isS sg (nI a) = true ∧ v' = some (.int (sp_prN sg (nN (nI a)) 144)) ∧ ∃ ta' : mm_S, cr_R cA sg ta' ad M0 M' ∧ ∀ j, j ≠ 6 → j ≠ 7 → ta' j = ta0 j) (fun E M' => sp_isS sg (nI a) = false ∧ E = "java/lang/IndexOutOfBoundsException" ∧ M = M') r_X5_pairsAnew.cells r_X5_pairsAnew.slots) M9 36 [some (.ref (ad 0 0)), some (.int (nI a)), some (.ref (ad 8 a)), some (.int (sp_prN sg a (12 * l))), some (.int (nI l)), y5] [] := by
          intro f
          induction f with
          | zero => intro l y5 h1 h2; exact absurd h1 (by omega)
          | succ f ih36 =>
            intro l y5 h1 h2
            refine hr_iload X dX5_pairsAnew_36 rfl ?_
            refine hr_bipush (12) X dX5_pairsAnew_38 (by decide) ?_
            refine hr_icmp_ge 99 X dX5_pairsAnew_40 (by decide) (fun c40 => ?_) (fun c40 => ?_)
            · have hz : l = 12 := by have := (nI_leI (a := 12) (by decide) (by omega)).mp c40; omega
              subst hz
              refine hr_iload_n X dX5_pairsAnew_99 rfl ?_
              exact hr_iretX X dX5_pairsAnew_100 (Nat.le_of_ble_eq_true rfl) (Nat.le_of_ble_eq_true rfl) ⟨hS1, by rw [show nN (nI a) = a from nI_clamp (by omega)], _, hR, hQ⟩
            · have hl : l < 12 := by
                rcases Nat.lt_or_ge l 12 with q | q
                · exact q
                · exact absurd (nI_le (by omega) (by omega)) c40
              refine hr_iload X dX5_pairsAnew_43 rfl ?_
              refine hr_iconst (1) X dX5_pairsAnew_45 (by decide) ?_
              refine hr_iadd X dX5_pairsAnew_46 ?_
              refine hr_istore X dX5_pairsAnew_47 (Nat.le_of_ble_eq_true rfl) ?_
              have lp49 : ∀ (f : Nat) (o : Nat), 12 < o + f → l < o → o ≤ 12 → hm_W C (0 + r_X5_sheetAt.cells) (0 + r_X5_sheetAt.slots) (hm_TX C (fun v' M' => sp_isS sg (nI a) = true ∧ v' = some (.int (sp_prN sg (nN (nI a)) 144)) ∧ ∃ ta' : mm_S, cr_R cA sg ta' ad M0 M' ∧ ∀ j, j ≠ 6 → j ≠ 7 → ta' j = ta0 j) (fun E M' => sp_isS sg (nI a) = false ∧ E = "java/lang/IndexOutOfBoundsException" ∧ M = M') r_X5_pairsAnew.cells r_X5_pairsAnew.slots) M9 49 [some (.ref (ad 0 0)), some (.int (nI a)), some (.ref (ad 8 a)), some (.int (sp_prN sg a (12 * l + o))), some (.int (nI l)), some (.int (nI o))] [] := by
                intro f
                induction f with
                | zero => intro o g1 g2 g3; exact absurd g1 (by omega)
                | succ f ih49 =>
                  intro o g1 g2 g3
                  refine hr_iload X dX5_pairsAnew_49 rfl ?_
                  refine hr_bipush (12) X dX5_pairsAnew_51 (by decide) ?_
                  refine hr_icmp_ge 93 X dX5_pairsAnew_53 (by decide) (fun c53 => ?_) (fun c53 => ?_)
                  · have ho : o = 12 := by have := (nI_leI (a := 12) (by decide) (by omega)).mp c53; omega
                    subst ho
                    rw [show 12 * l + 12 = 12 * (l + 1) by omega]
                    refine hr_iinc (1) X dX5_pairsAnew_93 rfl (by decide) ?_
                    refine hr_goto 36 X dX5_pairsAnew_96 (by decide) ?_
                    rw [nI_1]
                    exact ih36 (l + 1) _ (by omega) (by omega)
                  · have ho : o < 12 := by
                      rcases Nat.lt_or_ge o 12 with q | q
                      · exact q
                      · exact absurd (nI_le (by omega) (by omega)) c53
                    refine hr_aload_n X dX5_pairsAnew_56 rfl (Or.inr ⟨_, rfl⟩) ?_
                    refine hr_iload X dX5_pairsAnew_57 rfl ?_
                    refine hr_iload X dX5_pairsAnew_59 rfl ?_
                    refine hr_callV X kC5_258 dX5_pairsAnew_61 (c_X5_commonThrees cA hR l o hl ho _ _ (hTT l hl) (hTT o ho) (sp_prs_len hI (by omega)) (sp_prs_len hI (by omega))) hR.c0 rfl rfl rfl rfl (Nat.le_of_ble_eq_true rfl) ⟨⟨(Nat.le_of_ble_eq_true rfl), (Nat.le_of_ble_eq_true rfl)⟩, (Nat.le_of_ble_eq_true rfl), (Nat.le_of_ble_eq_true rfl)⟩ (fun v M61 hp => ?_)
                    obtain ⟨rfl, rfl⟩ := hp
                    refine hr_aload_n X dX5_pairsAnew_64 rfl (Or.inr ⟨_, rfl⟩) ?_
                    refine hr_get X kF5_34 dX5_pairsAnew_65 hR.c0 rfl ?_
                    refine hr_iload X dX5_pairsAnew_68 rfl ?_
                    refine hr_iald X dX5_pairsAnew_70 hR.c6 (mm_in rfl (by omega) (by decide)).1 ?_
                    rw [nI_clamp (by omega), (hTT l (by omega)).1]
                    refine hr_aload_n X dX5_pairsAnew_71 rfl (Or.inr ⟨_, rfl⟩) ?_
                    refine hr_get X kF5_34 dX5_pairsAnew_72 hR.c0 rfl ?_
                    refine hr_iload X dX5_pairsAnew_75 rfl ?_
                    refine hr_iald X dX5_pairsAnew_77 hR.c6 (mm_in rfl (by omega) (by decide)).1 ?_
                    rw [nI_clamp (by omega), (hTT o (by omega)).1]
                    refine hr_callS X kC5_261 dX5_pairsAnew_78 (c_X5_isPairBy cA (M := _) _ _ _) rfl rfl rfl (Nat.le_of_ble_eq_true rfl) ⟨⟨(Nat.le_of_ble_eq_true rfl), (Nat.le_of_ble_eq_true rfl)⟩, (Nat.le_of_ble_eq_true rfl), (Nat.le_of_ble_eq_true rfl)⟩ (fun v M78 hp => ?_)
                    obtain ⟨rfl, rfl⟩ := hp
                    rw [← cr_lk2 hI (k1 := 12 * a + l) (k2 := 12 * a + o) (by omega) (by omega)]
                    have J87 : hm_W C (0 + r_X5_sheetAt.cells) (0 + r_X5_sheetAt.slots) (hm_TX C (fun v' M' => sp_isS sg (nI a) = true ∧ v' = some (.int (sp_prN sg (nN (nI a)) 144)) ∧ ∃ ta' : mm_S, cr_R cA sg ta' ad M0 M' ∧ ∀ j, j ≠ 6 → j ≠ 7 → ta' j = ta0 j) (fun E M' => sp_isS sg (nI a) = false ∧ E = "java/lang/IndexOutOfBoundsException" ∧ M = M') r_X5_pairsAnew.cells r_X5_pairsAnew.slots) M9 87 [some (.ref (ad 0 0)), some (.int (nI a)), some (.ref (ad 8 a)), some (.int (sp_prN sg a (12 * l + (o + 1)))), some (.int (nI l)), some (.int (nI o))] [] := by
                      refine hr_iinc (1) X dX5_pairsAnew_87 rfl (by decide) ?_
                      refine hr_goto 49 X dX5_pairsAnew_90 (by decide) ?_
                      rw [nI_1]
                      exact ih49 (o + 1) (by omega) (by omega) (by omega)
                    refine hr_if_eq 87 X dX5_pairsAnew_81 (by decide) (fun c81 => ?_) (fun c81 => ?_)
                    · have hz : sp_prN sg a (12 * l + (o + 1)) = sp_prN sg a (12 * l + o) := sp_prN_n (k := 12 * l + o) ((sp_pk_is g2 ho).trans (hm_bI_eq.mp c81))
                      exact hl_loc (by rw [hz] <;> rfl) J87
                    · have hz : sp_prN sg a (12 * l + (o + 1)) = sp_prN sg a (12 * l + o) + 1 := sp_prN_y (k := 12 * l + o) ((sp_pk_is g2 ho).trans (hm_bI_ne.mp c81))
                      refine hr_iinc (1) X dX5_pairsAnew_84 rfl (by decide) ?_
                      exact hl_loc (by rw [hz] <;> rfl) J87
              have z := lp49 13 (l + 1) (by omega) (by omega) (by omega)
              rw [sp_prN_sk hl (l + 1) (Nat.le_refl _), ← nI_1] at z
              exact z
        exact lp36 13 0 _ (by decide) (by decide)
      · have hn : p < 12 := by
          rcases Nat.lt_or_ge p 12 with q | q
          · exact q
          · exact absurd (nI_le (by omega) (by omega)) c11
        refine hr_aload_n X dX5_pairsAnew_14 rfl (Or.inr ⟨_, rfl⟩) ?_
        refine hr_aload_n X dX5_pairsAnew_15 rfl (Or.inr ⟨_, rfl⟩) ?_
        refine hr_get X kF5_160 dX5_pairsAnew_16 (hR.c8 hs) rfl ?_
        refine hr_iload_n X dX5_pairsAnew_19 rfl ?_
        refine hr_aald 6 X rfl dX5_pairsAnew_20 (hR.c12 hs) (mm_in rfl (by omega) (by decide)).1 ?_
        rw [nI_clamp (by omega)]
        refine hr_iload_n X dX5_pairsAnew_21 rfl ?_
        refine hr_callV X kC5_254 dX5_pairsAnew_22 (c_X5_collectThrees cA hR hI (hok.congr (fun j _ h6 h7 => hQ j h6 h7)) a p ha1 hn) hR.c0 rfl rfl rfl rfl (Nat.le_of_ble_eq_true rfl) ⟨⟨(Nat.le_of_ble_eq_true rfl), (Nat.le_of_ble_eq_true rfl)⟩, (Nat.le_of_ble_eq_true rfl), (Nat.le_of_ble_eq_true rfl)⟩ (fun v M22 hp22 => ?_)
        obtain ⟨rfl, ta1, hR, hT1, hQ1⟩ := hp22
        have hTT : ∀ p1, p1 < p + 1 → cr_T ta1 p1 (sp_prs sg (12 * a + p1)) := fun p1 q1 => by
          by_cases z : p1 = p
          · rw [z]; exact hT1
          · exact hQ1.T (by omega) z (sp_prs_len hI (by omega)) (hTT p1 (by omega))
        have hQ : ∀ j, j ≠ 6 → j ≠ 7 → ta1 j = ta0 j := fun j h6 h7 => (hQ1.1 j h6 h7).trans (hQ j h6 h7)
        refine hr_iinc (1) X dX5_pairsAnew_25 rfl (by decide) ?_
        refine hr_goto 8 X dX5_pairsAnew_28 (by decide) ?_
        rw [nI_1]
        exact ih (p + 1) _ _ hR hQ hTT (by omega) (by omega)
  exact lp8 13 0 _ _ hR (fun _ _ _ => rfl) (fun p1 q => absurd q (Nat.not_lt_zero p1)) (by decide) (by decide)
