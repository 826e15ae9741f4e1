/-! an answer's fingerprints: a rising row -/
def ca_P (l : List Int32) (pf : Nat → Int32) : Prop := l.Pairwise (fun a b => a < b) ∧ l.length ≤ 50 ∧ ∀ i x, l[i]? = some x → pf i = x
theorem ca_P.at {l : List Int32} {pf : Nat → Int32} (h : ca_P l pf) {i : Nat} (hi : i < l.length) : pf i = l[i] := h.2.2 i _ (List.getElem?_eq_getElem hi)
theorem ca_P.lt {l : List Int32} {pf : Nat → Int32} (h : ca_P l pf) {i j : Nat} (hij : i < j) (hj : j < l.length) : pf i < pf j := by
  rw [h.at hj, h.at (Nat.lt_trans hij hj)]
  exact List.pairwise_iff_getElem.mp h.1 i j _ hj hij
theorem ca_mem {l : List Int32} {pf : Nat → Int32} (h : ca_P l pf) {x : Int32} {r : Nat} (h1 : r ≤ l.length) (h2 : ∀ i, i < r → pf i < x) (h3 : r < l.length → ¬ pf r < x) : x ∈ l ↔ r < l.length ∧ pf r = x := by
  constructor
  · intro hx
    obtain ⟨i, hi, rfl⟩ := List.mem_iff_getElem.mp hx
    have e := h.at hi
    have hir : r ≤ i := by
      rcases Nat.lt_or_ge i r with q | q
      · have := h2 i q
        rw [e] at this
        exact absurd this Int32.lt_irrefl
      · exact q
    have hr : r < l.length := Nat.lt_of_le_of_lt hir hi
    refine ⟨hr, ?_⟩
    rcases Nat.lt_or_ge r i with q | q
    · have := h.lt q hi
      rw [e] at this
      exact absurd this (h3 hr)
    · rw [show r = i by omega, e]
  · rintro ⟨hr, rfl⟩
    rw [h.at hr]
    exact List.getElem_mem hr
/-- how many are in both -/
def ca_cm (l1 l2 : List Int32) : Nat := (l1.filter (fun x => decide (x ∈ l2))).length
theorem ca_cm_n1 (l : List Int32) : ca_cm [] l = 0 := rfl
theorem ca_cm_n2 (l : List Int32) : ca_cm l [] = 0 := by simp [ca_cm]
theorem ca_cm_in {a : Int32} {t l : List Int32} (h : a ∈ l) : ca_cm (a :: t) l = ca_cm t l + 1 := by simp [ca_cm, h]
theorem ca_cm_out {a : Int32} {t l : List Int32} (h : a ∉ l) : ca_cm (a :: t) l = ca_cm t l := by simp [ca_cm, h]
theorem ca_cm_congr {t l1 l2 : List Int32} (h : ∀ x, x ∈ t → (x ∈ l1 ↔ x ∈ l2)) : ca_cm t l1 = ca_cm t l2 := by
  unfold ca_cm
  rw [show t.filter (fun z => decide (z ∈ l1)) = t.filter (fun z => decide (z ∈ l2)) from List.filter_congr (fun z hz => decide_eq_decide.mpr (h z hz))]
theorem ca_cm_gt {b : Int32} {t1 t2 : List Int32} (h : ∀ x, x ∈ t1 → b < x) : ca_cm t1 (b :: t2) = ca_cm t1 t2 := ca_cm_congr (fun x hx => by
  constructor
  · intro q
    rcases List.mem_cons.mp q with rfl | q
    · exact absurd (h _ hx) Int32.lt_irrefl
    · exact q
  · exact fun q => List.mem_cons_of_mem _ q)
theorem ca_hd {l : List Int32} {pf : Nat → Int32} (h : ca_P l pf) {i : Nat} (hi : i < l.length) : l.drop i = pf i :: l.drop (i + 1) ∧ (∀ x, x ∈ l.drop (i + 1) → pf i < x) := by
  rw [h.at hi]
  refine ⟨sl_dropC hi, fun x hx => ?_⟩
  have h2 : (l.drop i).Pairwise (fun a b => a < b) := h.1.sublist (List.drop_sublist i l)
  rw [sl_dropC hi] at h2
  exact (List.pairwise_cons.mp h2).1 x hx
theorem ca_st_eq {l1 l2 : List Int32} {f1 f2 : Nat → Int32} (h1 : ca_P l1 f1) (h2 : ca_P l2 f2) {i j : Nat} (hi : i < l1.length) (hj : j < l2.length) (e : f1 i = f2 j) : ca_cm (l1.drop i) (l2.drop j) = ca_cm (l1.drop (i + 1)) (l2.drop (j + 1)) + 1 := by
  obtain ⟨e1, g1⟩ := ca_hd h1 hi
  obtain ⟨e2, g2⟩ := ca_hd h2 hj
  rw [e1, e2, ← e, ca_cm_in List.mem_cons_self, ca_cm_gt g1]
theorem ca_st_lt {l1 l2 : List Int32} {f1 f2 : Nat → Int32} (h1 : ca_P l1 f1) (h2 : ca_P l2 f2) {i j : Nat} (hi : i < l1.length) (hj : j < l2.length) (e : f1 i < f2 j) : ca_cm (l1.drop i) (l2.drop j) = ca_cm (l1.drop (i + 1)) (l2.drop j) := by
  obtain ⟨e1, g1⟩ := ca_hd h1 hi
  obtain ⟨e2, g2⟩ := ca_hd h2 hj
  rw [e1, ca_cm_out]
  rw [e2]
  intro q
  rcases List.mem_cons.mp q with q | q
  · rw [q] at e; exact Int32.lt_irrefl e
  · exact Int32.lt_irrefl (Int32.lt_trans e (g2 _ q))
theorem ca_st_gt {l1 l2 : List Int32} {f1 f2 : Nat → Int32} (h1 : ca_P l1 f1) (h2 : ca_P l2 f2) {i j : Nat} (hi : i < l1.length) (hj : j < l2.length) (e : f2 j < f1 i) : ca_cm (l1.drop i) (l2.drop j) = ca_cm (l1.drop i) (l2.drop (j + 1)) := by
  obtain ⟨e1, g1⟩ := ca_hd h1 hi
  obtain ⟨e2, g2⟩ := ca_hd h2 hj
  rw [e2, ca_cm_gt]
  rw [e1]
  intro x hx
  rcases List.mem_cons.mp hx with rfl | hx
  · exact e
  · exact Int32.lt_trans e (g1 _ hx)
set_option maxHeartbeats 4000000 in
set_option maxRecDepth 100000 in
theorem c_X0_placeOf (cA : Nat → ClassId) {M : hm_M} {b p : Nat} {v0 v1 v2 v3 v4 v5 : Value} {l : List Int32} {pf : Nat → Int32} (hA : M b = some (.inr (0, [v0, v1, v2, v3, v4, v5, .ref p, .int (nI l.length)]))) (hP : M p = some (.inl (cA 0, 50, .inl pf))) (hl : ca_P l pf) (x : Int32) : hm_Met cA yX0_placeOf cX0_placeOf 3 (some .int) r_X0_placeOf [.ref b, .int x] M (fun v' M' => (∃ r, v' = some (.int (nI r)) ∧ r ≤ l.length ∧ (∀ i, i < r → pf i < x) ∧ (r < l.length → ¬ pf r < x)) ∧ M = M') := by
  refine hm_met 1 (by decide +kernel) (fun w h => by simp only [List.mem_cons, List.not_mem_nil, or_false] at h; rcases h with rfl | rfl <;> rfl) rfl (fun C X => ?_)
  show hm_W C 0 0 _ M 0 [some (.ref b), some (.int x), none] []
  have l50 := hl.2.1
  refine hr_iconst (0) X dX0_placeOf_0 (by decide) ?_
  refine hr_istore_n X dX0_placeOf_1 (Nat.le_of_ble_eq_true rfl) ?_
  have lp2 : ∀ (f : Nat) (n : Nat), n ≤ l.length → (∀ i, i < n → pf i < x) → l.length < n + f → hm_W C 0 0 (hm_T C (fun v' M' => (∃ r, v' = some (.int (nI r)) ∧ r ≤ l.length ∧ (∀ i, i < r → pf i < x) ∧ (r < l.length → ¬ pf r < x)) ∧ M = M') r_X0_placeOf.cells r_X0_placeOf.slots) M 2 [some (.ref b), some (.int x), some (.int (nI n))] [] := by
    intro f
    induction f with
    | zero => intro n h1 h2 h3; exact absurd h3 (by omega)
    | succ f ih =>
      intro n h1 h2 h3
      refine hr_iload_n X dX0_placeOf_2 rfl ?_
      refine hr_aload_n X dX0_placeOf_3 rfl (Or.inr ⟨_, rfl⟩) ?_
      refine hr_get X kF0_35 dX0_placeOf_4 hA rfl ?_
      refine hr_icmp_ge 26 X dX0_placeOf_7 (by decide) (fun c7 => ?_) (fun c7 => ?_)
      · have hn : n = l.length := by have := (nI_leI (by omega) (by omega)).mp c7; omega
        have hf : n < l.length → ¬ pf n < x := fun q => by omega
        refine hr_iload_n X dX0_placeOf_26 rfl ?_
        exact hr_iret X dX0_placeOf_27 (Nat.le_of_ble_eq_true rfl) (Nat.le_of_ble_eq_true rfl) ⟨⟨n, rfl, h1, h2, hf⟩, rfl⟩
      · have hn : n < l.length := by
          rcases Nat.lt_or_ge n l.length with q | q
          · exact q
          · exact absurd (nI_le (by omega) (by omega)) c7
        refine hr_aload_n X dX0_placeOf_10 rfl (Or.inr ⟨_, rfl⟩) ?_
        refine hr_get X kF0_31 dX0_placeOf_11 hA rfl ?_
        refine hr_iload_n X dX0_placeOf_14 rfl ?_
        refine hr_iald X dX0_placeOf_15 hP (mm_in rfl (by omega) (by decide)).1 ?_
        rw [nI_clamp (by omega)]
        refine hr_iload_n X dX0_placeOf_16 rfl ?_
        refine hr_icmp_ge 26 X dX0_placeOf_17 (by decide) (fun c17 => ?_) (fun c17 => ?_)
        · have hf : n < l.length → ¬ pf n < x := fun _ => Int32.not_lt.mpr c17
          refine hr_iload_n X dX0_placeOf_26 rfl ?_
          exact hr_iret X dX0_placeOf_27 (Nat.le_of_ble_eq_true rfl) (Nat.le_of_ble_eq_true rfl) ⟨⟨n, rfl, h1, h2, hf⟩, rfl⟩
        · refine hr_iinc (1) X dX0_placeOf_20 rfl (by decide) ?_
          refine hr_goto 2 X dX0_placeOf_23 (by decide) ?_
          rw [nI_1]
          exact ih (n + 1) (by omega) (fun i hi => by
            rcases Nat.lt_or_ge i n with q | q
            · exact h2 i q
            · rw [show i = n by omega]; exact Int32.not_le.mp c17) (by omega)
  exact lp2 (l.length + 1) 0 (Nat.zero_le _) (fun i hi => absurd hi (Nat.not_lt_zero i)) (by omega)
set_option maxHeartbeats 4000000 in
set_option maxRecDepth 100000 in
theorem c_X0_hasPrint (cA : Nat → ClassId) {M : hm_M} {b p : Nat} {v0 v1 v2 v3 v4 v5 : Value} {l : List Int32} {pf : Nat → Int32} (hA : M b = some (.inr (0, [v0, v1, v2, v3, v4, v5, .ref p, .int (nI l.length)]))) (hP : M p = some (.inl (cA 0, 50, .inl pf))) (hl : ca_P l pf) (x : Int32) : hm_Met cA yX0_hasPrint cX0_hasPrint 3 (some .boolean) r_X0_hasPrint [.ref b, .int x] M (hm_pu (some (.int (hm_bI (decide (x ∈ l))))) M) := by
  refine hm_met 1 (by decide +kernel) (fun w h => by simp only [List.mem_cons, List.not_mem_nil, or_false] at h; rcases h with rfl | rfl <;> rfl) rfl (fun C X => ?_)
  show hm_W C 0 0 _ M 0 [some (.ref b), some (.int x), none] []
  have l50 := hl.2.1
  refine hr_aload_n X dX0_hasPrint_0 rfl (Or.inr ⟨_, rfl⟩) ?_
  refine hr_iload_n X dX0_hasPrint_1 rfl ?_
  refine hr_callV X kC0_82 dX0_hasPrint_2 (c_X0_placeOf cA hA hP hl x) hA rfl rfl rfl rfl (Nat.le_of_ble_eq_true rfl) ⟨⟨(Nat.le_of_ble_eq_true rfl), (Nat.le_of_ble_eq_true rfl)⟩, (Nat.le_of_ble_eq_true rfl), (Nat.le_of_ble_eq_true rfl)⟩ (fun v M2 hp2 => ?_)
  obtain ⟨⟨r, rfl, h1, h2, h3⟩, rfl⟩ := hp2
  have hm := ca_mem hl h1 h2 h3
  refine hr_istore_n X dX0_hasPrint_5 (Nat.le_of_ble_eq_true rfl) ?_
  refine hr_iload_n X dX0_hasPrint_6 rfl ?_
  refine hr_aload_n X dX0_hasPrint_7 rfl (Or.inr ⟨_, rfl⟩) ?_
  refine hr_get X kF0_35 dX0_hasPrint_8 hA rfl ?_
  refine hr_icmp_ge 28 X dX0_hasPrint_11 (by decide) (fun c11 => ?_) (fun c11 => ?_)
  · have hz : decide (x ∈ l) = false := decide_eq_false (fun q => by have := (nI_leI (by omega) (by omega)).mp c11; have := (hm.mp q).1; omega)
    refine hr_iconst (0) X dX0_hasPrint_28 (by decide) ?_
    exact hr_zret X dX0_hasPrint_29 (by rfl) (Nat.le_of_ble_eq_true rfl) (Nat.le_of_ble_eq_true rfl) ⟨by rw [hz]; rfl, rfl⟩
  · have hn : r < l.length := by
      rcases Nat.lt_or_ge r l.length with q | q
      · exact q
      · exact absurd (nI_le (by omega) (by omega)) c11
    refine hr_aload_n X dX0_hasPrint_14 rfl (Or.inr ⟨_, rfl⟩) ?_
    refine hr_get X kF0_31 dX0_hasPrint_15 hA rfl ?_
    refine hr_iload_n X dX0_hasPrint_18 rfl ?_
    refine hr_iald X dX0_hasPrint_19 hP (mm_in rfl (by omega) (by decide)).1 ?_
    rw [nI_clamp (by omega)]
    refine hr_iload_n X dX0_hasPrint_20 rfl ?_
    refine hr_icmp_ne 28 X dX0_hasPrint_21 (by decide) (fun c21 => ?_) (fun c21 => ?_)
    · have hz : decide (x ∈ l) = false := decide_eq_false (fun q => c21 (hm.mp q).2)
      refine hr_iconst (0) X dX0_hasPrint_28 (by decide) ?_
      exact hr_zret X dX0_hasPrint_29 (by rfl) (Nat.le_of_ble_eq_true rfl) (Nat.le_of_ble_eq_true rfl) ⟨by rw [hz]; rfl, rfl⟩
    · have hz : decide (x ∈ l) = true := decide_eq_true (hm.mpr ⟨hn, c21⟩)
      refine hr_iconst (1) X dX0_hasPrint_24 (by decide) ?_
      refine hr_goto 29 X dX0_hasPrint_25 (by decide) ?_
      exact hr_zret X dX0_hasPrint_29 (by rfl) (Nat.le_of_ble_eq_true rfl) (Nat.le_of_ble_eq_true rfl) ⟨by rw [hz]; rfl, rfl⟩
set_option maxHeartbeats 4000000 in
set_option maxRecDepth 100000 in
theorem c_X0_commonPrints (cA : Nat → ClassId) {M : hm_M} {b1 p1 : Nat} {v01 v11 v21 v31 v41 v51 : Value} {l1 : List Int32} {f1 : Nat → Int32} (hA1 : M b1 = some (.inr (0, [v01, v11, v21, v31, v41, v51, .ref p1, .int (nI l1.length)]))) (hP1 : M p1 = some (.inl (cA 0, 50, .inl f1))) (hl1 : ca_P l1 f1) {b2 p2 : Nat} {v02 v12 v22 v32 v42 v52 : Value} {l2 : List Int32} {f2 : Nat → Int32} (hA2 : M b2 = some (.inr (0, [v02, v12, v22, v32, v42, v52, .ref p2, .int (nI l2.length)]))) (hP2 : M p2 = some (.inl (cA 0, 50, .inl f2))) (hl2 : ca_P l2 f2)  : hm_Met cA yX0_commonPrints cX0_commonPrints 4 (some .int) r_X0_commonPrints [.ref b1, .ref b2] M (hm_pu (some (.int (nI (ca_cm l1 l2)))) M) := by
  refine hm_met 2 (by decide +kernel) (fun w h => by simp only [List.mem_cons, List.not_mem_nil, or_false] at h; rcases h with rfl | rfl <;> rfl) rfl (fun C X => ?_)
  show hm_W C 0 0 _ M 0 [some (.ref b1), some (.ref b2), none, none] []
  have l50 := hl1.2.1
  have m50 := hl2.2.1
  refine hr_iconst (0) X dX0_commonPrints_0 (by decide) ?_
  refine hr_istore_n X dX0_commonPrints_1 (Nat.le_of_ble_eq_true rfl) ?_
  refine hr_iconst (0) X dX0_commonPrints_2 (by decide) ?_
  refine hr_istore_n X dX0_commonPrints_3 (Nat.le_of_ble_eq_true rfl) ?_
  have lp4 : ∀ (f : Nat) (c i : Nat), i ≤ l1.length → c + ca_cm (l1.drop i) l2 = ca_cm l1 l2 → l1.length < i + f → hm_W C 0 0 (hm_T C (hm_pu (some (.int (nI (ca_cm l1 l2)))) M) r_X0_commonPrints.cells r_X0_commonPrints.slots) M 4 [some (.ref b1), some (.ref b2), some (.int (nI c)), some (.int (nI i))] [] := by
    intro f
    induction f with
    | zero => intro c i h1 h4 h5; exact absurd h5 (by omega)
    | succ f ih =>
      intro c i h1 h4 h5
      refine hr_iload_n X dX0_commonPrints_4 rfl ?_
      refine hr_aload_n X dX0_commonPrints_5 rfl (Or.inr ⟨_, rfl⟩) ?_
      refine hr_get X kF0_35 dX0_commonPrints_6 hA1 rfl ?_
      refine hr_icmp_ge 34 X dX0_commonPrints_9 (by decide) (fun c9 => ?_) (fun c9 => ?_)
      · have hi : i = l1.length := by have := (nI_leI (by omega) (by omega)).mp c9; omega
        have hz : ca_cm l1 l2 = c := by rw [hi, List.drop_length, ca_cm_n1] at h4; omega
        refine hr_iload_n X dX0_commonPrints_34 rfl ?_
        exact hr_iret X dX0_commonPrints_35 (Nat.le_of_ble_eq_true rfl) (Nat.le_of_ble_eq_true rfl) ⟨by rw [hz], rfl⟩
      · have hi : i < l1.length := by
          rcases Nat.lt_or_ge i l1.length with q | q
          · exact q
          · exact absurd (nI_le (by omega) (by omega)) c9
        obtain ⟨e1, g1⟩ := ca_hd hl1 hi
        rw [e1] at h4
        have hk : ca_cm (l1.drop (i + 1)) l2 ≤ l1.length := Nat.le_trans (List.length_filter_le _ _) (by rw [List.length_drop]; omega)
        refine hr_aload_n X dX0_commonPrints_12 rfl (Or.inr ⟨_, rfl⟩) ?_
        refine hr_aload_n X dX0_commonPrints_13 rfl (Or.inr ⟨_, rfl⟩) ?_
        refine hr_get X kF0_31 dX0_commonPrints_14 hA1 rfl ?_
        refine hr_iload_n X dX0_commonPrints_17 rfl ?_
        refine hr_iald X dX0_commonPrints_18 hP1 (mm_in rfl (by omega) (by decide)).1 ?_
        rw [nI_clamp (by omega)]
        refine hr_callV X kC0_85 dX0_commonPrints_19 (c_X0_hasPrint cA hA2 hP2 hl2 (f1 i)) hA2 rfl rfl rfl rfl (Nat.le_of_ble_eq_true rfl) ⟨⟨(Nat.le_of_ble_eq_true rfl), (Nat.le_of_ble_eq_true rfl)⟩, (Nat.le_of_ble_eq_true rfl), (Nat.le_of_ble_eq_true rfl)⟩ (fun v M19 hp => ?_)
        obtain ⟨rfl, rfl⟩ := hp
        have J28 : ∀ c : Nat, c + ca_cm (l1.drop (i + 1)) l2 = ca_cm l1 l2 → hm_W C 0 0 (hm_T C (hm_pu (some (.int (nI (ca_cm l1 l2)))) M) r_X0_commonPrints.cells r_X0_commonPrints.slots) M 28 [some (.ref b1), some (.ref b2), some (.int (nI c)), some (.int (nI i))] [] := by
          intro c h4
          refine hr_iinc (1) X dX0_commonPrints_28 rfl (by decide) ?_
          refine hr_goto 4 X dX0_commonPrints_31 (by decide) ?_
          rw [nI_1]
          exact ih c (i + 1) (by omega) h4 (by omega)
        refine hr_if_eq 28 X dX0_commonPrints_22 (by decide) (fun c22 => ?_) (fun c22 => ?_)
        · have hz : c + ca_cm (l1.drop (i + 1)) l2 = ca_cm l1 l2 := by
            rw [ca_cm_out (fun q => by rw [decide_eq_true q] at c22; cases c22)] at h4
            exact h4
          exact J28 _ hz
        · have hz : (c + 1) + ca_cm (l1.drop (i + 1)) l2 = ca_cm l1 l2 := by
            rw [ca_cm_in (of_decide_eq_true (hm_bI_ne.mp c22))] at h4
            omega
          refine hr_iinc (1) X dX0_commonPrints_25 rfl (by decide) ?_
          rw [nI_1]
          exact J28 _ hz
  exact lp4 (l1.length + 1) 0 0 (Nat.zero_le _) (by rw [List.drop_zero, Nat.zero_add]) (by omega)
