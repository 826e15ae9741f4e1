/-! the grader of the system; due -/
/-- a row of the system's own numbers laid anew -/
def cr_tj (ta : mm_S) (j0 : Nat) (f : Nat → Int32) : mm_S := fun j => if j = j0 then f else ta j
theorem cr_tj_s {ta : mm_S} {j0 : Nat} {f : Nat → Int32} : cr_tj ta j0 f j0 = f := if_pos rfl
theorem cr_tj_n {ta : mm_S} {j0 j : Nat} {f : Nat → Int32} (h : j ≠ j0) : cr_tj ta j0 f j = ta j := if_neg h
def cr_dep : Nat → List Nat
  | 3 => [0] | 4 => [5] | 6 => [7] | 7 => [6] | 16 => [1, 2] | 18 => [3] | 19 => [8] | 20 => [4] | _ => []
theorem cr_cell_t {cA : Nat → ClassId} {sg ta ta' : mm_S} {ad : Nat → Nat → Nat} {q x : Nat} (h : ∀ j ∈ cr_dep q, ta' j = ta j) : cr_cell cA sg ta' ad q x = cr_cell cA sg ta ad q x := by
  unfold cr_cell
  split <;> first | rfl | rw [h 0 (by decide)] | rw [h 5 (by decide)] | rw [h 7 (by decide)] | rw [h 6 (by decide)] | rw [h 1 (by decide), h 2 (by decide)] | rw [h 3 (by decide)] | rw [h 8 (by decide)] | rw [h 4 (by decide)]
theorem cr_cell_0 {cA : Nat → ClassId} {sg ta : mm_S} {ad : Nat → Nat → Nat} {q x : Nat} (hq : q ≤ 6) (hx : x ≠ 0) : cr_cell cA sg ta ad q x = none := by
  have hd : decide (x = 0) = false := decide_eq_false hx
  rcases (show q = 0 ∨ q = 1 ∨ q = 2 ∨ q = 3 ∨ q = 4 ∨ q = 5 ∨ q = 6 by omega) with rfl | rfl | rfl | rfl | rfl | rfl | rfl <;> · show cr_ob (decide (x = 0)) _ = none; rw [hd]; rfl
def cr_own : Nat → Nat
  | 0 => 3 | 5 => 4 | 7 => 6 | 6 => 7 | 1 => 16 | 2 => 16 | 3 => 18 | 8 => 19 | 4 => 20 | _ => 99
theorem cr_own_of {q j : Nat} (h : j ∈ cr_dep q) : q = cr_own j := by
  unfold cr_dep at h
  split at h <;> simp at h <;> first | (rcases h with h | h <;> subst h <;> rfl) | (subst h; rfl)
theorem cr_dep_ne {q0 j0 : Nat} (h : j0 ∈ cr_dep q0) : ∀ q, q ≠ q0 → j0 ∉ cr_dep q := fun q hn hq => hn ((cr_own_of hq).trans (cr_own_of h).symm)
theorem cr_R.len {cA : Nat → ClassId} {sg ta : mm_S} {ad : Nat → Nat → Nat} {M0 M : hm_M} (h : cr_R cA sg ta ad M0 M) (g : Nat → Int32) : cr_R cA sg (cr_tj ta 5 g) ad M0 (hc_C cA M (ad 4 0) g) := by
  refine h.set (q0 := 4) (x0 := 0) (e0 := cr_iw cA 0 7 (ta 5)) rfl rfl (fun q x hq => ?_)
  by_cases h4 : q = 4
  · subst h4
    have hx : x ≠ 0 := fun z => hq ⟨rfl, z⟩
    rw [cr_cell_0 (by decide) hx, cr_cell_0 (by decide) hx]
  · exact cr_cell_t (fun j hj => cr_tj_n (fun z => cr_dep_ne (q0 := 4) (j0 := 5) (by decide) q h4 (by rw [← z]; exact hj)))
theorem cr_R.ne {cA : Nat → ClassId} {sg ta : mm_S} {ad : Nat → Nat → Nat} {M0 M : hm_M} (h : cr_R cA sg ta ad M0 M) {q x q' x' : Nat} {e e' : va_E} (h1 : cr_cell cA sg ta ad q x = some e) (h2 : cr_cell cA sg ta ad q' x' = some e') (hn : q ≠ q') : ad q x ≠ ad q' x' := fun z => hn (h.2.1 _ _ _ _ _ _ h1 h2 z).1
/-- what is kept does not rest on the rows to work in -/
theorem cr_ok.congr {sg ta ta' : mm_S} (h : ∀ j, j ≠ 5 → j ≠ 6 → j ≠ 7 → ta' j = ta j) (hok : cr_ok sg ta) : cr_ok sg ta' := by
  unfold cr_ok
  rw [h 0 (by decide) (by decide) (by decide), h 1 (by decide) (by decide) (by decide), h 2 (by decide) (by decide) (by decide), h 3 (by decide) (by decide) (by decide), h 8 (by decide) (by decide) (by decide), h 4 (by decide) (by decide) (by decide)]
  exact hok
/-- what was said, as both keep it -/
def cr_o2 (sg ta : mm_S) : Prop := (∀ j, j < 240 → ¬ sg 17 j = 0 → ta 8 j = sg 18 j) ∧ ∀ j i, j < 240 → i < 12 → nI i < sg 20 j → ta 4 (12 * j + i) = sg 21 (12 * j + i)
theorem cr_ok.o2 {sg ta : mm_S} (h : cr_ok sg ta) : cr_o2 sg ta := h.2.2.2
theorem cr_o2.congr {sg ta ta' : mm_S} (h : cr_o2 sg ta) (h8 : ta' 8 = ta 8) (h4 : ta' 4 = ta 4) : cr_o2 sg ta' := by
  unfold cr_o2
  rw [h8, h4]
  exact h
theorem sp_D_congr {r w w' : Nat → Int32} : ∀ i, (∀ q, q < i → w q = w' q) → sp_D r w i = sp_D r w' i
  | 0, _ => rfl
  | i + 1, h => by
    show sp_Dn r (w i) (sp_D r w i) = sp_Dn r (w' i) (sp_D r w' i)
    rw [h i (Nat.lt_succ_self i), sp_D_congr i (fun q hq => h q (Nat.lt_succ_of_lt hq))]
theorem cr_com {sg ta : mm_S} (hok : cr_o2 sg ta) {j wc : Nat} (hj : j < 240) (hw : sg 20 j = nI wc) (hwc : wc ≤ 12) (rule : Int32) : sp_D (sp_rw rule) (fun i => ta 4 (12 * j + i)) wc (sp_len rule) = sp_com sg rule j := by
  unfold sp_com
  rw [hw, show nN (nI wc) = wc from nI_clamp (by omega)]
  rw [sp_D_congr wc (fun q hq => hok.2 j q hj (by omega) (by rw [hw]; exact nI_lt hq (by omega)))]
theorem sl_bmod {x : Int} (h1 : -2147483648 ≤ x) (h2 : x < 2147483648) : x.bmod (2 ^ 32) = x := by
  rw [Int.bmod_def]
  omega
theorem sp_in_int {v lo hi : Int32} : sp_in v lo hi = true ↔ lo.toInt ≤ v.toInt ∧ v.toInt ≤ hi.toInt := by
  simp only [sp_in, Bool.and_eq_true, decide_eq_true_eq, Int32.le_iff_toInt_le]
/-- near enough, by the absolute and by both bounds -/
theorem sb_abs_in {n r s : Int32} (hn : sp_in n (-1000) 1000 = true) (hr : sp_in r (-1000) 1000 = true) (hs : sp_in s 0 100 = true) : sb_abs (n - r) ≤ s ↔ sp_in (n - r) (-s) s = true := by
  rw [sp_in_int] at hn hr hs ⊢
  rw [show (-1000 : Int32).toInt = -1000 from by decide, show (1000 : Int32).toInt = 1000 from by decide] at hn hr
  rw [show (0 : Int32).toInt = 0 from by decide, show (100 : Int32).toInt = 100 from by decide] at hs
  have e1 : (n - r).toInt = n.toInt - r.toInt := by rw [Int32.toInt_sub, sl_bmod (by omega) (by omega)]
  have e2 : (-s).toInt = -s.toInt := by rw [Int32.toInt_neg, sl_bmod (by omega) (by omega)]
  have e3 : ((0 : Int32) - (n - r)).toInt = -(n.toInt - r.toInt) := by
    rw [Int32.toInt_sub, e1, show (0 : Int32).toInt = 0 from by decide, sl_bmod (by omega) (by omega)]
    omega
  rw [e1, e2, Int32.le_iff_toInt_le]
  unfold sb_abs
  by_cases h : (0 : Int32) ≤ n - r
  · rw [if_pos h, e1]
    rw [Int32.le_iff_toInt_le, e1, show (0 : Int32).toInt = 0 from by decide] at h
    omega
  · rw [if_neg h, e3]
    rw [Int32.le_iff_toInt_le, e1, show (0 : Int32).toInt = 0 from by decide] at h
    omega
theorem cr_ear {sg ta : mm_S} (hI : sp_I sg) (hok : cr_o2 sg ta) {e j : Nat} (he : e < 320) (hj : j < 240) (h3 : ¬ sg 6 e = 3) (hk : sg 6 e = 0 ∨ sg 6 e = 1 ∨ sg 6 e = 2) {c : Int32} (hc : sg 6 e = 2 → c = nI (sp_com sg (sg 8 e) j)) : sb_ear (cr_kd sg e) (sg 7 e) (sg 8 e) (sg 9 e) (sg 17 j) (ta 8 j) (sg 19 j) c = sp_gain sg e j := by
  obtain ⟨i0, i1, i2⟩ := hI.i6 e he
  have j12 := (hI.i12 j hj).1
  unfold sb_ear sp_gain
  rw [show cr_kd sg e = sg 6 e from if_neg h3]
  rcases hk with h | h | h
  · rw [if_pos h, if_pos h]
    obtain ⟨-, hr, hs⟩ := i0 h
    by_cases q : sg 17 j = 0
    · rw [if_pos q, decide_eq_true q]
      rfl
    · rw [if_neg q, decide_eq_false q, hok.1 j hj q, Bool.not_false, Bool.true_and]
      by_cases z : sb_abs (sg 18 j - sg 8 e) ≤ sg 9 e
      · rw [if_pos z, if_pos ((sb_abs_in j12 hr hs).mp z)]
      · rw [if_neg z, if_neg (fun y => z ((sb_abs_in j12 hr hs).mpr y))]
  · rw [h]
    rfl
  · have h0 : ¬ sg 6 e = 0 := by rw [h]; decide
    have h1 : ¬ sg 6 e = 1 := by rw [h]; decide
    simp only [if_neg h0, if_neg h1, if_neg (sp_row_len0 (i2 h).2)]
    rw [hc h]
theorem cr_isK_h {sg : mm_S} {k : Nat} (hs : k / 12 < sp_n sg) (h : ¬ sg 13 k = 0) : cr_isK sg k = true := by
  unfold cr_isK
  rw [decide_eq_true hs, decide_eq_false h]
  rfl
set_option maxHeartbeats 4000000 in
set_option maxRecDepth 100000 in
theorem c_X5_grade (cA : Nat → ClassId) {sg ta0 : mm_S} {ad : Nat → Nat → Nat} {M0 M : hm_M} (hR : cr_R cA sg ta0 ad M0 M) (hI : sp_I sg) (hok : cr_o2 sg ta0) (k : Nat) (hk : k < 48) (hk0 : ¬ sg 13 k = 0) (anew : Bool) : hm_Met cA yX5_grade cX5_grade 7 (some .int) r_X5_grade [.ref (ad 0 0), .ref (ad 16 k), .int (hm_bI anew)] M (fun v' M' => v' = some (.int (sp_due sg k)) ∧ ∃ ta' : mm_S, cr_R cA sg ta' ad M0 M' ∧ ∀ j, j ≠ 5 → ta' j = ta0 j) := by
  refine hm_met 4 (by decide +kernel) (fun w h => by simp only [List.mem_cons, List.not_mem_nil, or_false] at h; rcases h with rfl | rfl | rfl <;> rfl) rfl (fun C X => ?_)
  show hm_W C 0 0 _ M 0 [some (.ref (ad 0 0)), some (.ref (ad 16 k)), some (.int (hm_bI anew)), none, none, none, none] []
  obtain ⟨hks, v, hv, hvt⟩ := sp_handed hI hk hk0
  have hv16 := hvt.1
  have hks4 := cr_n4 hI hks
  have hK := cr_isK_h hks hk0
  refine hr_iconst (0) X dX5_grade_0 (by decide) ?_
  refine hr_istore_n X dX5_grade_1 (Nat.le_of_ble_eq_true rfl) ?_
  refine hr_iconst (0) X dX5_grade_2 (by decide) ?_
  refine hr_istore X dX5_grade_3 (Nat.le_of_ble_eq_true rfl) ?_
  have lp5 : ∀ (f : Nat) (n : Nat) (y5 y6 : Option Value) (M : hm_M) (ta : mm_S), cr_R cA sg ta ad M0 M → (∀ j, j ≠ 5 → ta j = ta0 j) → n ≤ 5 → 5 < n + f → hm_W C 0 0 (hm_T C (fun v' M' => v' = some (.int (sp_due sg k)) ∧ ∃ ta' : mm_S, cr_R cA sg ta' ad M0 M' ∧ ∀ j, j ≠ 5 → ta' j = ta0 j) r_X5_grade.cells r_X5_grade.slots) M 5 [some (.ref (ad 0 0)), some (.ref (ad 16 k)), some (.int (hm_bI anew)), some (.int (sp_is (sp_dueT sg k) n)), some (.int (nI n)), y5, y6] [] := by
    intro f
    induction f with
    | zero => intro n y5 y6 M ta hR hta h1 h2; exact absurd h2 (by omega)
    | succ f ih =>
      intro n y5 y6 M ta hR hta h1 h2
      refine hr_iload X dX5_grade_5 rfl ?_
      refine hr_iconst (5) X dX5_grade_7 (by decide) ?_
      refine hr_icmp_ge 82 X dX5_grade_8 (by decide) (fun c8 => ?_) (fun c8 => ?_)
      · have hz : n = 5 := by have := (nI_leI (a := 5) (by decide) (by omega)).mp c8; omega
        subst hz
        refine hr_iload_n X dX5_grade_82 rfl ?_
        exact hr_iret X dX5_grade_83 (Nat.le_of_ble_eq_true rfl) (Nat.le_of_ble_eq_true rfl) ⟨rfl, _, hR, hta⟩
      · have hn : n < 5 := by
          rcases Nat.lt_or_ge n 5 with q | q
          · exact q
          · exact absurd (nI_le (by omega) (by omega)) c8
        refine hr_aload_n X dX5_grade_11 rfl (Or.inr ⟨_, rfl⟩) ?_
        refine hr_get X kF5_180 dX5_grade_12 (hR.c16 hK) rfl ?_
        rw [hv, show nN (nI v) = v from nI_clamp (by omega)]
        refine hr_iload X dX5_grade_15 rfl ?_
        refine hr_callS X kC5_80 dX5_grade_17 (c_X5_taskOf cA hR hI (k / 12) v n hks hvt hn) rfl rfl rfl (Nat.le_of_ble_eq_true rfl) ⟨⟨(Nat.le_of_ble_eq_true rfl), (Nat.le_of_ble_eq_true rfl)⟩, (Nat.le_of_ble_eq_true rfl), (Nat.le_of_ble_eq_true rfl)⟩ (fun v M17 hp => ?_)
        obtain ⟨rfl, rfl⟩ := hp
        refine hr_astore X dX5_grade_20 (Nat.le_of_ble_eq_true rfl) (hm_rf _) ?_
        refine hr_aload_n X dX5_grade_22 rfl (Or.inr ⟨_, rfl⟩) ?_
        refine hr_get X kF5_183 dX5_grade_23 (hR.c16 hK) rfl ?_
        refine hr_iload X dX5_grade_26 rfl ?_
        refine hr_aald 7 X rfl dX5_grade_28 (hR.c17 hK) (mm_in rfl (by omega) (by decide)).1 ?_
        rw [nI_clamp (by omega)]
        refine hr_astore X dX5_grade_29 (Nat.le_of_ble_eq_true rfl) (Or.inr ⟨_, rfl⟩) ?_
        refine hr_aload X dX5_grade_31 rfl (hm_rf _) ?_
        have J76 : ∀ (M : hm_M) (ta : mm_S), cr_R cA sg ta ad M0 M → (∀ j, j ≠ 5 → ta j = ta0 j) → hm_W C 0 0 (hm_T C (fun v' M' => v' = some (.int (sp_due sg k)) ∧ ∃ ta' : mm_S, cr_R cA sg ta' ad M0 M' ∧ ∀ j, j ≠ 5 → ta' j = ta0 j) r_X5_grade.cells r_X5_grade.slots) M 76 [some (.ref (ad 0 0)), some (.ref (ad 16 k)), some (.int (hm_bI anew)), some (.int (sp_is (sp_dueT sg k) (n + 1))), some (.int (nI n)), some (va_rf ((sp_has sg (k / 12) v n).map (fun u => ad 15 (sp_e (k / 12) u n)))), some (.ref (ad 19 (5 * k + n)))] [] := by
          intro M ta hR hta
          refine hr_iinc (1) X dX5_grade_76 rfl (by decide) ?_
          refine hr_goto 5 X dX5_grade_79 (by decide) ?_
          rw [nI_1]
          exact ih (n + 1) _ _ _ _ hR hta (by omega) (by omega)
        refine hr_ifnull 76 X dX5_grade_33 (by decide) (fun c33 => ?_) (fun a33 c33 => ?_)
        · have hz : sp_is (sp_dueT sg k) (n + 1) = sp_is (sp_dueT sg k) n := sp_is_st (by
            unfold sp_dueT
            rw [hv, show nN (nI v) = v from nI_clamp (by omega)]
            cases hq : sp_has sg (k / 12) v n with
            | none => rfl
            | some u => rw [hq] at c33; cases c33)
          exact hl_loc (by rw [hz] <;> rfl) (J76 _ _ hR hta)
        · obtain ⟨u, hu⟩ : ∃ u, sp_has sg (k / 12) v n = some u := by
            cases hq : sp_has sg (k / 12) v n with
            | none => rw [hq] at c33; cases c33
            | some u => exact ⟨u, rfl⟩
          obtain ⟨u1, u2, u3, u4⟩ := sp_has_some hI hks hvt hu
          have u16 := u1.1
          have hk3 := sp_k012 hI hks4 u16 hn u3 u4
          have he : sp_e (k / 12) u n < 320 := by unfold sp_e; omega
          have hE := cr_isE_th hks u16 hn u3
          have hj5 : 5 * k + n < 240 := by omega
          have hK5 : cr_isK sg ((5 * k + n) / 5) = true := by rw [show (5 * k + n) / 5 = k by omega]; exact hK
          obtain ⟨j12, ⟨r, hr, hsr⟩, ⟨wc, hwc, hw⟩, -⟩ := hI.i12 _ hj5
          have hz : sp_is (sp_dueT sg k) (n + 1) = sp_is (sp_dueT sg k) n + sp_gain sg (sp_e (k / 12) u n) (5 * k + n) := sp_is_up (by
            unfold sp_dueT
            rw [hv, show nN (nI v) = v from nI_clamp (by omega), hu])
          rw [hu] at J76 ⊢
          refine hr_aload X dX5_grade_36 rfl (Or.inr ⟨_, rfl⟩) ?_
          refine hr_ifnullR X dX5_grade_38 ?_
          refine hr_iload_n X dX5_grade_41 rfl ?_
          refine hr_aload X dX5_grade_42 rfl (Or.inr ⟨_, rfl⟩) ?_
          refine hr_aload X dX5_grade_44 rfl (Or.inr ⟨_, rfl⟩) ?_
          refine hr_aload X dX5_grade_46 rfl (Or.inr ⟨_, rfl⟩) ?_
          refine hr_get X kF5_139 dX5_grade_48 (hR.c15 hE) rfl ?_
          refine hr_iconst (2) X dX5_grade_51 (by decide) ?_
          have J71 : ∀ (M : hm_M) (ta : mm_S), cr_R cA sg ta ad M0 M → (∀ j, j ≠ 5 → ta j = ta0 j) → ∀ c : Int32, (sg 6 (sp_e (k / 12) u n) = 2 → c = nI (sp_com sg (sg 8 (sp_e (k / 12) u n)) (5 * k + n))) → hm_W C 0 0 (hm_T C (fun v' M' => v' = some (.int (sp_due sg k)) ∧ ∃ ta' : mm_S, cr_R cA sg ta' ad M0 M' ∧ ∀ j, j ≠ 5 → ta' j = ta0 j) r_X5_grade.cells r_X5_grade.slots) M 71 [some (.ref (ad 0 0)), some (.ref (ad 16 k)), some (.int (hm_bI anew)), some (.int (sp_is (sp_dueT sg k) n)), some (.int (nI n)), some (.ref (ad 15 (sp_e (k / 12) u n))), some (.ref (ad 19 (5 * k + n)))] [.int c, .ref (ad 19 (5 * k + n)), .ref (ad 15 (sp_e (k / 12) u n)), .int (sp_is (sp_dueT sg k) n)] := by
            intro M ta hR hta c hc
            refine hr_callV X kC5_332 dX5_grade_71 (c_X1_earned cA (M := M) (hR.c15 hE) (hR.c19 hK5) c (fun q => by
              have q1 : sg 6 (sp_e (k / 12) u n) = 1 := by rw [cr_kd, if_neg u4] at q; exact q
              obtain ⟨b, hb, hrb⟩ := sp_in_nat (b := 31) (by decide) ((hI.i6 _ he).2.1 q1).2
              exact ⟨b, r, by omega, hr, hrb, hsr⟩)) (hR.c15 hE) rfl rfl rfl rfl (Nat.le_of_ble_eq_true rfl) ⟨⟨(Nat.le_of_ble_eq_true rfl), (Nat.le_of_ble_eq_true rfl)⟩, (Nat.le_of_ble_eq_true rfl), (Nat.le_of_ble_eq_true rfl)⟩ (fun v M71 hp => ?_)
            obtain ⟨rfl, rfl⟩ := hp
            rw [cr_ear hI (hok.congr (hta 8 (by decide)) (hta 4 (by decide))) he hj5 u4 hk3 hc]
            refine hr_iadd X dX5_grade_74 ?_
            refine hr_istore_n X dX5_grade_75 (Nat.le_of_ble_eq_true rfl) ?_
            exact hl_loc (by rw [hz] <;> rfl) (J76 _ _ hR hta)
          refine hr_icmp_ne 70 X dX5_grade_52 (by decide) (fun c52 => ?_) (fun c52 => ?_)
          · have hc : sg 6 (sp_e (k / 12) u n) = 2 → (0 : Int32) = nI (sp_com sg (sg 8 (sp_e (k / 12) u n)) (5 * k + n)) := fun q => absurd (show cr_kd sg (sp_e (k / 12) u n) = 2 by rw [cr_kd, if_neg u4]; exact q) c52
            refine hr_iconst (0) X dX5_grade_70 (by decide) ?_
            exact J71 _ _ hR hta _ hc
          · have hc : sg 6 (sp_e (k / 12) u n) = 2 → nI (sp_D (sp_rw (sg 8 (sp_e (k / 12) u n))) (fun i => ta 4 (12 * (5 * k + n) + i)) wc (sp_len (sg 8 (sp_e (k / 12) u n)))) = nI (sp_com sg (sg 8 (sp_e (k / 12) u n)) (5 * k + n)) := fun _ => by rw [cr_com (hok.congr (hta 8 (by decide)) (hta 4 (by decide))) hj5 hw hwc]
            have h19 := hR.c19 hK5
            rw [hw] at h19
            refine hr_aload_n X dX5_grade_55 rfl (Or.inr ⟨_, rfl⟩) ?_
            refine hr_aload X dX5_grade_56 rfl (Or.inr ⟨_, rfl⟩) ?_
            refine hr_get X kF5_314 dX5_grade_58 (hR.c15 hE) rfl ?_
            refine hr_aload X dX5_grade_61 rfl (Or.inr ⟨_, rfl⟩) ?_
            refine hr_iload_n X dX5_grade_63 rfl ?_
            refine hr_callV X kC5_328 dX5_grade_64 (c_X5_commonWords cA (M := M) hR.c0 hR.c4 h19 (hR.c20 hK5) hwc (hR.ne (q := 20) (x := 5 * k + n) (q' := 4) (x' := 0) (if_pos hK5) rfl (by decide)) (sg 8 (sp_e (k / 12) u n)) anew) hR.c0 rfl rfl rfl rfl (Nat.le_of_ble_eq_true rfl) ⟨⟨(Nat.le_of_ble_eq_true rfl), (Nat.le_of_ble_eq_true rfl)⟩, (Nat.le_of_ble_eq_true rfl), (Nat.le_of_ble_eq_true rfl)⟩ (fun v M64 hp64 => ?_)
            obtain ⟨rfl, g, rfl⟩ := hp64
            have hR := hR.len g
            have hta : ∀ j, j ≠ 5 → cr_tj ta 5 g j = ta0 j := fun j hj => (cr_tj_n hj).trans (hta j hj)
            refine hr_goto 71 X dX5_grade_67 (by decide) ?_
            exact J71 _ _ hR hta _ hc
  exact lp5 6 0 _ _ _ _ hR (fun _ _ => rfl) (by decide) (by decide)
set_option maxHeartbeats 4000000 in
set_option maxRecDepth 100000 in
theorem c_X5_due (cA : Nat → ClassId) {sg ta0 : mm_S} {ad : Nat → Nat → Nat} {M0 M : hm_M} (hR : cr_R cA sg ta0 ad M0 M) (hI : sp_I sg) (hok : cr_o2 sg ta0) (p s : Int32) : hm_XMet cA yX5_due cX5_due 4 (some .int) r_X5_due [.ref (ad 0 0), .int p, .int s] M (fun v' M' => (sp_in p 0 11 && sp_isS sg s) = true ∧ v' = some (.int (sp_rDue sg (sp_k p s))) ∧ ∃ ta' : mm_S, cr_R cA sg ta' ad M0 M' ∧ ∀ j, j ≠ 5 → ta' j = ta0 j) (fun E M' => (sp_in p 0 11 && sp_isS sg s) = false ∧ E = "java/lang/IndexOutOfBoundsException" ∧ M = M') := by
  refine hm_xmet 1 (by decide +kernel) (fun w h => by simp only [List.mem_cons, List.not_mem_nil, or_false] at h; rcases h with rfl | rfl | rfl <;> rfl) rfl (fun C X XE => ?_)
  show hm_W C 0 0 _ M 0 [some (.ref (ad 0 0)), some (.int p), some (.int s), none] []
  refine hr_aload_n X dX5_due_0 rfl (Or.inr ⟨_, rfl⟩) ?_
  refine hr_iload_n X dX5_due_1 rfl ?_
  refine hr_iload_n X dX5_due_2 rfl ?_
  refine hr_callVX X XE kC5_225 dX5_due_3 (c_X5_answerAt cA hR hI p s) hR.c0 rfl rfl rfl rfl (Nat.le_of_ble_eq_true rfl) ⟨⟨(Nat.le_of_ble_eq_true rfl), (Nat.le_of_ble_eq_true rfl)⟩, (Nat.le_of_ble_eq_true rfl), (Nat.le_of_ble_eq_true rfl)⟩ (Nat.le_of_ble_eq_true rfl) (Nat.le_of_ble_eq_true rfl) (fun _ _ h => ⟨h.1, h.2⟩) (fun v M3 hp3 => ?_)
  obtain ⟨⟨a, b, ha, hs, rfl, hb, rfl, hz, rfl⟩, rfl⟩ := hp3
  obtain ⟨ha1, ha4⟩ := cr_isS_4 hI hs
  have ek : sp_k (nI b) (nI a) = 12 * a + b := by rw [sp_k, show nN (nI a) = a from nI_clamp (by omega), show nN (nI b) = b from nI_clamp (by omega)]
  refine hr_astore_n X dX5_due_6 (Nat.le_of_ble_eq_true rfl) (hm_rf _) ?_
  refine hr_aload_n X dX5_due_7 rfl (hm_rf _) ?_
  refine hr_ifnonnull 15 X dX5_due_8 (by decide) (fun a8 c8 => ?_) (fun c8 => ?_)
  · have hn : ¬ sg 13 (12 * a + b) = 0 := fun q => by rw [if_pos q] at c8; cases c8
    have hv : sp_rDue sg (sp_k (nI b) (nI a)) = sp_due sg (12 * a + b) := by rw [ek, sp_rDue, if_neg hn]
    rw [if_neg hn]
    refine hr_aload_n X dX5_due_15 rfl (Or.inr ⟨_, rfl⟩) ?_
    refine hr_aload_n X dX5_due_16 rfl (hm_rf _) ?_
    refine hr_iconst (1) X dX5_due_17 (by decide) ?_
    refine hr_callV X kC5_212 dX5_due_18 (c_X5_grade cA hR hI hok (12 * a + b) (by omega) hn true) hR.c0 rfl rfl rfl rfl (Nat.le_of_ble_eq_true rfl) ⟨⟨(Nat.le_of_ble_eq_true rfl), (Nat.le_of_ble_eq_true rfl)⟩, (Nat.le_of_ble_eq_true rfl), (Nat.le_of_ble_eq_true rfl)⟩ (fun v M18 hp18 => ?_)
    obtain ⟨rfl, ta1, hR, hta⟩ := hp18
    exact hr_iretX X dX5_due_21 (Nat.le_of_ble_eq_true rfl) (Nat.le_of_ble_eq_true rfl) (by first | exact ⟨hz, by rw [hv], ta1, hR, hta⟩ | exact ⟨hz, by rw [hv], ta0, hR, fun _ _ => rfl⟩)
  · have hn : sg 13 (12 * a + b) = 0 := by
      by_cases q : sg 13 (12 * a + b) = 0
      · exact q
      · rw [if_neg q] at c8; cases c8
    have hv : sp_rDue sg (sp_k (nI b) (nI a)) = -1 := by rw [ek, sp_rDue, if_pos hn]
    refine hr_iconst (-1) X dX5_due_11 (by decide) ?_
    refine hr_goto 21 X dX5_due_12 (by decide) ?_
    exact hr_iretX X dX5_due_21 (Nat.le_of_ble_eq_true rfl) (Nat.le_of_ble_eq_true rfl) (by first | exact ⟨hz, by rw [hv], ta1, hR, hta⟩ | exact ⟨hz, by rw [hv], ta0, hR, fun _ _ => rfl⟩)
