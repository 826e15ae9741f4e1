/-! mends: a rule changed, what it takes counted, all graded anew -/
theorem sl_acs (b c : Int32) : b + (c - b) = c := by rw [Int32.sub_eq_add_neg, Int32.add_comm b, Int32.add_assoc, Int32.add_left_neg, Int32.add_zero]
theorem sp_is_one {f f' : Nat → Int32} {e : Nat} (h : ∀ k, k ≠ e → f' k = f k) : ∀ n, e < n → sp_is f' n = sp_is f n + (f' e - f e)
  | 0, hn => absurd hn (Nat.not_lt_zero e)
  | n + 1, hn => by
    show sp_is f' n + f' n = sp_is f n + f n + (f' e - f e)
    by_cases q : e < n
    · rw [sp_is_one h n q, h n (by omega), Int32.add_assoc, Int32.add_comm (f' e - f e), ← Int32.add_assoc]
    · have e1 : e = n := by omega
      subst e1
      rw [sp_is_congr e (fun k hk => h k (by omega)), Int32.add_assoc, sl_acs]
theorem sb_notT {b : Bool} (h : (!b) = true) : b = false := by cases b with | true => cases h | false => rfl
theorem sb_notF {b : Bool} (h : (!b) = false) : b = true := by cases b with | true => rfl | false => cases h
theorem cr_fits {sg ta : mm_S} (hok : cr_ok sg ta) {g : Nat} (hg : g < 4) (more : Int32) : sb_pas sg ta (nI g) more = !sp_fits sg g more := by
  unfold sb_pas sp_fits
  rw [show nN (nI g) = g from nI_clamp (by omega), hok.1 g hg, show sp_in (nI g) 0 3 = true from sp_nat_in (b := 3) (by decide) (by omega), Bool.true_and]
  by_cases h : more ≤ 0
  · rw [decide_eq_false (Int32.not_lt.mpr h), decide_eq_true h]
    rfl
  · rw [decide_eq_true (Int32.not_le.mp h), decide_eq_false h, Bool.true_and, Bool.false_or]
    by_cases q : sp_used sg (nI g) + more ≤ sg 12 g
    · rw [decide_eq_false (Int32.not_lt.mpr q), decide_eq_true q]
      rfl
    · rw [decide_eq_true (Int32.not_le.mp q), decide_eq_false q]
      rfl
theorem sp_used_congr {sg sg' : mm_S} (h2 : sg' 2 = sg 2) (h4 : sg' 4 = sg 4) (h6 : sg' 6 = sg 6) (h8 : sg' 8 = sg 8) (h17 : sg' 17 = sg 17) (h19 : sg' 19 = sg 19) (h20 : sg' 20 = sg 20) (g : Int32) : sp_used sg' g = sp_used sg g := by
  unfold sp_used
  rw [sp_is_congr (f := sp_usE sg' g) (g := sp_usE sg g) 320 (fun k _ => by unfold sp_usE sp_cost; rw [h2, h4, h6, h8]), sp_is_congr (f := sp_usA sg' g) (g := sp_usA sg g) 48 (fun k _ => by
    unfold sp_usA sp_taken
    rw [sp_is_congr (f := fun t => sp_tk sg' (5 * k + t)) (g := fun t => sp_tk sg (5 * k + t)) 5 (fun t _ => by unfold sp_tk; rw [h17, h19, h20])])]
theorem sp_rul_j {sg : mm_S} {e j : Nat} {rule slack : Int32} (h8 : j ≠ 8) (h9 : j ≠ 9) : sp_rul sg e rule slack j = sg j := (mm_up_j h9).trans (mm_up_j h8)
theorem sp_rul_8 {sg : mm_S} {e : Nat} {rule slack : Int32} : sp_rul sg e rule slack 8 e = rule := by
  show mm_up (mm_up sg 8 e rule) 9 e slack 8 e = rule
  rw [mm_up_j (by decide), mm_up_s]
theorem sp_rul_x {sg : mm_S} {e k j : Nat} {rule slack : Int32} (h : k ≠ e) : sp_rul sg e rule slack j k = sg j k := by
  show mm_up (mm_up sg 8 e rule) 9 e slack j k = sg j k
  rw [mm_up_xj h, mm_up_xj h]
theorem sp_used_rul {sg : mm_S} {e : Nat} {rule slack : Int32} (he : e < 320) (h2 : ¬ sg 2 (e / 5) = 0) (g : Int32) : sp_used (sp_rul sg e rule slack) g = sp_used sg g + (if sg 4 (e / 5) = g then sp_cost (sp_rul sg e rule slack) e - sp_cost sg e else 0) := by
  unfold sp_used
  rw [sp_is_congr (f := sp_usA (sp_rul sg e rule slack) g) (g := sp_usA sg g) 48 (fun k _ => by
    unfold sp_usA sp_taken
    rw [sp_is_congr (f := fun t => sp_tk (sp_rul sg e rule slack) (5 * k + t)) (g := fun t => sp_tk sg (5 * k + t)) 5 (fun t _ => by unfold sp_tk; rw [sp_rul_j (by decide) (by decide), sp_rul_j (by decide) (by decide), sp_rul_j (by decide) (by decide)])])]
  rw [sp_is_one (f := sp_usE sg g) (f' := sp_usE (sp_rul sg e rule slack) g) (e := e) (fun k hk => by
    unfold sp_usE sp_cost
    rw [sp_rul_j (j := 2) (by decide) (by decide), sp_rul_j (j := 4) (by decide) (by decide), sp_rul_j (j := 6) (by decide) (by decide), sp_rul_x hk]) 320 he]
  rw [Int32.add_assoc, Int32.add_comm (sp_usE (sp_rul sg e rule slack) g e - sp_usE sg g e), ← Int32.add_assoc]
  congr 1
  unfold sp_usE
  rw [sp_rul_j (j := 2) (by decide) (by decide), sp_rul_j (j := 4) (by decide) (by decide), if_neg h2, if_neg h2]
  by_cases q : sg 4 (e / 5) = g
  · rw [if_pos q, if_pos q, if_pos q]
  · rw [if_neg q, if_neg q, if_neg q, Int32.sub_self]
/-- what lies in another sheet -/
theorem sp_e_ne {s a u w t t' : Nat} (hs : s ≠ a) (hu : u < 16) (hw : w < 16) (ht : t < 5) (ht' : t' < 5) : sp_e s u t ≠ sp_e a w t' := by
  unfold sp_e
  omega
theorem sp_due_far {sg : mm_S} (hI : sp_I sg) {a w t' : Nat} {rule slack : Int32} (hw : w < 16) (ht' : t' < 5) {k : Nat} (hk : k < 48) (h0 : ¬ sg 13 k = 0) (hka : k / 12 ≠ a) : sp_due (sp_rul sg (sp_e a w t') rule slack) k = sp_due sg k := by
  obtain ⟨hks, v, hv, hvt⟩ := sp_handed hI hk h0
  have hv16 := hvt.1
  refine sp_is_congr 5 (fun t ht => ?_)
  unfold sp_dueT
  rw [sp_rul_j (j := 14) (by decide) (by decide), sp_has_congr (sp_rul_j (by decide) (by decide)) (sp_rul_j (by decide) (by decide)), hv, show nN (nI v) = v from nI_clamp (by omega)]
  cases hu : sp_has sg (k / 12) v t with
  | none => rfl
  | some u =>
    dsimp only
    have u16 := (sp_has_some hI hks hvt hu).1.1
    unfold sp_gain sp_com
    rw [sp_rul_x (j := 8) (sp_e_ne hka u16 hw ht ht'), sp_rul_x (j := 9) (sp_e_ne hka u16 hw ht ht'), sp_rul_j (j := 6) (by decide) (by decide), sp_rul_j (j := 7) (by decide) (by decide), sp_rul_j (j := 17) (by decide) (by decide), sp_rul_j (j := 18) (by decide) (by decide), sp_rul_j (j := 19) (by decide) (by decide), sp_rul_j (j := 20) (by decide) (by decide), sp_rul_j (j := 21) (by decide) (by decide)]
theorem sp_layL_far {sg : mm_S} (hI : sp_I sg) {a w t' : Nat} {rule slack : Int32} (hw : w < 16) (ht' : t' < 5) {k : Nat} (hk : k < 48) (h0 : ¬ sg 13 k = 0) (hka : k / 12 ≠ a) : ∀ t, t ≤ 5 → sp_layL (sp_rul sg (sp_e a w t') rule slack) k t = sp_layL sg k t
  | 0, _ => rfl
  | t + 1, ht => by
    obtain ⟨hks, v, hv, hvt⟩ := sp_handed hI hk h0
    have hv16 := hvt.1
    show sp_layT (sp_rul sg (sp_e a w t') rule slack) k t (sp_layL (sp_rul sg (sp_e a w t') rule slack) k t) = sp_layT sg k t (sp_layL sg k t)
    rw [sp_layL_far hI hw ht' hk h0 hka t (by omega)]
    have eI : ∀ rl j l i, sp_layI (sp_rul sg (sp_e a w t') rule slack) rl j l i = sp_layI sg rl j l i := fun rl j l i => by
      induction i with
      | zero => rfl
      | succ i ih =>
        unfold sp_layI
        rw [ih, show sp_pt (sp_rul sg (sp_e a w t') rule slack) j i = sp_pt sg j i by unfold sp_pt; rw [sp_rul_j (j := 21) (by decide) (by decide)]]
    unfold sp_layT
    rw [sp_rul_j (j := 14) (by decide) (by decide), sp_has_congr (sp_rul_j (by decide) (by decide)) (sp_rul_j (by decide) (by decide)), hv, show nN (nI v) = v from nI_clamp (by omega)]
    cases hu : sp_has sg (k / 12) v t with
    | none => rfl
    | some u =>
      dsimp only
      have u16 := (sp_has_some hI hks hvt hu).1.1
      rw [sp_rul_x (j := 8) (sp_e_ne hka u16 hw (by omega) ht'), sp_rul_j (j := 6) (by decide) (by decide), sp_rul_j (j := 20) (by decide) (by decide), eI]
theorem sp_prs_n2 {sg : mm_S} {k : Nat} (h : ¬ sg 13 k = 2) : sp_prs sg k = [] := if_neg (fun q => h q.1)
theorem cr_K.ok {ta : mm_S} {k : Nat} {P : List Int32} (h : cr_K ta k P) : ∃ l : List Int32, l.Pairwise (fun a b => a < b) ∧ l.length ≤ 50 ∧ ta 2 k = nI l.length ∧ (∀ i y, l[i]? = some y → ta 3 (50 * k + i) = y) ∧ ∀ y, y ∈ l ↔ y ∈ P := by
  obtain ⟨l, ⟨a, b, c⟩, d, e⟩ := h
  exact ⟨l, a, b, d, c, e⟩
theorem cr_ok.K {sg ta : mm_S} (h : cr_ok sg ta) {k : Nat} (hk : k < 48) (h0 : ¬ sg 13 k = 0) : cr_K ta k (sp_prs sg k) := cr_pr h hk h0
/-- what is kept holds behind a mend -/
theorem cr_ok_mend {sg ta ta1 ta' : mm_S} (hI : sp_I sg) (hok : cr_ok sg ta) {a u t g : Nat} {rule slack : Int32} (ha : a < sp_n sg) (hu : sp_th sg a u) (ht : t < 5) (hg : g < 4) (ho : sg 4 (16 * a + u) = nI g)
    (h1 : ∀ j, j ≠ 0 → ta1 j = ta j) (h10 : ∀ z, z ≠ g → ta1 0 z = ta 0 z) (h1g : ta1 0 g = ta 0 g + (sp_cost (sp_rul sg (sp_e a u t) rule slack) (sp_e a u t) - sp_cost sg (sp_e a u t)))
    (hA : ∀ q, q < 12 → sp_rul sg (sp_e a u t) rule slack 13 (12 * a + q) = 2 → ta' 1 (12 * a + q) = sp_due (sp_rul sg (sp_e a u t) rule slack) (12 * a + q) ∧ cr_K ta' (12 * a + q) (sp_prs (sp_mdS sg (sp_rul sg (sp_e a u t) rule slack) a 12) (12 * a + q))) (hV : cr_V a (sp_rul sg (sp_e a u t) rule slack) ta1 ta') : cr_ok (sp_mend sg a (sp_e a u t) rule slack) ta' := by
  have ha4 := cr_n4 hI ha
  have u16 := hu.1
  have he : sp_e a u t < 320 := by unfold sp_e; omega
  have ex : sp_e a u t / 5 = 16 * a + u := by unfold sp_e; omega
  have eS : ∀ j, j ≠ 8 → j ≠ 9 → j ≠ 15 → j ≠ 16 → sp_mend sg a (sp_e a u t) rule slack j = sg j := fun j h8 h9 h15 h16 => (sp_mdS_j 12 j h15 h16).trans (sp_rul_j h8 h9)
  have eF : ∀ j, j ≠ 15 → j ≠ 16 → j < 22 → sp_mend sg a (sp_e a u t) rule slack j = sp_rul sg (sp_e a u t) rule slack j := fun j h15 h16 _ => sp_mdS_j 12 j h15 h16
  have e13 := eS 13 (by decide) (by decide) (by decide) (by decide)
  refine ⟨fun z hz => ?_, fun k hk h2 => ?_, fun k hk h0 => ?_, ?_⟩
  · rw [hV.1 0 (by decide) (by decide) (by decide) (by decide)]
    rw [sp_used_congr (eF 2 (by decide) (by decide) (by decide)) (eF 4 (by decide) (by decide) (by decide)) (eF 6 (by decide) (by decide) (by decide)) (eF 8 (by decide) (by decide) (by decide)) (eF 17 (by decide) (by decide) (by decide)) (eF 19 (by decide) (by decide) (by decide)) (eF 20 (by decide) (by decide) (by decide))]
    rw [sp_used_rul he (by rw [ex]; exact hu.2), ex, ho, ← hok.1 z hz]
    by_cases q : z = g
    · rw [q, if_pos rfl, h1g]
    · rw [if_neg (fun w => q ((nI_eq (by omega) (by omega)).mp w).symm), h10 z q, Int32.add_zero]
  · rw [e13] at h2
    rw [sp_due_congr eF]
    by_cases q : k / 12 = a
    · have hk2 : k = 12 * a + k % 12 := by omega
      rw [hk2] at h2 ⊢
      exact (hA (k % 12) (by omega) (by rw [sp_rul_j (by decide) (by decide)]; exact h2)).1
    · rw [(hV.2 k (fun p hp z => absurd (show k / 12 = a by omega) q)).1, h1 1 (by decide), hok.2.1 k hk h2, sp_due_far hI u16 ht hk (by rw [h2]; decide) q]
  · rw [e13] at h0
    refine cr_K.ok ?_
    by_cases h2 : sg 13 k = 2
    · by_cases q : k / 12 = a
      · have hk2 : k = 12 * a + k % 12 := by omega
        rw [hk2] at h2 ⊢
        exact (hA (k % 12) (by omega) (by rw [sp_rul_j (by decide) (by decide)]; exact h2)).2
      · have hv := hV.2 k (fun p hp z => absurd (show k / 12 = a by omega) q)
        have eP : sp_prs (sp_mend sg a (sp_e a u t) rule slack) k = sp_prs sg k := by
          unfold sp_prs
          rw [e13, sp_layL_congr eF, sp_layL_far hI u16 ht hk h0 q 5 (Nat.le_refl _), show sp_mend sg a (sp_e a u t) rule slack 15 k = sg 15 k from (sp_mdS_o 12 (fun p hp z => absurd (show k / 12 = a by omega) q)).trans (by rw [sp_rul_j (by decide) (by decide)])]
        rw [eP]
        exact (hok.K hk h0).congr (by rw [hv.2.1, h1 2 (by decide)]) (fun i hi => by rw [hv.2.2 i hi, h1 3 (by decide)])
    · have hv := hV.2 k (fun p _ z => by rw [sp_rul_j (by decide) (by decide)]; exact h2)
      rw [sp_prs_n2 (by rw [e13]; exact h2), ← sp_prs_n2 h2]
      exact (hok.K hk h0).congr (by rw [hv.2.1, h1 2 (by decide)]) (fun i hi => by rw [hv.2.2 i hi, h1 3 (by decide)])
  · show cr_o2 _ ta'
    unfold cr_o2
    rw [eS 17 (by decide) (by decide) (by decide) (by decide), eS 18 (by decide) (by decide) (by decide) (by decide), eS 20 (by decide) (by decide) (by decide) (by decide), eS 21 (by decide) (by decide) (by decide) (by decide)]
    exact hok.o2.congr ((hV.1 8 (by decide) (by decide) (by decide) (by decide)).trans (h1 8 (by decide))) ((hV.1 4 (by decide) (by decide) (by decide) (by decide)).trans (h1 4 (by decide)))
section HE15
variable {C : hm_C} {k n : Nat} {Q : State → Prop} {M M0 : hm_M} {pc : Nat} {L : List (Option Value)} {st : List Value} {cA : Nat → ClassId} {sg ta : mm_S} {ad : Nat → Nat → Nat}
theorem hr_w15 (h : cr_R cA sg ta ad M0 M) {e j0 : Nat} {v : Int32} (hE : cr_isE sg e = true) (hj : j0 = 8 ∨ j0 = 9) {fs : List Value} (hf : fs = [.int (cr_kd sg e), .int (sg 7 e), .int (mm_up sg j0 e v 8 e), .int (mm_up sg j0 e v 9 e)]) (kk : ∀ M2 : hm_M, cr_R cA (mm_up sg j0 e v) ta ad M0 M2 → hm_W C k n Q M2 pc L st) : hm_W C k n Q (hm_up M (ad 15 e) (.inr (1, fs))) pc L st := by
  have hne : ∀ j, j ≠ 8 → j ≠ 9 → mm_up sg j0 e v j = sg j := fun j h8 h9 => mm_up_j (by rcases hj with rfl | rfl <;> assumption)
  subst hf
  refine hr_re1 h (q0 := 15) (x0 := e) (if_pos hE) (fun w hw => ?_) (fun q z w hn hw => ?_) kk
  · cases cr_ob_e hw
    unfold cr_kd
    rw [hne 6 (by decide) (by decide), hne 7 (by decide) (by decide)]
    exact va_sm.rf
  · by_cases hq : q = 15
    · subst hq
      have hy : z ≠ e := fun y => hn ⟨rfl, y⟩
      exact cr_sm_15 (sg := sg) (ta := ta) (sg' := mm_up sg j0 e v) (ta' := ta) ⟨by rw [hne 1 (by decide) (by decide)], mm_up_xj hy, mm_up_xj hy, mm_up_xj hy, mm_up_xj hy⟩ hw
    · exact cr_one_g (j0 := j0) (fun j hj => mm_up_j hj) (by rcases hj with rfl | rfl <;> decide) (by rcases hj with rfl | rfl <;> decide) (by rcases hj with rfl | rfl <;> decide) (by rcases hj with rfl | rfl <;> decide) (by rcases hj with rfl | rfl <;> exact hq) hw
end HE15
theorem sp_has_tel {sg : mm_S} {s v t u : Nat} (h : sp_has sg s v t = some u) : sp_tel sg s v t = some u := by
  unfold sp_has at h
  cases hq : sp_tel sg s v t with
  | none => rw [hq] at h; cases h
  | some w =>
    rw [hq] at h
    dsimp only at h
    by_cases z : sg 6 (sp_e s w t) = 3
    · rw [if_pos z] at h; cases h
    · rw [if_neg z] at h; exact h
theorem sp_men_is {sg : mm_S} {s v t u : Nat} {kind : Int32} (h : sp_has sg s v t = some u) : sp_men sg s v t kind = if sg 6 (sp_e s u t) = kind then some u else none := by unfold sp_men; rw [h]
theorem sp_men_no {sg : mm_S} {s v t : Nat} {kind : Int32} (h : sp_has sg s v t = none) : sp_men sg s v t kind = none := by unfold sp_men; rw [h]
set_option maxHeartbeats 4000000 in
set_option maxRecDepth 100000 in
theorem c_X5_mend (cA : Nat → ClassId) {sg ta : mm_S} {ad : Nat → Nat → Nat} {M0 M : hm_M} (hR : cr_R cA sg ta ad M0 M) (hI : sp_I sg) (hok : cr_ok sg ta) (a v t : Nat) (hs : cr_isS sg a = true) (hv : sp_th sg a v) (ht : t < 5) (kind rule slack : Int32) (hokR : ∀ u, sp_men sg a v t kind = some u → sp_okR sg (sp_e a u t) rule slack) : hm_XMet cA yX5_mend cX5_mend 10 (some .int) r_X5_mend [.ref (ad 0 0), .ref (ad 8 a), .ref (ad 13 (16 * a + v)), .int (nI t), .int kind, .int rule, .int slack] M (fun v' M' => ∃ u, sp_men sg a v t kind = some u ∧ sb_pas sg ta (sg 4 (16 * a + u)) (sb_sz kind rule - sb_sz kind (sg 8 (sp_e a u t))) = false ∧ v' = some (.int (sp_mendN sg a (sp_e a u t) rule slack)) ∧ ∃ ta' : mm_S, cr_R cA (sp_mend sg a (sp_e a u t) rule slack) ta' ad M0 M' ∧ cr_ok (sp_mend sg a (sp_e a u t) rule slack) ta') (fun E M' => (∀ u, sp_men sg a v t kind = some u → sb_pas sg ta (sg 4 (16 * a + u)) (sb_sz kind rule - sb_sz kind (sg 8 (sp_e a u t))) = true) ∧ E = "java/lang/IllegalStateException" ∧ M = M') := by
  refine hm_xmet 3 (by decide +kernel) (fun w h => by simp only [List.mem_cons, List.not_mem_nil, or_false] at h; rcases h with rfl | rfl | rfl | rfl | rfl | rfl | rfl <;> rfl) rfl (fun C X XE => ?_)
  show hm_W C 0 0 _ M 0 [some (.ref (ad 0 0)), some (.ref (ad 8 a)), some (.ref (ad 13 (16 * a + v))), some (.int (nI t)), some (.int kind), some (.int rule), some (.int slack), none, none, none] []
  obtain ⟨ha1, ha4⟩ := cr_isS_4 hI hs
  refine hr_aload_n X dX5_mend_0 rfl (Or.inr ⟨_, rfl⟩) ?_
  refine hr_iload_n X dX5_mend_1 rfl ?_
  refine hr_callS X kC5_142 dX5_mend_2 (c_X5_tellerOf cA hR hI a v t ha1 hv ht) rfl rfl rfl (Nat.le_of_ble_eq_true rfl) ⟨⟨(Nat.le_of_ble_eq_true rfl), (Nat.le_of_ble_eq_true rfl)⟩, (Nat.le_of_ble_eq_true rfl), (Nat.le_of_ble_eq_true rfl)⟩ (fun v M2 hp => ?_)
  obtain ⟨rfl, rfl⟩ := hp
  refine hr_astore X dX5_mend_5 (Nat.le_of_ble_eq_true rfl) (hm_rf _) ?_
  refine hr_aload_n X dX5_mend_7 rfl (Or.inr ⟨_, rfl⟩) ?_
  refine hr_iload_n X dX5_mend_8 rfl ?_
  refine hr_callS X kC5_80 dX5_mend_9 (c_X5_taskOf cA hR hI a v t ha1 hv ht) rfl rfl rfl (Nat.le_of_ble_eq_true rfl) ⟨⟨(Nat.le_of_ble_eq_true rfl), (Nat.le_of_ble_eq_true rfl)⟩, (Nat.le_of_ble_eq_true rfl), (Nat.le_of_ble_eq_true rfl)⟩ (fun v M9 hp => ?_)
  obtain ⟨rfl, rfl⟩ := hp
  refine hr_astore X dX5_mend_12 (Nat.le_of_ble_eq_true rfl) (hm_rf _) ?_
  refine hr_aload X dX5_mend_14 rfl (hm_rf _) ?_
  refine hr_ifnull 34 X dX5_mend_16 (by decide) (fun c16 => ?_) (fun a16 c16 => ?_)
  · have hno : ∀ u, sp_men sg a v t kind = some u → sb_pas sg ta (sg 4 (16 * a + u)) (sb_sz kind rule - sb_sz kind (sg 8 (sp_e a u t))) = true := fun u hu => by
      have h1 := sp_has_tel (sp_men_some hI ha1 hv hu).1
      rw [h1] at c16; cases c16
    exact hr_throwW X XE kT5_37_309_41 dX5_mend_34 dX5_mend_37 dX5_mend_38 dX5_mend_41 dX5_mend_44 rfl ⟨(Nat.le_of_ble_eq_true rfl), (Nat.le_of_ble_eq_true rfl), (Nat.le_of_ble_eq_true rfl), (Nat.le_of_ble_eq_true rfl)⟩ (Nat.le_of_ble_eq_true rfl) (Nat.le_of_ble_eq_true rfl) ⟨hno, rfl, rfl⟩
  · refine hr_aload X dX5_mend_19 rfl (hm_rf _) ?_
    refine hr_ifnull 34 X dX5_mend_21 (by decide) (fun c21 => ?_) (fun a21 c21 => ?_)
    · have hno : ∀ u, sp_men sg a v t kind = some u → sb_pas sg ta (sg 4 (16 * a + u)) (sb_sz kind rule - sb_sz kind (sg 8 (sp_e a u t))) = true := fun u hu => by
        have h1 := (sp_men_some hI ha1 hv hu).1
        rw [h1] at c21; cases c21
      exact hr_throwW X XE kT5_37_309_41 dX5_mend_34 dX5_mend_37 dX5_mend_38 dX5_mend_41 dX5_mend_44 rfl ⟨(Nat.le_of_ble_eq_true rfl), (Nat.le_of_ble_eq_true rfl), (Nat.le_of_ble_eq_true rfl), (Nat.le_of_ble_eq_true rfl)⟩ (Nat.le_of_ble_eq_true rfl) (Nat.le_of_ble_eq_true rfl) ⟨hno, rfl, rfl⟩
    · obtain ⟨u, hu⟩ : ∃ u, sp_has sg a v t = some u := by
        cases hq : sp_has sg a v t with
        | none => rw [hq] at c21; cases c21
        | some u => exact ⟨u, rfl⟩
      obtain ⟨u1, u2, u3, u4⟩ := sp_has_some hI ha1 hv hu
      have u16 := u1.1
      have hE := cr_isE_th ha1 u16 ht u3
      have hkd : cr_kd sg (sp_e a u t) = sg 6 (sp_e a u t) := if_neg u4
      obtain ⟨g, hg, hgo⟩ := sp_own hI ha1 u1 ht u3
      have hxu := cr_isV_th ha1 u1
      have hmi := sp_men_is (kind := kind) hu
      rw [hu, sp_has_tel hu]
      refine hr_aload X dX5_mend_24 rfl (hm_rf _) ?_
      refine hr_get X kF5_139 dX5_mend_26 (hR.c15 hE) rfl ?_
      refine hr_iload X dX5_mend_29 rfl ?_
      refine hr_icmp_eq 45 X dX5_mend_31 (by decide) (fun c31 => ?_) (fun c31 => ?_)
      · have hk6 : sg 6 (sp_e a u t) = kind := by rw [← hkd]; exact c31
        rw [if_pos hk6] at hmi
        have hR1 := hokR u hmi
        refine hr_aload X dX5_mend_45 rfl (hm_rf _) ?_
        refine hr_iload X dX5_mend_47 rfl ?_
        refine hr_callV X kC5_311 dX5_mend_49 (c_X1_sizeWith cA (hR.c15 hE) rule) (hR.c15 hE) rfl rfl rfl rfl (Nat.le_of_ble_eq_true rfl) ⟨⟨(Nat.le_of_ble_eq_true rfl), (Nat.le_of_ble_eq_true rfl)⟩, (Nat.le_of_ble_eq_true rfl), (Nat.le_of_ble_eq_true rfl)⟩ (fun v M49 hp => ?_)
        obtain ⟨rfl, rfl⟩ := hp
        rw [show cr_kd sg (sp_e a u t) = kind from c31]
        refine hr_aload X dX5_mend_52 rfl (hm_rf _) ?_
        refine hr_callV X kC5_305 dX5_mend_54 (c_X1_size cA (hR.c15 hE)) (hR.c15 hE) rfl rfl rfl rfl (Nat.le_of_ble_eq_true rfl) ⟨⟨(Nat.le_of_ble_eq_true rfl), (Nat.le_of_ble_eq_true rfl)⟩, (Nat.le_of_ble_eq_true rfl), (Nat.le_of_ble_eq_true rfl)⟩ (fun v M54 hp => ?_)
        obtain ⟨rfl, rfl⟩ := hp
        rw [show cr_kd sg (sp_e a u t) = kind from c31]
        refine hr_isub X dX5_mend_57 ?_
        refine hr_istore X dX5_mend_58 (Nat.le_of_ble_eq_true rfl) ?_
        refine hr_aload_n X dX5_mend_60 rfl (Or.inr ⟨_, rfl⟩) ?_
        refine hr_aload X dX5_mend_61 rfl (hm_rf _) ?_
        refine hr_get X kF5_113 dX5_mend_63 (hR.c13 hxu) rfl ?_
        refine hr_iload X dX5_mend_66 rfl ?_
        refine hr_callV X kC5_116 dX5_mend_68 (c_X5_passesQuota cA hR hI (sg 4 (16 * a + u)) (sb_sz kind rule - sb_sz kind (sg 8 (sp_e a u t)))) hR.c0 rfl rfl rfl rfl (Nat.le_of_ble_eq_true rfl) ⟨⟨(Nat.le_of_ble_eq_true rfl), (Nat.le_of_ble_eq_true rfl)⟩, (Nat.le_of_ble_eq_true rfl), (Nat.le_of_ble_eq_true rfl)⟩ (fun v M68 hp => ?_)
        obtain ⟨rfl, rfl⟩ := hp
        refine hr_if_eq 84 X dX5_mend_71 (by decide) (fun c71 => ?_) (fun c71 => ?_)
        · have hpas := hm_bI_eq.mp c71
          refine hr_aload X dX5_mend_84 rfl (hm_rf _) ?_
          refine hr_iload X dX5_mend_86 rfl ?_
          refine hr_put X kF5_314 dX5_mend_88 (hR.c15 hE) rfl rfl (Nat.le_of_ble_eq_true rfl) ?_
          refine hr_w15 hR hE (Or.inl rfl) (j0 := 8) (v := rule) (by rw [mm_up_s, mm_up_j (j' := 9) (by decide)]; rfl) (fun M88 hR => ?_)
          have hE8 : cr_isE (mm_up sg 8 (sp_e a u t) rule) (sp_e a u t) = true := by rw [cr_sm_E (sg := sg) (by rw [mm_up_j (by decide)]) _ (by rw [mm_up_j (by decide)])]; exact hE
          refine hr_aload X dX5_mend_91 rfl (hm_rf _) ?_
          refine hr_iload X dX5_mend_93 rfl ?_
          refine hr_put X kF5_317 dX5_mend_95 (hR.c15 hE8) rfl rfl (Nat.le_of_ble_eq_true rfl) ?_
          refine hr_w15 hR hE8 (Or.inr rfl) (j0 := 9) (v := slack) (by rw [mm_up_s (j := 9), mm_up_j (j' := 8) (j := 9) (by decide)]; rfl) (fun M95 hR => ?_)
          have hR : cr_R cA (sp_rul sg (sp_e a u t) rule slack) ta ad M0 M95 := hR
          have hI1 := hI.rul hR1
          have hxu1 : cr_isV (sp_rul sg (sp_e a u t) rule slack) (16 * a + u) = true := by rw [cr_sm_V (sg := sg) (by rw [sp_rul_j (by decide) (by decide)]) _ (by rw [sp_rul_j (by decide) (by decide)])]; exact hxu
          have hs1 : cr_isS (sp_rul sg (sp_e a u t) rule slack) a = true := by rw [cr_sm_S (sg := sg) (by rw [sp_rul_j (by decide) (by decide)])]; exact hs
          refine hr_aload_n X dX5_mend_98 rfl (Or.inr ⟨_, rfl⟩) ?_
          refine hr_aload X dX5_mend_99 rfl (hm_rf _) ?_
          refine hr_get X kF5_113 dX5_mend_101 (hR.c13 hxu1) rfl ?_
          rw [sp_rul_j (j := 4) (by decide) (by decide), hgo]
          refine hr_iload X dX5_mend_104 rfl ?_
          refine hr_callV X kC5_122 dX5_mend_106 (c_X5_addUse cA hR hI1 (nI g) (sb_sz kind rule - sb_sz kind (sg 8 (sp_e a u t)))) hR.c0 rfl rfl rfl rfl (Nat.le_of_ble_eq_true rfl) ⟨⟨(Nat.le_of_ble_eq_true rfl), (Nat.le_of_ble_eq_true rfl)⟩, (Nat.le_of_ble_eq_true rfl), (Nat.le_of_ble_eq_true rfl)⟩ (fun v M106 hp106 => ?_)
          obtain ⟨rfl, -, hp106⟩ := hp106
          have hR := hp106 (sp_nat_in (b := 3) (by decide) (by omega))
          rw [show nN (nI g) = g from nI_clamp (by omega)] at hR
          refine hr_aload_n X dX5_mend_109 rfl (Or.inr ⟨_, rfl⟩) ?_
          refine hr_aload_n X dX5_mend_110 rfl (Or.inr ⟨_, rfl⟩) ?_
          refine hr_callV X kC5_320 dX5_mend_111 (c_X5_gradeAgain cA (sg := sg) hR hI1 (show cr_o2 (sp_rul sg (sp_e a u t) rule slack) (mm_up ta 0 g (ta 0 g + (sb_sz kind rule - sb_sz kind (sg 8 (sp_e a u t))))) from by
            unfold cr_o2
            rw [sp_rul_j (j := 17) (by decide) (by decide), sp_rul_j (j := 18) (by decide) (by decide), sp_rul_j (j := 20) (by decide) (by decide), sp_rul_j (j := 21) (by decide) (by decide)]
            exact hok.o2.congr (mm_up_j (by decide)) (mm_up_j (by decide))) a hs1 (sp_rul_j (by decide) (by decide)) (sp_rul_j (by decide) (by decide)) (fun p hp h2 => by
            rw [sp_rul_j (by decide) (by decide)] at h2
            rw [mm_up_j (by decide)]
            exact hok.2.1 _ (by omega) h2)) hR.c0 rfl rfl rfl rfl (Nat.le_of_ble_eq_true rfl) ⟨⟨(Nat.le_of_ble_eq_true rfl), (Nat.le_of_ble_eq_true rfl)⟩, (Nat.le_of_ble_eq_true rfl), (Nat.le_of_ble_eq_true rfl)⟩ (fun v M111 hp111 => ?_)
          obtain ⟨rfl, ta2, hR, hA, hV⟩ := hp111
          have e1 : sp_cost (sp_rul sg (sp_e a u t) rule slack) (sp_e a u t) - sp_cost sg (sp_e a u t) = (sb_sz kind rule - sb_sz kind (sg 8 (sp_e a u t))) := by
            rw [← cr_cost u3, ← cr_cost (sg := (sp_rul sg (sp_e a u t) rule slack)) (by rw [sp_rul_j (j := 6) (by decide) (by decide)]; exact u3), sp_rul_8, show cr_kd (sp_rul sg (sp_e a u t) rule slack) (sp_e a u t) = cr_kd sg (sp_e a u t) by unfold cr_kd; rw [sp_rul_j (j := 6) (by decide) (by decide)], show cr_kd sg (sp_e a u t) = kind from c31]
          have hok2 := cr_ok_mend hI hok (rule := rule) (slack := slack) ha1 u1 ht hg hgo (fun j hj => mm_up_j hj) (fun z hz => mm_up_x hz) (by rw [mm_up_s, e1]) hA hV
          exact hr_iretX X dX5_mend_114 (Nat.le_of_ble_eq_true rfl) (Nat.le_of_ble_eq_true rfl) ⟨u, hmi, hpas, rfl, _, hR, hok2⟩
        · have hno : ∀ w, sp_men sg a v t kind = some w → sb_pas sg ta (sg 4 (16 * a + w)) (sb_sz kind rule - sb_sz kind (sg 8 (sp_e a w t))) = true := fun w hw => by
            rw [hmi] at hw
            cases hw
            exact hm_bI_ne.mp c71
          exact hr_throw X XE kT5_37_120_41 dX5_mend_74 dX5_mend_77 dX5_mend_78 dX5_mend_80 dX5_mend_83 rfl ⟨(Nat.le_of_ble_eq_true rfl), (Nat.le_of_ble_eq_true rfl), (Nat.le_of_ble_eq_true rfl), (Nat.le_of_ble_eq_true rfl)⟩ (Nat.le_of_ble_eq_true rfl) (Nat.le_of_ble_eq_true rfl) ⟨hno, rfl, rfl⟩
      · have hno : ∀ w, sp_men sg a v t kind = some w → sb_pas sg ta (sg 4 (16 * a + w)) (sb_sz kind rule - sb_sz kind (sg 8 (sp_e a w t))) = true := fun w hw => by
          rw [hmi, if_neg (fun z => c31 (by rw [hkd]; exact z))] at hw
          cases hw
        exact hr_throwW X XE kT5_37_309_41 dX5_mend_34 dX5_mend_37 dX5_mend_38 dX5_mend_41 dX5_mend_44 rfl ⟨(Nat.le_of_ble_eq_true rfl), (Nat.le_of_ble_eq_true rfl), (Nat.le_of_ble_eq_true rfl), (Nat.le_of_ble_eq_true rfl)⟩ (Nat.le_of_ble_eq_true rfl) (Nat.le_of_ble_eq_true rfl) ⟨hno, rfl, rfl⟩
set_option maxHeartbeats 4000000 in
set_option maxRecDepth 100000 in
theorem c_X5_mendNumber (cA : Nat → ClassId) {sg ta : mm_S} {ad : Nat → Nat → Nat} {M0 M : hm_M} (hR : cr_R cA sg ta ad M0 M) (hI : sp_I sg) (hok : cr_ok sg ta) (s v t value slack : Int32) : hm_XMet cA yX5_mendNumber cX5_mendNumber 8 (some .int) r_X5_mendNumber [.ref (ad 0 0), .int s, .int v, .int t, .int value, .int slack] M (fun v' M' => sp_thMen sg s v t (sp_in value (-1000) 1000 && sp_in slack 0 100) 0 = 0 ∧ v' = some (.int (sp_mendN sg (nN s) (sp_menE sg (nN s) (nN v) (nN t) 0) value slack)) ∧ ∃ ta' : mm_S, cr_R cA (sp_mend sg (nN s) (sp_menE sg (nN s) (nN v) (nN t) 0) value slack) ta' ad M0 M' ∧ cr_ok (sp_mend sg (nN s) (sp_menE sg (nN s) (nN v) (nN t) 0) value slack) ta') (fun E M' => ((sp_thMen sg s v t (sp_in value (-1000) 1000 && sp_in slack 0 100) 0 = 1 ∧ E = "java/lang/IndexOutOfBoundsException") ∨ (sp_thMen sg s v t (sp_in value (-1000) 1000 && sp_in slack 0 100) 0 = 2 ∧ E = "java/lang/IllegalArgumentException") ∨ (sp_thMen sg s v t (sp_in value (-1000) 1000 && sp_in slack 0 100) 0 = 3 ∧ E = "java/lang/IllegalStateException")) ∧ M = M') := by
  refine hm_xmet 2 (by decide +kernel) (fun w h => by simp only [List.mem_cons, List.not_mem_nil, or_false] at h; rcases h with rfl | rfl | rfl | rfl | rfl | rfl <;> rfl) rfl (fun C X XE => ?_)
  show hm_W C 0 0 _ M 0 [some (.ref (ad 0 0)), some (.int s), some (.int v), some (.int t), some (.int value), some (.int slack), none, none] []
  refine hr_aload_n X dX5_mendNumber_0 rfl (Or.inr ⟨_, rfl⟩) ?_
  refine hr_iload_n X dX5_mendNumber_1 rfl ?_
  refine hr_callVX X XE kC5_49 dX5_mendNumber_2 (c_X5_sheetAt cA hR hI s) hR.c0 rfl rfl rfl rfl (Nat.le_of_ble_eq_true rfl) ⟨⟨(Nat.le_of_ble_eq_true rfl), (Nat.le_of_ble_eq_true rfl)⟩, (Nat.le_of_ble_eq_true rfl), (Nat.le_of_ble_eq_true rfl)⟩ (Nat.le_of_ble_eq_true rfl) (Nat.le_of_ble_eq_true rfl) (fun _ _ h => ⟨(Or.inl ⟨(show sp_thMen sg s v t (sp_in value (-1000) 1000 && sp_in slack 0 100) 0 = 1 by unfold sp_thMen sp_nmd; rw [sp_isV_S h.1]; rfl), h.2.1⟩), h.2.2⟩) (fun v M2 hp2 => ?_)
  obtain ⟨⟨a, ha, hs, rfl, rfl⟩, rfl⟩ := hp2
  obtain ⟨ha1, ha4⟩ := cr_isS_4 hI hs
  refine hr_astore X dX5_mendNumber_5 (Nat.le_of_ble_eq_true rfl) (Or.inr ⟨_, rfl⟩) ?_
  refine hr_aload X dX5_mendNumber_7 rfl (Or.inr ⟨_, rfl⟩) ?_
  refine hr_iload_n X dX5_mendNumber_9 rfl ?_
  refine hr_callSX X XE kC5_86 dX5_mendNumber_10 (c_X5_versionAt cA hR hI a hs v) rfl rfl rfl (Nat.le_of_ble_eq_true rfl) ⟨⟨(Nat.le_of_ble_eq_true rfl), (Nat.le_of_ble_eq_true rfl)⟩, (Nat.le_of_ble_eq_true rfl), (Nat.le_of_ble_eq_true rfl)⟩ (Nat.le_of_ble_eq_true rfl) (Nat.le_of_ble_eq_true rfl) (fun _ _ h => ⟨(Or.inl ⟨(show sp_thMen sg (nI a) v t (sp_in value (-1000) 1000 && sp_in slack 0 100) 0 = 1 by unfold sp_thMen sp_nmd; rw [h.1]; rfl), h.2.1⟩), h.2.2⟩) (fun v M10 hp10 => ?_)
  obtain ⟨⟨c, hc, hn, rfl, rfl⟩, rfl⟩ := hp10
  have hv : sp_th sg a c := ⟨hc, hn⟩
  have hx := cr_isV_th ha1 hv
  have hV := sp_isV_yes hI ha4 hs hc hn
  refine hr_astore X dX5_mendNumber_13 (Nat.le_of_ble_eq_true rfl) (Or.inr ⟨_, rfl⟩) ?_
  refine hr_iload_n X dX5_mendNumber_15 rfl ?_
  refine hr_callSX X XE kC5_53 dX5_mendNumber_16 (c_X5_checkTask cA (M := M) t) rfl rfl rfl (Nat.le_of_ble_eq_true rfl) ⟨⟨(Nat.le_of_ble_eq_true rfl), (Nat.le_of_ble_eq_true rfl)⟩, (Nat.le_of_ble_eq_true rfl), (Nat.le_of_ble_eq_true rfl)⟩ (Nat.le_of_ble_eq_true rfl) (Nat.le_of_ble_eq_true rfl) (fun _ _ h => ⟨(Or.inl ⟨(show sp_thMen sg (nI a) (nI c) t (sp_in value (-1000) 1000 && sp_in slack 0 100) 0 = 1 by unfold sp_thMen sp_nmd; rw [h.1, Bool.and_false]; rfl), h.2.1⟩), h.2.2⟩) (fun v M16 hp16 => ?_)
  obtain ⟨h16, rfl, rfl⟩ := hp16
  obtain ⟨t, ht, rfl⟩ := sp_in_t5 h16
  have hN : sp_nmd sg (nI a) (nI c) (nI t) = true := sb_andT hV h16
  have en : nN (nI a) = a := nI_clamp (by omega)
  have en2 : nN (nI c) = c := nI_clamp (by omega)
  have en3 : nN (nI t) = t := nI_clamp (by omega)
  refine hr_iload X dX5_mendNumber_19 rfl ?_
  refine hr_iload X dX5_mendNumber_21 rfl ?_
  refine hr_callSX X XE kC5_60 dX5_mendNumber_23 (c_X5_checkNumberRule cA (M := M) value slack) rfl rfl rfl (Nat.le_of_ble_eq_true rfl) ⟨⟨(Nat.le_of_ble_eq_true rfl), (Nat.le_of_ble_eq_true rfl)⟩, (Nat.le_of_ble_eq_true rfl), (Nat.le_of_ble_eq_true rfl)⟩ (Nat.le_of_ble_eq_true rfl) (Nat.le_of_ble_eq_true rfl) (fun _ _ h => ⟨(Or.inr (Or.inl ⟨(show sp_thMen sg (nI a) (nI c) (nI t) (sp_in value (-1000) 1000 && sp_in slack 0 100) 0 = 2 by unfold sp_thMen; rw [hN, h.1]; rfl), h.2.1⟩)), h.2.2⟩) (fun v M23 hp23 => ?_)
  obtain ⟨h22, rfl, rfl⟩ := hp23
  refine hr_aload_n X dX5_mendNumber_26 rfl (Or.inr ⟨_, rfl⟩) ?_
  refine hr_aload X dX5_mendNumber_27 rfl (Or.inr ⟨_, rfl⟩) ?_
  refine hr_aload X dX5_mendNumber_29 rfl (Or.inr ⟨_, rfl⟩) ?_
  refine hr_iload_n X dX5_mendNumber_31 rfl ?_
  refine hr_iconst (0) X dX5_mendNumber_32 (by decide) ?_
  refine hr_iload X dX5_mendNumber_33 rfl ?_
  refine hr_iload X dX5_mendNumber_35 rfl ?_
  refine hr_callVX X XE kC5_149 dX5_mendNumber_37 (c_X5_mend cA hR hI hok a c t hs hv ht 0 value slack (fun u hu => sp_okR_of (sp_men_some hI ha1 hv hu).2.2 (Or.inl ⟨rfl, (Bool.and_eq_true _ _ ▸ h22).1, (Bool.and_eq_true _ _ ▸ h22).2⟩))) hR.c0 rfl rfl rfl rfl (Nat.le_of_ble_eq_true rfl) ⟨⟨(Nat.le_of_ble_eq_true rfl), (Nat.le_of_ble_eq_true rfl)⟩, (Nat.le_of_ble_eq_true rfl), (Nat.le_of_ble_eq_true rfl)⟩ (Nat.le_of_ble_eq_true rfl) (Nat.le_of_ble_eq_true rfl) (fun _ _ h => ⟨(Or.inr (Or.inr ⟨(show sp_thMen sg (nI a) (nI c) (nI t) (sp_in value (-1000) 1000 && sp_in slack 0 100) 0 = 3 by
    have hno : sp_men sg a c t 0 = none := by
      cases hq : sp_men sg a c t 0 with
      | none => rfl
      | some u =>
        have := h.1 u hq
        unfold sb_pas sb_sz at this
        revert this
        simp
    unfold sp_thMen
    rw [hN, h22, en, en2, en3, hno]
    rfl), h.2.1⟩)), h.2.2⟩) (fun v M37 hp37 => ?_)
  obtain ⟨u, hu, hp, rfl, ta2, hR, hok2⟩ := hp37
  have hE : sp_menE sg (nN (nI a)) (nN (nI c)) (nN (nI t)) 0 = sp_e a u t := by
    unfold sp_menE
    rw [en, en2, en3, hu]
  have hz : sp_thMen sg (nI a) (nI c) (nI t) (sp_in value (-1000) 1000 && sp_in slack 0 100) 0 = 0 := by
    unfold sp_thMen
    rw [hN, h22, en, en2, en3, hu]
    rfl
  exact hr_iretX X dX5_mendNumber_40 (Nat.le_of_ble_eq_true rfl) (Nat.le_of_ble_eq_true rfl) ⟨hz, by rw [hE, en], ta2, by rw [hE, en]; exact hR, by rw [hE, en]; exact hok2⟩
set_option maxHeartbeats 4000000 in
set_option maxRecDepth 100000 in
theorem c_X5_mendChoice (cA : Nat → ClassId) {sg ta : mm_S} {ad : Nat → Nat → Nat} {M0 M : hm_M} (hR : cr_R cA sg ta ad M0 M) (hI : sp_I sg) (hok : cr_ok sg ta) (s v t signs : Int32) : hm_XMet cA yX5_mendChoice cX5_mendChoice 7 (some .int) r_X5_mendChoice [.ref (ad 0 0), .int s, .int v, .int t, .int signs] M (fun v' M' => sp_thMen sg s v t (sp_in signs 0 31) 1 = 0 ∧ v' = some (.int (sp_mendN sg (nN s) (sp_menE sg (nN s) (nN v) (nN t) 1) signs 0)) ∧ ∃ ta' : mm_S, cr_R cA (sp_mend sg (nN s) (sp_menE sg (nN s) (nN v) (nN t) 1) signs 0) ta' ad M0 M' ∧ cr_ok (sp_mend sg (nN s) (sp_menE sg (nN s) (nN v) (nN t) 1) signs 0) ta') (fun E M' => ((sp_thMen sg s v t (sp_in signs 0 31) 1 = 1 ∧ E = "java/lang/IndexOutOfBoundsException") ∨ (sp_thMen sg s v t (sp_in signs 0 31) 1 = 2 ∧ E = "java/lang/IllegalArgumentException") ∨ (sp_thMen sg s v t (sp_in signs 0 31) 1 = 3 ∧ E = "java/lang/IllegalStateException")) ∧ M = M') := by
  refine hm_xmet 2 (by decide +kernel) (fun w h => by simp only [List.mem_cons, List.not_mem_nil, or_false] at h; rcases h with rfl | rfl | rfl | rfl | rfl <;> rfl) rfl (fun C X XE => ?_)
  show hm_W C 0 0 _ M 0 [some (.ref (ad 0 0)), some (.int s), some (.int v), some (.int t), some (.int signs), none, none] []
  refine hr_aload_n X dX5_mendChoice_0 rfl (Or.inr ⟨_, rfl⟩) ?_
  refine hr_iload_n X dX5_mendChoice_1 rfl ?_
  refine hr_callVX X XE kC5_49 dX5_mendChoice_2 (c_X5_sheetAt cA hR hI s) hR.c0 rfl rfl rfl rfl (Nat.le_of_ble_eq_true rfl) ⟨⟨(Nat.le_of_ble_eq_true rfl), (Nat.le_of_ble_eq_true rfl)⟩, (Nat.le_of_ble_eq_true rfl), (Nat.le_of_ble_eq_true rfl)⟩ (Nat.le_of_ble_eq_true rfl) (Nat.le_of_ble_eq_true rfl) (fun _ _ h => ⟨(Or.inl ⟨(show sp_thMen sg s v t (sp_in signs 0 31) 1 = 1 by unfold sp_thMen sp_nmd; rw [sp_isV_S h.1]; rfl), h.2.1⟩), h.2.2⟩) (fun v M2 hp2 => ?_)
  obtain ⟨⟨a, ha, hs, rfl, rfl⟩, rfl⟩ := hp2
  obtain ⟨ha1, ha4⟩ := cr_isS_4 hI hs
  refine hr_astore X dX5_mendChoice_5 (Nat.le_of_ble_eq_true rfl) (Or.inr ⟨_, rfl⟩) ?_
  refine hr_aload X dX5_mendChoice_7 rfl (Or.inr ⟨_, rfl⟩) ?_
  refine hr_iload_n X dX5_mendChoice_9 rfl ?_
  refine hr_callSX X XE kC5_86 dX5_mendChoice_10 (c_X5_versionAt cA hR hI a hs v) rfl rfl rfl (Nat.le_of_ble_eq_true rfl) ⟨⟨(Nat.le_of_ble_eq_true rfl), (Nat.le_of_ble_eq_true rfl)⟩, (Nat.le_of_ble_eq_true rfl), (Nat.le_of_ble_eq_true rfl)⟩ (Nat.le_of_ble_eq_true rfl) (Nat.le_of_ble_eq_true rfl) (fun _ _ h => ⟨(Or.inl ⟨(show sp_thMen sg (nI a) v t (sp_in signs 0 31) 1 = 1 by unfold sp_thMen sp_nmd; rw [h.1]; rfl), h.2.1⟩), h.2.2⟩) (fun v M10 hp10 => ?_)
  obtain ⟨⟨c, hc, hn, rfl, rfl⟩, rfl⟩ := hp10
  have hv : sp_th sg a c := ⟨hc, hn⟩
  have hx := cr_isV_th ha1 hv
  have hV := sp_isV_yes hI ha4 hs hc hn
  refine hr_astore X dX5_mendChoice_13 (Nat.le_of_ble_eq_true rfl) (Or.inr ⟨_, rfl⟩) ?_
  refine hr_iload_n X dX5_mendChoice_15 rfl ?_
  refine hr_callSX X XE kC5_53 dX5_mendChoice_16 (c_X5_checkTask cA (M := M) t) rfl rfl rfl (Nat.le_of_ble_eq_true rfl) ⟨⟨(Nat.le_of_ble_eq_true rfl), (Nat.le_of_ble_eq_true rfl)⟩, (Nat.le_of_ble_eq_true rfl), (Nat.le_of_ble_eq_true rfl)⟩ (Nat.le_of_ble_eq_true rfl) (Nat.le_of_ble_eq_true rfl) (fun _ _ h => ⟨(Or.inl ⟨(show sp_thMen sg (nI a) (nI c) t (sp_in signs 0 31) 1 = 1 by unfold sp_thMen sp_nmd; rw [h.1, Bool.and_false]; rfl), h.2.1⟩), h.2.2⟩) (fun v M16 hp16 => ?_)
  obtain ⟨h16, rfl, rfl⟩ := hp16
  obtain ⟨t, ht, rfl⟩ := sp_in_t5 h16
  have hN : sp_nmd sg (nI a) (nI c) (nI t) = true := sb_andT hV h16
  have en : nN (nI a) = a := nI_clamp (by omega)
  have en2 : nN (nI c) = c := nI_clamp (by omega)
  have en3 : nN (nI t) = t := nI_clamp (by omega)
  refine hr_iload X dX5_mendChoice_19 rfl ?_
  refine hr_iconst (0) X dX5_mendChoice_21 (by decide) ?_
  refine hr_bipush (31) X dX5_mendChoice_22 (by decide) ?_
  refine hr_callSX X XE kC5_56 dX5_mendChoice_24 (c_X5_checkRange cA (M := M) signs 0 31) rfl rfl rfl (Nat.le_of_ble_eq_true rfl) ⟨⟨(Nat.le_of_ble_eq_true rfl), (Nat.le_of_ble_eq_true rfl)⟩, (Nat.le_of_ble_eq_true rfl), (Nat.le_of_ble_eq_true rfl)⟩ (Nat.le_of_ble_eq_true rfl) (Nat.le_of_ble_eq_true rfl) (fun _ _ h => ⟨(Or.inr (Or.inl ⟨(show sp_thMen sg (nI a) (nI c) (nI t) (sp_in signs 0 31) 1 = 2 by unfold sp_thMen; rw [hN, h.1]; rfl), h.2.1⟩)), h.2.2⟩) (fun v M24 hp24 => ?_)
  obtain ⟨h22, rfl, rfl⟩ := hp24
  refine hr_aload_n X dX5_mendChoice_27 rfl (Or.inr ⟨_, rfl⟩) ?_
  refine hr_aload X dX5_mendChoice_28 rfl (Or.inr ⟨_, rfl⟩) ?_
  refine hr_aload X dX5_mendChoice_30 rfl (Or.inr ⟨_, rfl⟩) ?_
  refine hr_iload_n X dX5_mendChoice_32 rfl ?_
  refine hr_iconst (1) X dX5_mendChoice_33 (by decide) ?_
  refine hr_iload X dX5_mendChoice_34 rfl ?_
  refine hr_iconst (0) X dX5_mendChoice_36 (by decide) ?_
  refine hr_callVX X XE kC5_149 dX5_mendChoice_37 (c_X5_mend cA hR hI hok a c t hs hv ht 1 signs 0 (fun u hu => sp_okR_of (sp_men_some hI ha1 hv hu).2.2 (Or.inr (Or.inl ⟨rfl, h22⟩)))) hR.c0 rfl rfl rfl rfl (Nat.le_of_ble_eq_true rfl) ⟨⟨(Nat.le_of_ble_eq_true rfl), (Nat.le_of_ble_eq_true rfl)⟩, (Nat.le_of_ble_eq_true rfl), (Nat.le_of_ble_eq_true rfl)⟩ (Nat.le_of_ble_eq_true rfl) (Nat.le_of_ble_eq_true rfl) (fun _ _ h => ⟨(Or.inr (Or.inr ⟨(show sp_thMen sg (nI a) (nI c) (nI t) (sp_in signs 0 31) 1 = 3 by
    have hno : sp_men sg a c t 1 = none := by
      cases hq : sp_men sg a c t 1 with
      | none => rfl
      | some u =>
        have := h.1 u hq
        unfold sb_pas sb_sz at this
        revert this
        simp
    unfold sp_thMen
    rw [hN, h22, en, en2, en3, hno]
    rfl), h.2.1⟩)), h.2.2⟩) (fun v M37 hp37 => ?_)
  obtain ⟨u, hu, hp, rfl, ta2, hR, hok2⟩ := hp37
  have hE : sp_menE sg (nN (nI a)) (nN (nI c)) (nN (nI t)) 1 = sp_e a u t := by
    unfold sp_menE
    rw [en, en2, en3, hu]
  have hz : sp_thMen sg (nI a) (nI c) (nI t) (sp_in signs 0 31) 1 = 0 := by
    unfold sp_thMen
    rw [hN, h22, en, en2, en3, hu]
    rfl
  exact hr_iretX X dX5_mendChoice_40 (Nat.le_of_ble_eq_true rfl) (Nat.le_of_ble_eq_true rfl) ⟨hz, by rw [hE, en], ta2, by rw [hE, en]; exact hR, by rw [hE, en]; exact hok2⟩
set_option maxHeartbeats 4000000 in
set_option maxRecDepth 100000 in
theorem c_X5_mendWords (cA : Nat → ClassId) {sg ta : mm_S} {ad : Nat → Nat → Nat} {M0 M : hm_M} (hR : cr_R cA sg ta ad M0 M) (hI : sp_I sg) (hok : cr_ok sg ta) (s v t words : Int32) : hm_XMet cA yX5_mendWords cX5_mendWords 7 (some .int) r_X5_mendWords [.ref (ad 0 0), .int s, .int v, .int t, .int words] M (fun v' M' => sp_thMenW sg s v t words = 0 ∧ v' = some (.int (sp_mendN sg (nN s) (sp_menE sg (nN s) (nN v) (nN t) 2) words 0)) ∧ ∃ ta' : mm_S, cr_R cA (sp_mend sg (nN s) (sp_menE sg (nN s) (nN v) (nN t) 2) words 0) ta' ad M0 M' ∧ cr_ok (sp_mend sg (nN s) (sp_menE sg (nN s) (nN v) (nN t) 2) words 0) ta') (fun E M' => ((sp_thMenW sg s v t words = 1 ∧ E = "java/lang/IndexOutOfBoundsException") ∨ (sp_thMenW sg s v t words = 2 ∧ E = "java/lang/IllegalArgumentException") ∨ (sp_thMenW sg s v t words = 3 ∧ E = "java/lang/IllegalStateException")) ∧ M = M') := by
  refine hm_xmet 2 (by decide +kernel) (fun w h => by simp only [List.mem_cons, List.not_mem_nil, or_false] at h; rcases h with rfl | rfl | rfl | rfl | rfl <;> rfl) rfl (fun C X XE => ?_)
  show hm_W C 0 0 _ M 0 [some (.ref (ad 0 0)), some (.int s), some (.int v), some (.int t), some (.int words), none, none] []
  refine hr_aload_n X dX5_mendWords_0 rfl (Or.inr ⟨_, rfl⟩) ?_
  refine hr_iload_n X dX5_mendWords_1 rfl ?_
  refine hr_callVX X XE kC5_49 dX5_mendWords_2 (c_X5_sheetAt cA hR hI s) hR.c0 rfl rfl rfl rfl (Nat.le_of_ble_eq_true rfl) ⟨⟨(Nat.le_of_ble_eq_true rfl), (Nat.le_of_ble_eq_true rfl)⟩, (Nat.le_of_ble_eq_true rfl), (Nat.le_of_ble_eq_true rfl)⟩ (Nat.le_of_ble_eq_true rfl) (Nat.le_of_ble_eq_true rfl) (fun _ _ h => ⟨(Or.inl ⟨(show sp_thMenW sg s v t words = 1 by unfold sp_thMenW sp_nmd; rw [sp_isV_S h.1]; rfl), h.2.1⟩), h.2.2⟩) (fun v M2 hp2 => ?_)
  obtain ⟨⟨a, ha, hs, rfl, rfl⟩, rfl⟩ := hp2
  obtain ⟨ha1, ha4⟩ := cr_isS_4 hI hs
  refine hr_astore X dX5_mendWords_5 (Nat.le_of_ble_eq_true rfl) (Or.inr ⟨_, rfl⟩) ?_
  refine hr_aload X dX5_mendWords_7 rfl (Or.inr ⟨_, rfl⟩) ?_
  refine hr_iload_n X dX5_mendWords_9 rfl ?_
  refine hr_callSX X XE kC5_86 dX5_mendWords_10 (c_X5_versionAt cA hR hI a hs v) rfl rfl rfl (Nat.le_of_ble_eq_true rfl) ⟨⟨(Nat.le_of_ble_eq_true rfl), (Nat.le_of_ble_eq_true rfl)⟩, (Nat.le_of_ble_eq_true rfl), (Nat.le_of_ble_eq_true rfl)⟩ (Nat.le_of_ble_eq_true rfl) (Nat.le_of_ble_eq_true rfl) (fun _ _ h => ⟨(Or.inl ⟨(show sp_thMenW sg (nI a) v t words = 1 by unfold sp_thMenW sp_nmd; rw [h.1]; rfl), h.2.1⟩), h.2.2⟩) (fun v M10 hp10 => ?_)
  obtain ⟨⟨c, hc, hn, rfl, rfl⟩, rfl⟩ := hp10
  have hv : sp_th sg a c := ⟨hc, hn⟩
  have hx := cr_isV_th ha1 hv
  have hV := sp_isV_yes hI ha4 hs hc hn
  refine hr_astore X dX5_mendWords_13 (Nat.le_of_ble_eq_true rfl) (Or.inr ⟨_, rfl⟩) ?_
  refine hr_iload_n X dX5_mendWords_15 rfl ?_
  refine hr_callSX X XE kC5_53 dX5_mendWords_16 (c_X5_checkTask cA (M := M) t) rfl rfl rfl (Nat.le_of_ble_eq_true rfl) ⟨⟨(Nat.le_of_ble_eq_true rfl), (Nat.le_of_ble_eq_true rfl)⟩, (Nat.le_of_ble_eq_true rfl), (Nat.le_of_ble_eq_true rfl)⟩ (Nat.le_of_ble_eq_true rfl) (Nat.le_of_ble_eq_true rfl) (fun _ _ h => ⟨(Or.inl ⟨(show sp_thMenW sg (nI a) (nI c) t words = 1 by unfold sp_thMenW sp_nmd; rw [h.1, Bool.and_false]; rfl), h.2.1⟩), h.2.2⟩) (fun v M16 hp16 => ?_)
  obtain ⟨h16, rfl, rfl⟩ := hp16
  obtain ⟨t, ht, rfl⟩ := sp_in_t5 h16
  have hN : sp_nmd sg (nI a) (nI c) (nI t) = true := sb_andT hV h16
  have en : nN (nI a) = a := nI_clamp (by omega)
  have en2 : nN (nI c) = c := nI_clamp (by omega)
  have en3 : nN (nI t) = t := nI_clamp (by omega)
  refine hr_iload X dX5_mendWords_19 rfl ?_
  refine hr_callSX X XE kC5_73 dX5_mendWords_21 (c_X5_checkWordsRule cA (M := M) words) rfl rfl rfl (Nat.le_of_ble_eq_true rfl) ⟨⟨(Nat.le_of_ble_eq_true rfl), (Nat.le_of_ble_eq_true rfl)⟩, (Nat.le_of_ble_eq_true rfl), (Nat.le_of_ble_eq_true rfl)⟩ (Nat.le_of_ble_eq_true rfl) (Nat.le_of_ble_eq_true rfl) (fun _ _ h => ⟨(Or.inr (Or.inl ⟨(show sp_thMenW sg (nI a) (nI c) (nI t) words = 2 by unfold sp_thMenW; rw [hN, h.1]; rfl), h.2.1⟩)), h.2.2⟩) (fun v M21 hp21 => ?_)
  obtain ⟨h22, rfl, rfl⟩ := hp21
  refine hr_aload_n X dX5_mendWords_24 rfl (Or.inr ⟨_, rfl⟩) ?_
  refine hr_aload X dX5_mendWords_25 rfl (Or.inr ⟨_, rfl⟩) ?_
  refine hr_aload X dX5_mendWords_27 rfl (Or.inr ⟨_, rfl⟩) ?_
  refine hr_iload_n X dX5_mendWords_29 rfl ?_
  refine hr_iconst (2) X dX5_mendWords_30 (by decide) ?_
  refine hr_iload X dX5_mendWords_31 rfl ?_
  refine hr_iconst (0) X dX5_mendWords_33 (by decide) ?_
  refine hr_callVX X XE kC5_149 dX5_mendWords_34 (c_X5_mend cA hR hI hok a c t hs hv ht 2 words 0 (fun u hu => sp_okR_of (sp_men_some hI ha1 hv hu).2.2 (Or.inr (Or.inr ⟨rfl, h22⟩)))) hR.c0 rfl rfl rfl rfl (Nat.le_of_ble_eq_true rfl) ⟨⟨(Nat.le_of_ble_eq_true rfl), (Nat.le_of_ble_eq_true rfl)⟩, (Nat.le_of_ble_eq_true rfl), (Nat.le_of_ble_eq_true rfl)⟩ (Nat.le_of_ble_eq_true rfl) (Nat.le_of_ble_eq_true rfl) (fun _ _ h => ⟨(Or.inr (Or.inr ⟨(show sp_thMenW sg (nI a) (nI c) (nI t) words = 3 by
    have hno : sp_menW sg a c t words = false := by
      unfold sp_menW
      cases hq : sp_men sg a c t 2 with
      | none => rfl
      | some u =>
        dsimp only
        have hp := h.1 u hq
        obtain ⟨m1, m2, m3⟩ := sp_men_some hI ha1 hv hq
        have u4 := (sp_has_some hI ha1 hv m1).2.2.1
        obtain ⟨g, hg, hgo⟩ := sp_own hI ha1 m2 ht u4
        rw [hgo, cr_fits hok hg] at hp
        rw [hgo, show nN (nI g) = g from nI_clamp (by omega), ← cr_cost u4, show cr_kd sg (sp_e a u t) = 2 by rw [cr_kd, if_neg (by rw [m3]; decide), m3]]
        exact sb_notT hp
    unfold sp_thMenW
    rw [hN, h22, en, en2, en3, hno]
    rfl), h.2.1⟩)), h.2.2⟩) (fun v M34 hp34 => ?_)
  obtain ⟨u, hu, hp, rfl, ta2, hR, hok2⟩ := hp34
  have hE : sp_menE sg (nN (nI a)) (nN (nI c)) (nN (nI t)) 2 = sp_e a u t := by
    unfold sp_menE
    rw [en, en2, en3, hu]
  have hgr : sp_menW sg a c t words = true := by
    unfold sp_menW
    rw [hu]
    dsimp only
    obtain ⟨m1, m2, m3⟩ := sp_men_some hI ha1 hv hu
    have u4 := (sp_has_some hI ha1 hv m1).2.2.1
    obtain ⟨g, hg, hgo⟩ := sp_own hI ha1 m2 ht u4
    rw [hgo, cr_fits hok hg] at hp
    rw [hgo, show nN (nI g) = g from nI_clamp (by omega), ← cr_cost u4, show cr_kd sg (sp_e a u t) = 2 by rw [cr_kd, if_neg (by rw [m3]; decide), m3]]
    exact sb_notF hp
  have hz : sp_thMenW sg (nI a) (nI c) (nI t) words = 0 := by
    unfold sp_thMenW
    rw [hN, h22, en, en2, en3, hgr]
    rfl
  exact hr_iretX X dX5_mendWords_37 (Nat.le_of_ble_eq_true rfl) (Nat.le_of_ble_eq_true rfl) ⟨hz, by rw [hE, en], ta2, by rw [hE, en]; exact hR, by rw [hE, en]; exact hok2⟩
