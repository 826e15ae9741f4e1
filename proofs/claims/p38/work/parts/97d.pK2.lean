/-! the invariant kept: folds, mends, what is said, closes -/
section LK2
variable {sg : mm_S}
theorem lk_fold (hI : sp_I sg) (hJ : sp_J sg) (hK : sp_K sg) {s v : Int32} (h : sp_thFold sg s v = 0) : sp_K (sp_foldS sg (nN s) (nN v)) := by
  have hII := (lp_fold hI hJ h).1
  unfold sp_thFold at h
  by_cases h1 : sp_isV sg s v = true
  · rw [if_pos h1] at h
    by_cases h2 : sp_cFold sg (nN s) (nN v) = true
    · obtain ⟨a, b, ha, ha4, rfl, rfl, hth⟩ := sp_isV_nat hI h1
      have hb := hth.1
      rw [show nN (nI a) = a from nI_clamp (by omega), show nN (nI b) = b from nI_clamp (by omega)] at h2 hII ⊢
      unfold sp_cFold at h2
      rw [Bool.and_eq_true] at h2
      have hn : sp_need sg a b = false := by
        have := h2.1
        cases z : sp_need sg a b with
        | false => rfl
        | true => rw [z] at this; cases this
      have fd := sp_fd_of hI ha hth hn
      show sp_K (sp_fdF sg a b (sp_toO sg a b))
      have hII' : sp_I (sp_fdF sg a b (sp_toO sg a b)) := hII
      have hf := h2.2
      unfold sp_toO at fd hII' ⊢
      refine hK.of sp_fdF_n (sp_fdF_j (by decide)) (sp_fdF_j (by decide)) (sp_fdF_j (by decide)) (sp_fdF_j (by decide)) (fun k hk h2 => sp_due_fold hI fd hk (by rw [h2]; decide)) (fun g hg => ?_)
      have hp := lk_pos hII' (nI g)
      rw [sp_fdF_j (j := 12) (by decide)]
      refine ⟨(hK.2.2.2 g hg).1, ?_⟩
      rw [sp_used_fold hI fd] at hp ⊢
      obtain ⟨r, r1, r2⟩ := sp_pass_N sg (16 * a + b) none false
      have dneg : (-nI r : Int32).toInt = -(r : Int) := by rw [Int32.toInt_neg, nI_toInt (by omega), sl_bmod (by omega) (by omega)]
      have zero : (0 : Int32).toInt = 0 := by decide
      refine lk_step (hK.2.2.2 g hg).2 (hK.2.2.2 g hg).1 ?_ ?_ hp
      · cases q : sp_chO sg a b with
        | none =>
          show -100 ≤ ((0 : Int32) + (if sg 4 (16 * a + b) = nI g then -sp_pass sg (16 * a + b) none false else 0)).toInt ∧ ((0 : Int32) + (if sg 4 (16 * a + b) = nI g then -sp_pass sg (16 * a + b) none false else 0)).toInt ≤ 100
          rw [Int32.zero_add, r1]
          split
          · rw [dneg]; omega
          · rw [zero]; omega
        | some c =>
          show -100 ≤ ((if sg 4 (16 * a + c) = nI g then sp_pass sg (16 * a + b) (some (16 * a + c)) true else 0) + _ : Int32).toInt ∧ _
          obtain ⟨m, m1, m2⟩ := sp_pass_N sg (16 * a + b) (some (16 * a + c)) true
          show -100 ≤ ((if sg 4 (16 * a + c) = nI g then sp_pass sg (16 * a + b) (some (16 * a + c)) true else 0) + (if sg 4 (16 * a + b) = nI g then -sp_pass sg (16 * a + b) none false else 0) : Int32).toInt ∧ ((if sg 4 (16 * a + c) = nI g then sp_pass sg (16 * a + b) (some (16 * a + c)) true else 0) + (if sg 4 (16 * a + b) = nI g then -sp_pass sg (16 * a + b) none false else 0) : Int32).toInt ≤ 100
          rw [r1, m1]
          have n1 : (nI m).toInt = m := nI_toInt (by omega)
          split <;> split <;> rw [Int32.toInt_add] <;> simp only [dneg, zero, n1] <;> rw [sl_bmod (by omega) (by omega)] <;> omega
      · cases q : sp_chO sg a b with
        | none =>
          show (decide ((0 : Int32) + _ ≤ 0) || _) = true
          rw [Int32.zero_add, r1, Bool.or_eq_true, decide_eq_true_eq]
          left
          split
          · rw [Int32.le_iff_toInt_le, dneg, zero]; omega
          · exact Int32.le_refl 0
        | some c =>
          rw [q] at hf
          dsimp only at hf
          obtain ⟨m, m1, m2⟩ := sp_pass_N sg (16 * a + b) (some (16 * a + c)) true
          show (decide ((if sg 4 (16 * a + c) = nI g then sp_pass sg (16 * a + b) (some (16 * a + c)) true else 0) + (if sg 4 (16 * a + b) = nI g then -sp_pass sg (16 * a + b) none false else 0) ≤ 0) || decide (sp_used sg (nI g) + ((if sg 4 (16 * a + c) = nI g then sp_pass sg (16 * a + b) (some (16 * a + c)) true else 0) + (if sg 4 (16 * a + b) = nI g then -sp_pass sg (16 * a + b) none false else 0)) ≤ sg 12 g)) = true
          by_cases z : sg 4 (16 * a + c) = nI g
          · rw [if_pos z]
            rw [z, show nN (nI g) = g from nI_clamp (by omega)] at hf
            unfold sp_fits sp_less at hf
            rw [z] at hf
            by_cases y : sg 4 (16 * a + b) = nI g
            · rw [if_pos y] at hf ⊢
              rw [← Int32.sub_eq_add_neg]
              exact hf
            · rw [if_neg y] at hf ⊢
              rw [Int32.add_zero]
              rw [Int32.sub_eq_add_neg, Int32.neg_zero, Int32.add_zero] at hf
              exact hf
          · rw [if_neg z, Int32.zero_add, r1, Bool.or_eq_true, decide_eq_true_eq]
            left
            split
            · rw [Int32.le_iff_toInt_le, dneg, zero]; omega
            · exact Int32.le_refl 0
    · rw [if_neg h2] at h
      exact absurd h (by decide)
  · rw [if_neg h1] at h
    exact absurd h (by decide)
/-- a mend: what the marks and what is told are then -/
theorem lk_mdS (hI : sp_I sg) (hK : sp_K sg) {sg1 : mm_S} (h1 : sp_I sg1) (e13 : sg1 13 = sg 13) (e15 : sg1 15 = sg 15) (e16 : sg1 16 = sg 16) {s : Nat} : ∀ n k, k < 48 → sg 13 k = 2 → 0 ≤ sp_mdS sg sg1 s n 15 k ∧ (sp_cls sg k = 0 → sp_mdS sg sg1 s n 16 k = 0 ∧ ((∃ p, p < n ∧ k = 12 * s + p) → sp_mdS sg sg1 s n 15 k = sp_due sg1 k) ∧ ((∀ p, p < n → k ≠ 12 * s + p) → sp_mdS sg sg1 s n 15 k = sg 15 k))
  | 0, k, hk, h2 => by
    obtain ⟨a, b⟩ := hK.2.1 k hk h2
    refine ⟨by show 0 ≤ sg1 15 k; rw [e15]; exact a, fun hc => ⟨by show sg1 16 k = 0; rw [e16]; exact (b hc).2, ?_, fun _ => by show sg1 15 k = sg 15 k; rw [e15]⟩⟩
    rintro ⟨p, hp, -⟩
    exact absurd hp (Nat.not_lt_zero p)
  | n + 1, k, hk, h2 => by
    obtain ⟨ih1, ih2⟩ := lk_mdS hI hK h1 e13 e15 e16 n k hk h2
    by_cases z : k = 12 * s + n
    · by_cases hq : sp_chg sg sg1 (12 * s + n) = true
      · have e5 : sp_mdS sg sg1 s (n + 1) 15 (12 * s + n) = if sp_cls sg (12 * s + n) = 0 then sp_due sg1 (12 * s + n) else sp_mdS sg sg1 s n 15 (12 * s + n) := by
          rw [sp_mdS, if_pos hq, mm_up_s]
        have e6 : sp_mdS sg sg1 s (n + 1) 16 (12 * s + n) = sp_mdS sg sg1 s n 16 (12 * s + n) + (if sp_cls sg (12 * s + n) = 0 then 0 else 1) := by
          rw [sp_mdS, if_pos hq, mm_up_j (by decide), mm_up_s]
        rw [← z] at e5 e6
        refine ⟨?_, fun hc => ⟨?_, fun _ => ?_, fun w => absurd z (w n (Nat.lt_succ_self n))⟩⟩
        · rw [e5]
          split
          · obtain ⟨N, e, hN⟩ := lk_due h1 hk (by rw [e13, h2]; decide)
            rw [e]
            exact nI_pos' (by omega)
          · exact ih1
        · rw [e6, if_pos hc, (ih2 hc).1]
          rfl
        · rw [e5, if_pos hc]
      · have hq' := Bool.eq_false_iff.mpr hq
        rw [sp_mdS_n hq']
        refine ⟨ih1, fun hc => ⟨(ih2 hc).1, fun _ => ?_, fun w => absurd z (w n (Nat.lt_succ_self n))⟩⟩
        rw [(ih2 hc).2.2 (fun p hp w => by omega), ((hK.2.1 k hk h2).2 hc).1]
        unfold sp_chg at hq'
        rw [← z, decide_eq_true h2, Bool.true_and, Bool.not_eq_false', decide_eq_true_eq] at hq'
        exact hq'.symm
    · rw [sp_mdS_x z, sp_mdS_x z]
      refine ⟨ih1, fun hc => ⟨(ih2 hc).1, ?_, fun w => (ih2 hc).2.2 (fun p hp => w p (by omega))⟩⟩
      rintro ⟨p, hp, e⟩
      exact (ih2 hc).2.1 ⟨p, by rcases Nat.lt_or_ge p n with q | q; exact q; exact absurd (show k = 12 * s + n by rw [e, show p = n by omega]) z, e⟩
theorem lk_mnd (hI : sp_I sg) (hK : sp_K sg) {s u t g0 : Nat} {rule slack : Int32} (hs : s < sp_n sg) (hu : sp_th sg s u) (ht : t < 5) (hr : sp_okR sg (sp_e s u t) rule slack) (hg0 : g0 < 4) (ho : sg 4 (16 * s + u) = nI g0) (hf : sp_fits sg g0 (sp_cost (sp_rul sg (sp_e s u t) rule slack) (sp_e s u t) - sp_cost sg (sp_e s u t)) = true) : sp_K (sp_mend sg s (sp_e s u t) rule slack) := by
  have h4 := hI.i1.2
  have hu16 := hu.1
  have he : sp_e s u t < 320 := by unfold sp_e; omega
  have he5 : sp_e s u t / 5 = 16 * s + u := by unfold sp_e; omega
  have h1 := hI.rul hr
  have e13 : sp_rul sg (sp_e s u t) rule slack 13 = sg 13 := sp_rul_j (by decide) (by decide)
  have e15 : sp_rul sg (sp_e s u t) rule slack 15 = sg 15 := sp_rul_j (by decide) (by decide)
  have e16 : sp_rul sg (sp_e s u t) rule slack 16 = sg 16 := sp_rul_j (by decide) (by decide)
  have ej : ∀ j, j ≠ 15 → j ≠ 16 → sp_mend sg s (sp_e s u t) rule slack j = sp_rul sg (sp_e s u t) rule slack j := fun j a b => sp_mdS_j 12 j a b
  have hc : ∀ k, sp_cls (sp_mend sg s (sp_e s u t) rule slack) k = sp_cls sg k := fun k => by unfold sp_cls; rw [ej 11 (by decide) (by decide), sp_rul_j (by decide) (by decide)]
  have hd : ∀ k, sp_due (sp_mend sg s (sp_e s u t) rule slack) k = sp_due (sp_rul sg (sp_e s u t) rule slack) k := fun k => sp_due_congr (fun j a b _ => ej j a b) k
  refine ⟨?_, fun k hk h2 => ?_, fun k hk h2 => ?_, fun g hg => ?_⟩
  · unfold sp_n
    rw [ej 1 (by decide) (by decide), sp_rul_j (by decide) (by decide)]
    exact hK.1
  · rw [ej 13 (by decide) (by decide), e13] at h2
    obtain ⟨m1, m2⟩ := lk_mdS hI hK h1 e13 e15 e16 (s := s) 12 k hk h2
    refine ⟨m1, fun hcl => ?_⟩
    rw [hc] at hcl
    obtain ⟨m3, m4, m5⟩ := m2 hcl
    refine ⟨?_, m3⟩
    rw [hd]
    by_cases z : k / 12 = s
    · exact m4 ⟨k % 12, by omega, by omega⟩
    · rw [sp_due_far hI hu16 ht hk (by rw [h2]; decide) z, ← ((hK.2.1 k hk h2).2 hcl).1]
      exact m5 (fun p hp w => z (by omega))
  · rw [hc] at h2
    rw [ej 13 (by decide) (by decide), e13]
    exact hK.2.2.1 k hk h2
  · have hII : sp_I (sp_mend sg s (sp_e s u t) rule slack) := hI.mnd hr
    have hp := lk_pos hII (nI g)
    rw [ej 12 (by decide) (by decide), sp_rul_j (by decide) (by decide)]
    refine ⟨(hK.2.2.2 g hg).1, ?_⟩
    rw [sp_used_congr (ej 2 (by decide) (by decide)) (ej 4 (by decide) (by decide)) (ej 6 (by decide) (by decide)) (ej 8 (by decide) (by decide)) (ej 17 (by decide) (by decide)) (ej 19 (by decide) (by decide)) (ej 20 (by decide) (by decide)), sp_used_rul he (by rw [he5]; exact hu.2), he5, ho] at hp ⊢
    by_cases z : nI g0 = nI g
    · have hgg : g0 = g := (nI_eq (by omega) (by omega)).mp z
      subst hgg
      rw [if_pos rfl] at hp ⊢
      refine lk_step (hK.2.2.2 g0 hg).2 (hK.2.2.2 g0 hg).1 ?_ hf hp
      obtain ⟨c1, c2⟩ := ca_cN_is (sp_rul sg (sp_e s u t) rule slack) (sp_e s u t)
      obtain ⟨c3, c4⟩ := ca_cN_is sg (sp_e s u t)
      rw [c1, c3, Int32.toInt_sub, nI_toInt (by omega), nI_toInt (by omega), sl_bmod (by omega) (by omega)]
      omega
    · rw [if_neg z, Int32.add_zero]
      exact (hK.2.2.2 g hg).2
theorem lk_menE (hI : sp_I sg) {s v t kind : Int32} (h1 : sp_nmd sg s v t = true) (h3 : (sp_men sg (nN s) (nN v) (nN t) kind).isSome = true) : ∃ a u c g0, a < sp_n sg ∧ sp_th sg a u ∧ c < 5 ∧ g0 < 4 ∧ sg 4 (16 * a + u) = nI g0 ∧ nN s = a ∧ sp_menE sg (nN s) (nN v) (nN t) kind = sp_e a u c ∧ sg 6 (sp_e a u c) = kind ∧ sp_men sg (nN s) (nN v) (nN t) kind = some u := by
  obtain ⟨a, b, c, ha, ha4, hth, hc, -, -, -, e1, e2, e3⟩ := sp_nmd_nat hI h1
  rw [e1, e2, e3] at h3 ⊢
  cases q : sp_men sg a b c kind with
  | none => rw [q] at h3; cases h3
  | some u =>
    obtain ⟨m1, m2, m3⟩ := sp_men_some hI ha hth q
    obtain ⟨-, -, m4, -⟩ := sp_has_some hI ha hth m1
    obtain ⟨g0, hg0, hg1⟩ := sp_own hI ha m2 hc m4
    refine ⟨a, u, c, g0, ha, m2, hc, hg0, hg1, rfl, ?_, m3, rfl⟩
    unfold sp_menE
    rw [q]
theorem lk_cost_rul {e : Nat} {rule slack : Int32} : sp_cost (sp_rul sg e rule slack) e = if sg 6 e = 4 then 0 else if sg 6 e = 0 then 2 else if sg 6 e = 2 then nI (sp_len rule) else 1 := by
  unfold sp_cost
  rw [sp_rul_j (j := 6) (by decide) (by decide), sp_rul_8]
theorem lk_fits0 {g : Nat} : sp_fits sg g 0 = true := rfl
theorem lk_mendNumber (hI : sp_I sg) (hK : sp_K sg) {s v t value slack : Int32} (h : sp_thMen sg s v t (sp_in value (-1000) 1000 && sp_in slack 0 100) 0 = 0) : sp_K (sp_mend sg (nN s) (sp_menE sg (nN s) (nN v) (nN t) 0) value slack) := by
  obtain ⟨h1, h2, h3⟩ := sp_thMen_0 h
  rw [Bool.and_eq_true] at h2
  have hr := lp_menE hI h1 h3 (Or.inl ⟨rfl, h2.1, h2.2⟩)
  obtain ⟨a, u, c, g0, ha, hu, hc, hg0, ho, e1, e2, e3, -⟩ := lk_menE hI h1 h3
  rw [e2] at hr ⊢
  rw [e1]
  refine lk_mnd hI hK ha hu hc hr hg0 ho ?_
  have e0 : sp_cost (sp_rul sg (sp_e a u c) value slack) (sp_e a u c) - sp_cost sg (sp_e a u c) = 0 := by
    rw [lk_cost_rul]
    unfold sp_cost
    rw [e3, if_neg (show ¬ (0 : Int32) = 4 by decide), if_pos (show (0 : Int32) = 0 from rfl), if_neg (show ¬ (0 : Int32) = 4 by decide), if_pos (show (0 : Int32) = 0 from rfl), Int32.sub_self]
  rw [e0]
  rfl
theorem lk_mendChoice (hI : sp_I sg) (hK : sp_K sg) {s v t signs : Int32} (h : sp_thMen sg s v t (sp_in signs 0 31) 1 = 0) : sp_K (sp_mend sg (nN s) (sp_menE sg (nN s) (nN v) (nN t) 1) signs 0) := by
  obtain ⟨h1, h2, h3⟩ := sp_thMen_0 h
  have hr := lp_menE (slack := 0) hI h1 h3 (Or.inr (Or.inl ⟨rfl, h2⟩))
  obtain ⟨a, u, c, g0, ha, hu, hc, hg0, ho, e1, e2, e3, -⟩ := lk_menE hI h1 h3
  rw [e2] at hr ⊢
  rw [e1]
  refine lk_mnd hI hK ha hu hc hr hg0 ho ?_
  have e0 : sp_cost (sp_rul sg (sp_e a u c) signs 0) (sp_e a u c) - sp_cost sg (sp_e a u c) = 0 := by
    rw [lk_cost_rul]
    unfold sp_cost
    rw [e3, if_neg (show ¬ (1 : Int32) = 4 by decide), if_neg (show ¬ (1 : Int32) = 0 by decide), if_neg (show ¬ (1 : Int32) = 2 by decide), if_neg (show ¬ (1 : Int32) = 4 by decide), if_neg (show ¬ (1 : Int32) = 0 by decide), if_neg (show ¬ (1 : Int32) = 2 by decide), Int32.sub_self]
  rw [e0]
  rfl
theorem lk_mendWords (hI : sp_I sg) (hK : sp_K sg) {s v t words : Int32} (h : sp_thMenW sg s v t words = 0) : sp_K (sp_mend sg (nN s) (sp_menE sg (nN s) (nN v) (nN t) 2) words 0) := by
  obtain ⟨h1, h2, h3⟩ := sp_thMenW_0 h
  have h3' : (sp_men sg (nN s) (nN v) (nN t) 2).isSome = true := by
    unfold sp_menW at h3
    cases q : sp_men sg (nN s) (nN v) (nN t) 2 with
    | none => rw [q] at h3; cases h3
    | some u => rfl
  have hr := lp_menE (slack := 0) hI h1 h3' (Or.inr (Or.inr ⟨rfl, h2⟩))
  obtain ⟨a, u, c, g0, ha, hu, hc, hg0, ho, e1, e2, e3, e4⟩ := lk_menE hI h1 h3'
  rw [e2] at hr ⊢
  rw [e1]
  refine lk_mnd hI hK ha hu hc hr hg0 ho ?_
  unfold sp_menW at h3
  rw [e4] at h3
  dsimp only at h3
  obtain ⟨a', b', c', -, -, -, -, -, -, -, q1, q2, q3⟩ := sp_nmd_nat hI h1
  rw [lk_cost_rul, e3]
  rw [e1, ho, show nN (nI g0) = g0 from nI_clamp (by omega)] at h3
  have : nN t = c := by
    have h5 := hc
    unfold sp_menE at e2
    rw [e4] at e2
    dsimp only at e2
    unfold sp_e at e2
    rw [e1] at e2
    omega
  rw [this] at h3
  exact h3
theorem lk_say (hI : sp_I sg) (hJ : sp_J sg) (hK : sp_K sg) {p s t said : Int32} (h : sp_thSay sg p s t said = 0) : sp_K (sp_sayN sg (nN p) (nN s) (nN t) said) := by
  have hII := (lp_say hI hJ h).1
  unfold sp_thSay at h
  by_cases h1 : sp_trip sg p s t = true
  · rw [if_pos h1] at h
    obtain ⟨a, b, c, ha, hb, hb4, hc5, -, -, -, e1, e2, e3⟩ := sp_trip_nat hI h1
    rw [e1, e2, e3] at h hII ⊢
    unfold sp_thSayN at h
    unfold sp_sayN at hII ⊢
    cases q : sp_ent sg (12 * b + a) c with
    | none => rw [q] at h; exact absurd (show (3 : Int32) = 0 from h) (by decide)
    | some u =>
      rw [q] at h hII
      dsimp only at h hII ⊢
      obtain ⟨h13, -, v, hv, hth, hhas⟩ := sp_ent_some hI hb4 ha q
      by_cases hs : sp_isSaid (sg 6 (sp_e b u c)) said = true
      · rw [if_pos hs] at h
        by_cases hB : sp_sayB sg a b c u said = true
        · have hk3 : sg 6 (sp_e b u c) = 0 ∨ sg 6 (sp_e b u c) = 1 ∨ sg 6 (sp_e b u c) = 2 := by
            obtain ⟨hu, -, u4, u3⟩ := sp_has_some hI hb hth hhas
            exact sp_k012 hI hb4 hu.1 hc5 u4 u3
          unfold sp_sayB at hB
          rw [Bool.and_eq_true] at hB
          have h99 : ¬ sp_more sg (sg 6 (sp_e b u c)) (5 * (12 * b + a) + c) said = 99 := fun w => by
            rw [decide_eq_true w] at hB
            exact absurd hB.1 (by decide)
          have hok : sp_okS sg (sg 6 (sp_e b u c)) (5 * (12 * b + a) + c) said := by
            refine ⟨hs, ?_⟩
            rcases hk3 with z | z | z
            · exact Or.inl z
            · exact Or.inr (Or.inl z)
            · refine Or.inr (Or.inr ⟨z, ?_⟩)
              obtain ⟨w, hw, hw2⟩ := (hI.i12 (5 * (12 * b + a) + c) (by omega)).2.2.1
              refine ⟨w, ?_, hw2⟩
              rcases Nat.lt_or_ge w 12 with x | x
              · exact x
              · exfalso
                refine h99 ?_
                unfold sp_more
                rw [z, if_neg (by decide), if_neg (by decide), hw2, show w = 12 by omega]
                rfl
          have loc : ∀ k', k' ≠ 12 * b + a → sp_loc sg (sp_sayU sg (sg 6 (sp_e b u c)) (5 * (12 * b + a) + c) said) k' := fun k' hk' => ⟨sp_sayU_j (by decide), sp_sayU_j (by decide), sp_sayU_j (by decide), sp_sayU_j (by decide), sp_sayU_j (by decide), by rw [sp_sayU_j (by decide)], fun t' ht' => by
            refine ⟨sp_sayU_x (by omega) (by decide), sp_sayU_x (by omega) (by decide), sp_sayU_x (by omega) (by decide), sp_sayU_x (by omega) (by decide), fun i hi => ?_⟩
            obtain ⟨w, hw, hw2⟩ := (hI.i12 (5 * (12 * b + a) + c) (by omega)).2.2.1
            rcases hok with ⟨-, z | z | ⟨z, m, m1, m2⟩⟩
            · unfold sp_sayU
              rw [if_pos z, mm_up_j (by decide), mm_up_j (by decide)]
            · unfold sp_sayU
              rw [if_neg (by rw [z]; decide), if_pos z, mm_up_j (by decide)]
            · exact sp_sayU_21 (by rw [m2, show nN (nI m) = m from nI_clamp (by omega)]; omega)⟩
          refine hK.of (by unfold sp_n; rw [sp_sayU_j (by decide)]) (sp_sayU_j (by decide)) (sp_sayU_j (by decide)) (sp_sayU_j (by decide)) (sp_sayU_j (by decide)) (fun k hk h2 => sp_due_loc hI hk (loc k (fun z => by rw [z, h13] at h2; exact absurd h2 (by decide)))) (fun g hg => ?_)
          have hp := lk_pos hII (nI g)
          rw [sp_sayU_j (i := 12) (by decide)]
          refine ⟨(hK.2.2.2 g hg).1, ?_⟩
          rw [sp_used_say hI (by omega) hc5 hok, show (12 * b + a) % 12 / 3 = a / 3 by omega] at hp ⊢
          by_cases z : nI (a / 3) = nI g
          · have hag : a / 3 = g := (nI_eq (by omega) (by omega)).mp z
            rw [if_pos z] at hp ⊢
            rw [hag] at hB
            refine lk_step (hK.2.2.2 g hg).2 (hK.2.2.2 g hg).1 ?_ hB.2 hp
            unfold sp_more
            split
            · split <;> decide
            · split
              · split <;> split <;> decide
              · split <;> decide
          · rw [if_neg z, Int32.add_zero]
            exact (hK.2.2.2 g hg).2
        · rw [if_neg hB] at h
          exact absurd h (by decide)
      · rw [if_neg hs] at h
        exact absurd h (by decide)
  · rw [if_neg h1] at h
    exact absurd h (by decide)
theorem lk_fgt (hI : sp_I sg) {k : Nat} (hk : k < 48) : (∀ y, y ≠ k → sp_loc sg (sp_fgT sg k 5) y) ∧ ∀ g : Nat, sp_used (sp_fgT sg k 5) (nI g) = sp_used sg (nI g) + (if nI (k % 12 / 3) = nI g then -sp_taken sg k else 0) := by
  have etk : ∀ y, y ≠ k → sp_taken (sp_fgT sg k 5) y = sp_taken sg y := fun y hy => sp_is_congr 5 (fun t ht => by
    unfold sp_tk
    rw [sp_fgT_n (i := 17) (by omega) (by omega), sp_fgT_n (i := 19) (by omega) (by omega), sp_fgT_n (i := 20) (by omega) (by omega)])
  have etk0 : sp_taken (sp_fgT sg k 5) k = 0 := sp_is_zero 5 (fun t ht => by
    unfold sp_tk
    rw [sp_fgT_0 (i := 17) (by omega) (by omega), sp_fgT_0 (i := 19) (by omega) (by omega), sp_fgT_0 (i := 20) (by omega) (by omega)]
    rfl)
  refine ⟨fun y hy => ⟨sp_fgT_j (by decide) 5, sp_fgT_j (by decide) 5, sp_fgT_j (by decide) 5, sp_fgT_j (by decide) 5, sp_fgT_j (by decide) 5, by rw [sp_fgT_j (by decide)], fun t ht => ⟨sp_fgT_n (by omega) (by omega), sp_fgT_n (by omega) (by omega), sp_fgT_n (by omega) (by omega), sp_fgT_n (by omega) (by omega), fun i _ => by rw [sp_fgT_j (i := 21) (by decide)]⟩⟩, fun g => ?_⟩
  unfold sp_used
  rw [sp_is_congr (f := sp_usE (sp_fgT sg k 5) (nI g)) (g := sp_usE sg (nI g)) 320 (fun y _ => by
    unfold sp_usE sp_cost
    rw [sp_fgT_j (i := 2) (by decide), sp_fgT_j (i := 4) (by decide), sp_fgT_j (i := 6) (by decide), sp_fgT_j (i := 8) (by decide)])]
  rw [sp_is_one (f := sp_usA sg (nI g)) (f' := sp_usA (sp_fgT sg k 5) (nI g)) (e := k) (fun y hy => by unfold sp_usA; rw [etk y hy]) 48 hk, ← Int32.add_assoc]
  congr 1
  unfold sp_usA
  rw [etk0]
  by_cases z : nI (k % 12 / 3) = nI g
  · rw [if_pos z, if_pos z, if_pos z, Int32.zero_sub]
  · rw [if_neg z, if_neg z, if_neg z, Int32.sub_self]
/-- the answers of a group gone through at its close -/
theorem lk_clS (hI : sp_I sg) (hK4 : sp_K4 sg) {b : Nat} (hb : b + 3 ≤ 48) : ∀ n, n ≤ 3 → (∀ j, ¬ (j = 13 ∨ j = 17 ∨ j = 18 ∨ j = 19 ∨ j = 20) → sp_clS sg b n j = sg j) ∧ (∀ k, k < 48 → (sp_clS sg b n 13 k = if (b ≤ k ∧ k < b + n) ∧ sg 13 k = 1 then 0 else sg 13 k) ∧ (sg 13 k = 2 → sp_due (sp_clS sg b n) k = sp_due sg k)) ∧ sp_K4 (sp_clS sg b n)
  | 0, _ => ⟨fun _ _ => rfl, fun k _ => ⟨by rw [if_neg (by omega)]; rfl, fun _ => rfl⟩, hK4⟩
  | n + 1, hn => by
    obtain ⟨c1, c2, c3⟩ := lk_clS hI hK4 hb n (by omega)
    have hS := sp_clS_I hI (b := b) n
    have hself : sp_clS sg b n 13 (b + n) = sg 13 (b + n) := by
      rw [(c2 (b + n) (by omega)).1, if_neg (by omega)]
    by_cases z : sp_clS sg b n 13 (b + n) = 1
    · rw [sp_clS_y z]
      obtain ⟨f1, f2⟩ := lk_fgt hS (k := b + n) (by omega)
      refine ⟨fun j hj => (sp_fgT_j (fun q => hj q) 5).trans (c1 j hj), fun k hk => ⟨?_, fun h2 => ?_⟩, fun g hg => ?_⟩
      · by_cases y : k = b + n
        · rw [y, sp_fgT_13k, if_pos ⟨by omega, by rw [← hself]; exact z⟩]
        · rw [sp_fgT_13x y, (c2 k hk).1]
          by_cases w : (b ≤ k ∧ k < b + n) ∧ sg 13 k = 1
          · rw [if_pos w, if_pos ⟨by omega, w.2⟩]
          · rw [if_neg w, if_neg (fun q => w ⟨by omega, q.2⟩)]
      · have y : k ≠ b + n := fun y => by
          rw [hself, ← y, h2] at z
          exact absurd z (by decide)
        rw [sp_due_loc hS hk (f1 k y)]
        exact (c2 k hk).2 h2
      · have hp := lk_pos (hS.fgt (k := b + n)) (nI g)
        rw [sp_fgT_j (i := 12) (by decide)]
        refine ⟨(c3 g hg).1, ?_⟩
        rw [f2 g] at hp ⊢
        obtain ⟨N, eN, hN⟩ := lk_taken hS (k := b + n) (by omega)
        rw [eN] at hp ⊢
        have dneg : (-nI N : Int32).toInt = -(N : Int) := by rw [Int32.toInt_neg, nI_toInt (by omega), sl_bmod (by omega) (by omega)]
        have zero : (0 : Int32).toInt = 0 := by decide
        refine lk_step (c3 g hg).2 (c3 g hg).1 ?_ ?_ hp
        · split
          · rw [dneg]; omega
          · rw [zero]; omega
        · rw [Bool.or_eq_true, decide_eq_true_eq]
          left
          split
          · rw [Int32.le_iff_toInt_le, dneg, zero]; omega
          · exact Int32.le_refl 0
    · rw [sp_clS_s z]
      refine ⟨c1, fun k hk => ⟨?_, (c2 k hk).2⟩, c3⟩
      rw [(c2 k hk).1]
      by_cases w : (b ≤ k ∧ k < b + n) ∧ sg 13 k = 1
      · rw [if_pos w, if_pos ⟨by omega, w.2⟩]
      · rw [if_neg w, if_neg (fun q => w ⟨?_, q.2⟩)]
        have : k ≠ b + n := fun y => by
          rw [hself, ← y] at z
          exact z q.2
        omega
theorem lk_close (hI : sp_I sg) (hJ : sp_J sg) (hK : sp_K sg) {g s : Int32} (h : sp_thClose sg g s = 0) : sp_K (sp_clS (mm_up sg 11 (4 * nN s + nN g) 1) (12 * nN s + 3 * nN g) 3) := by
  unfold sp_thClose at h
  by_cases h1 : sp_cs sg g s = true
  · unfold sp_cs at h1
    rw [Bool.and_eq_true] at h1
    obtain ⟨g, hg, rfl⟩ := sp_in_g h1.1
    obtain ⟨a, ha, ha4, rfl⟩ := sp_isS_nat hI h1.2
    rw [show nN (nI a) = a from nI_clamp (by omega), show nN (nI g) = g from nI_clamp (by omega)]
    have h1I : sp_I (mm_up sg 11 (4 * a + g) 1) := hI.cls
    have j13 : mm_up sg 11 (4 * a + g) 1 13 = sg 13 := mm_up_j (by decide)
    have hd0 : ∀ k, k < 48 → sp_due (mm_up sg 11 (4 * a + g) 1) k = sp_due sg k := fun k hk => sp_due_loc hI hk ⟨rfl, rfl, rfl, rfl, rfl, rfl, fun _ _ => ⟨rfl, rfl, rfl, rfl, fun _ _ => rfl⟩⟩
    have hK4 : sp_K4 (mm_up sg 11 (4 * a + g) 1) := fun g' hg' => by
      rw [sp_used_congr (mm_up_j (by decide)) (mm_up_j (by decide)) (mm_up_j (by decide)) (mm_up_j (by decide)) (mm_up_j (by decide)) (mm_up_j (by decide)) (mm_up_j (by decide)), mm_up_j (by decide)]
      exact hK.2.2.2 g' hg'
    obtain ⟨c1, c2, c3⟩ := lk_clS h1I hK4 (b := 12 * a + 3 * g) (by omega) 3 (Nat.le_refl 3)
    have hcl : ∀ k, sp_cls (sp_clS (mm_up sg 11 (4 * a + g) 1) (12 * a + 3 * g) 3) k = if 4 * (k / 12) + k % 12 / 3 = 4 * a + g then 1 else sp_cls sg k := fun k => by
      unfold sp_cls
      rw [c1 11 (by decide)]
      by_cases z : 4 * (k / 12) + k % 12 / 3 = 4 * a + g
      · rw [if_pos z, z, mm_up_s]
      · rw [if_neg z, mm_up_x z]
    refine ⟨?_, fun k hk h2 => ?_, fun k hk h2 => ?_, c3⟩
    · unfold sp_n
      rw [c1 1 (by decide), mm_up_j (by decide)]
      exact hK.1
    · rw [(c2 k hk).1, j13] at h2
      have h3 : sg 13 k = 2 := by
        by_cases w : (12 * a + 3 * g ≤ k ∧ k < 12 * a + 3 * g + 3) ∧ sg 13 k = 1
        · rw [if_pos w] at h2; exact absurd h2 (by decide)
        · rw [if_neg w] at h2; exact h2
      rw [c1 15 (by decide), c1 16 (by decide), mm_up_j (by decide), mm_up_j (by decide), hcl, (c2 k hk).2 (by rw [j13]; exact h3), hd0 k hk]
      obtain ⟨q1, q2⟩ := hK.2.1 k hk h3
      refine ⟨q1, fun w => q2 ?_⟩
      by_cases z : 4 * (k / 12) + k % 12 / 3 = 4 * a + g
      · rw [if_pos z] at w; exact absurd w (by decide)
      · rw [if_neg z] at w; exact w
    · rw [(c2 k hk).1, j13]
      rw [hcl] at h2
      by_cases w : (12 * a + 3 * g ≤ k ∧ k < 12 * a + 3 * g + 3) ∧ sg 13 k = 1
      · rw [if_pos w]; decide
      · rw [if_neg w]
        by_cases z : 4 * (k / 12) + k % 12 / 3 = 4 * a + g
        · exact fun q => w ⟨by omega, q⟩
        · rw [if_neg z] at h2
          exact hK.2.2.1 k hk h2
  · rw [if_neg h1] at h
    exact absurd h (by decide)
end LK2
