/-! sums that are small numbers; due marks, points and use aren't negative -/
theorem lk_sum {F : Nat → Int32} {B : Nat} : ∀ n, (∀ k, k < n → ∃ N, F k = nI N ∧ N ≤ B) → ∃ N, sp_is F n = nI N ∧ N ≤ B * n
  | 0, _ => ⟨0, rfl, Nat.zero_le _⟩
  | n + 1, h => by
    obtain ⟨N, h1, h2⟩ := lk_sum n (fun k hk => h k (Nat.lt_succ_of_lt hk))
    obtain ⟨m, h3, h4⟩ := h n (Nat.lt_succ_self n)
    exact ⟨N + m, by rw [sp_is, h1, h3, nI_add], by rw [Nat.mul_succ]; omega⟩
theorem lk_tk {sg : mm_S} (hI : sp_I sg) {j : Nat} (hj : j < 240) : ∃ N, sp_tk sg j = nI N ∧ N ≤ 14 := by
  obtain ⟨-, -, ⟨w, hw, e⟩, -⟩ := hI.i12 j hj
  unfold sp_tk
  rw [e]
  have one : ∀ x : Int32, ∃ a, (if x = 0 then (0 : Int32) else 1) = nI a ∧ a ≤ 1 := fun x => by
    by_cases z : x = 0
    · exact ⟨0, by rw [if_pos z]; rfl, by omega⟩
    · exact ⟨1, by rw [if_neg z]; rfl, Nat.le_refl 1⟩
  obtain ⟨a, ha, ha1⟩ := one (sg 17 j)
  obtain ⟨b, hb, hb1⟩ := one (sg 19 j)
  rw [ha, hb, nI_add, nI_add]
  exact ⟨_, rfl, by omega⟩
theorem lk_taken {sg : mm_S} (hI : sp_I sg) {k : Nat} (hk : k < 48) : ∃ N, sp_taken sg k = nI N ∧ N ≤ 70 := lk_sum 5 (fun t ht => lk_tk hI (by omega))
theorem lk_used {sg : mm_S} (hI : sp_I sg) (g : Int32) : ∃ N, sp_used sg g = nI N ∧ N ≤ 5280 := by
  obtain ⟨a, ha, ha1⟩ := lk_sum (F := sp_usE sg g) (B := 6) 320 (fun k _ => by
    unfold sp_usE
    split
    · exact ⟨0, rfl, by omega⟩
    · split
      · exact ⟨_, ca_cN_is sg k⟩
      · exact ⟨0, rfl, by omega⟩)
  obtain ⟨b, hb, hb1⟩ := lk_sum (F := sp_usA sg g) (B := 70) 48 (fun k hk => by
    unfold sp_usA
    split
    · exact lk_taken hI hk
    · exact ⟨0, rfl, by omega⟩)
  unfold sp_used
  rw [ha, hb, nI_add]
  exact ⟨_, rfl, by omega⟩
theorem lk_in10 {v : Int32} (h : sp_in v 1 10 = true) : ∃ a, 1 ≤ a ∧ a ≤ 10 ∧ v = nI a := by
  rw [sp_in_int] at h
  rw [show (1 : Int32).toInt = 1 from by decide, show (10 : Int32).toInt = 10 from by decide] at h
  refine ⟨v.toInt.toNat, by omega, by omega, Int32.toInt_inj.mp ?_⟩
  rw [nI_toInt (by omega)]
  omega
theorem lk_pop : ∀ a, a < 64 → sp_pop a ≤ 6 := by decide +kernel
theorem lk_cho {p : Nat} (hp : p ≤ 10) {r q : Nat} (hr : r < 32) (hq : q < 32) : ∃ N, sp_cho (nI p) (nI r) (nI q) = nI N ∧ N ≤ 60 := by
  unfold sp_cho
  by_cases h0 : nI r = 0
  · rw [if_pos h0]
    split
    · exact ⟨p, rfl, by omega⟩
    · exact ⟨0, rfl, by omega⟩
  · rw [if_neg h0]
    obtain ⟨e1, e2, b1, b2⟩ := sp_and32 q hq r hr
    have c1 : nN (nI q &&& nI r) = q &&& r := by rw [e1]; exact nI_clamp (by omega)
    have c2 : nN (nI q &&& (nI r ^^^ -1)) = q - (q &&& r) := by rw [e2]; exact nI_clamp (by omega)
    rw [c1, c2, show nN (nI r) = r from nI_clamp (by omega)]
    have p1 := lk_pop (q &&& r) b1
    have p2 := lk_pop (q - (q &&& r)) b2
    have p3 := lk_pop r (by omega)
    have p0 : ¬ sp_pop r = 0 := fun z => sp_pop_0 r (by omega) (fun w => h0 (by rw [w]; rfl)) (by rw [z]; rfl)
    by_cases hd : 0 < nI (sp_pop (q &&& r)) - nI (sp_pop (q - (q &&& r)))
    · rw [if_pos hd]
      have hle : sp_pop (q - (q &&& r)) ≤ sp_pop (q &&& r) := by
        rcases Nat.lt_or_ge (sp_pop (q &&& r)) (sp_pop (q - (q &&& r))) with w | w
        · rw [Int32.lt_iff_toInt_lt, Int32.toInt_sub, nI_toInt (by omega), nI_toInt (by omega), show (0 : Int32).toInt = 0 from by decide, sl_bmod (by omega) (by omega)] at hd
          omega
        · exact w
      rw [nI_sub hle, nI_mul, nI_divN (by have : p * (sp_pop (q &&& r) - sp_pop (q - (q &&& r))) ≤ 10 * 6 := Nat.mul_le_mul hp (by omega); omega) (by omega) p0]
      exact ⟨_, rfl, Nat.le_trans (Nat.div_le_self _ _) (Nat.mul_le_mul hp (show sp_pop (q &&& r) - sp_pop (q - (q &&& r)) ≤ 6 by omega))⟩
    · rw [if_neg hd]
      exact ⟨0, rfl, by omega⟩
theorem lk_gain {sg : mm_S} (hI : sp_I sg) {e j : Nat} (he : e < 320) (hj : j < 240) (hk : sg 6 e = 0 ∨ sg 6 e = 1 ∨ sg 6 e = 2) : ∃ N, sp_gain sg e j = nI N ∧ N ≤ 60 := by
  obtain ⟨h0, h1, h2⟩ := hI.i6 e he
  obtain ⟨-, ⟨r, hr, er⟩, -, -⟩ := hI.i12 j hj
  unfold sp_gain
  rcases hk with hk | hk | hk
  · obtain ⟨p, -, hp, ep⟩ := lk_in10 (h0 hk).1
    rw [if_pos hk]
    split
    · exact ⟨p, ep, by omega⟩
    · exact ⟨0, rfl, by omega⟩
  · obtain ⟨p, -, hp, ep⟩ := lk_in10 (h1 hk).1
    obtain ⟨q, hq, eq⟩ := sp_in_nat (b := 31) (by decide) (h1 hk).2
    rw [if_neg (by rw [hk]; decide), if_pos hk, ep, eq, er]
    exact lk_cho hp (by omega) hr
  · obtain ⟨p, -, hp, ep⟩ := lk_in10 (h2 hk).1
    have hl := sp_row_len (h2 hk).2
    have hl6 := sp_len_le (sg 8 e)
    have hc : sp_com sg (sg 8 e) j ≤ sp_len (sg 8 e) := sp_D_le _ _ _ _
    rw [if_neg (by rw [hk]; decide), if_neg (by rw [hk]; decide), ep, nI_mul, nI_divN (by have : p * sp_com sg (sg 8 e) j ≤ 10 * 6 := Nat.mul_le_mul hp (by omega); omega) (by omega) (by omega)]
    exact ⟨_, rfl, Nat.le_trans (Nat.div_le_self _ _) (Nat.mul_le_mul hp (show sp_com sg (sg 8 e) j ≤ 6 by omega))⟩
theorem lk_due {sg : mm_S} (hI : sp_I sg) {k : Nat} (hk : k < 48) (h0 : ¬ sg 13 k = 0) : ∃ N, sp_due sg k = nI N ∧ N ≤ 300 := by
  obtain ⟨hs, v, hv, hvt⟩ := sp_handed hI hk h0
  have hv16 := hvt.1
  refine lk_sum (B := 60) 5 (fun t ht => ?_)
  unfold sp_dueT
  rw [hv, show nN (nI v) = v from nI_clamp (by omega)]
  cases q : sp_has sg (k / 12) v t with
  | none => exact ⟨0, rfl, by omega⟩
  | some u =>
    obtain ⟨hu, -, h4, h3⟩ := sp_has_some hI hs hvt q
    have hu16 := hu.1
    refine lk_gain hI ?_ (by omega) (sp_k012 hI (by omega) hu16 ht h4 h3)
    unfold sp_e
    omega
theorem lk_pts {sg : mm_S} (hI : sp_I sg) {a v : Nat} (ha : a < sp_n sg) (hv : sp_th sg a v) : ∃ N, sp_pts sg a v = nI N ∧ N ≤ 50 := by
  have h4 := hI.i1.2
  refine lk_sum (B := 10) 5 (fun t ht => ?_)
  unfold sp_ptT
  cases q : sp_has sg a v t with
  | none => exact ⟨0, rfl, by omega⟩
  | some u =>
    obtain ⟨hu, -, h4', h3⟩ := sp_has_some hI ha hv q
    have hu16 := hu.1
    have he : sp_e a u t < 320 := by unfold sp_e; omega
    obtain ⟨i0, i1, i2⟩ := hI.i6 _ he
    rcases sp_k012 hI (by omega) hu16 ht h4' h3 with z | z | z
    · obtain ⟨p, -, hp, ep⟩ := lk_in10 (i0 z).1
      exact ⟨p, ep, hp⟩
    · obtain ⟨p, -, hp, ep⟩ := lk_in10 (i1 z).1
      exact ⟨p, ep, hp⟩
    · obtain ⟨p, -, hp, ep⟩ := lk_in10 (i2 z).1
      exact ⟨p, ep, hp⟩
/-! what the law keeps beside sp_I, sp_J: handed marks of groups that have no close behind them are due marks and nothing is told; behind a close no answer is begun; quotas and use stay at 100 at most -/
def sp_K2 (sg : mm_S) : Prop := ∀ k, k < 48 → sg 13 k = 2 → 0 ≤ sg 15 k ∧ (sp_cls sg k = 0 → sg 15 k = sp_due sg k ∧ sg 16 k = 0)
def sp_K3 (sg : mm_S) : Prop := ∀ k, k < 48 → ¬ sp_cls sg k = 0 → ¬ sg 13 k = 1
def sp_K4 (sg : mm_S) : Prop := ∀ g, g < 4 → sp_in (sg 12 g) 0 100 = true ∧ sp_in (sp_used sg (nI g)) 0 100 = true
def sp_K (sg : mm_S) : Prop := sp_n sg = 2 ∧ sp_K2 sg ∧ sp_K3 sg ∧ sp_K4 sg
section LK
variable {sg : mm_S}
theorem lk_step {u q d : Int32} (hu : sp_in u 0 100 = true) (hq : sp_in q 0 100 = true) (hd : -100 ≤ d.toInt ∧ d.toInt ≤ 100) (hf : (decide (d ≤ 0) || decide (u + d ≤ q)) = true) (h0 : 0 ≤ u + d) : sp_in (u + d) 0 100 = true := by
  rw [sp_in_int] at hu hq ⊢
  rw [show (0 : Int32).toInt = 0 from by decide, show (100 : Int32).toInt = 100 from by decide] at hu hq ⊢
  have e : (u + d).toInt = u.toInt + d.toInt := by rw [Int32.toInt_add, sl_bmod (by omega) (by omega)]
  rw [Int32.le_iff_toInt_le, show (0 : Int32).toInt = 0 from by decide] at h0
  rw [Bool.or_eq_true, decide_eq_true_eq, decide_eq_true_eq, Int32.le_iff_toInt_le, Int32.le_iff_toInt_le, show (0 : Int32).toInt = 0 from by decide] at hf
  omega
theorem lk_pos (hI : sp_I sg) (g : Int32) : 0 ≤ sp_used sg g := by
  obtain ⟨N, e, h⟩ := lk_used hI g
  rw [e]
  exact nI_pos' (by omega)
/-- the frame: closed classes, states, marks and what is told as they were -/
theorem sp_K.of {sg' : mm_S} (hK : sp_K sg) (hn : sp_n sg' = sp_n sg) (h11 : sg' 11 = sg 11) (h13 : sg' 13 = sg 13) (h15 : sg' 15 = sg 15) (h16 : sg' 16 = sg 16) (hd : ∀ k, k < 48 → sg 13 k = 2 → sp_due sg' k = sp_due sg k) (h4 : sp_K4 sg') : sp_K sg' := by
  have hc : ∀ k, sp_cls sg' k = sp_cls sg k := fun k => by unfold sp_cls; rw [h11]
  refine ⟨hn.trans hK.1, fun k hk h => ?_, fun k hk h => ?_, h4⟩
  · rw [h13] at h
    rw [h15, h16, hc, hd k hk h]
    exact hK.2.1 k hk h
  · rw [hc] at h
    rw [h13]
    exact hK.2.2.1 k hk h
theorem lk_rev (hI : sp_I sg) (hJ : sp_J sg) (hK : sp_K sg) {g s t more kind pts rule slack : Int32} (hn : sp_name sg g s t = true) (hc : sp_canRev sg (nN g) (nN s) more = true) (hE : sp_okE kind pts rule slack) (hm : more = if kind = 0 then 2 else if kind = 2 then nI (sp_len rule) else 1) : sp_K (sp_rev sg (nN g) (nN s) (nN t) kind pts rule slack) := by
  obtain ⟨a, b, c, ha, hb, hb4, hc5, rfl, rfl, rfl⟩ := sp_name_nat hI hn
  have e1 : nN (nI a) = a := nI_clamp (by omega)
  have e2 : nN (nI b) = b := nI_clamp (by omega)
  have e3 : nN (nI c) = c := nI_clamp (by omega)
  have hII := (lp_rev hI hJ hn hc hE).1
  rw [e1, e2] at hc
  rw [e1, e2, e3] at hII ⊢
  obtain ⟨m, m1, m2, h5, hmv⟩ := hI.i2 b hb
  unfold sp_canRev at hc
  rw [Bool.and_eq_true] at hc
  have hm16 : m < 16 := by
    rcases Nat.lt_or_ge m 16 with h | h
    · exact h
    · exfalso
      have e : m = 16 := by omega
      subst e
      rw [h5] at hc
      exact absurd hc.1 (by decide)
  unfold sp_rev at hII ⊢
  rw [h5, show nN (nI m) = m from nI_clamp (by omega)] at hII ⊢
  have hcost : sp_cost (sp_revA sg a b c (16 * b + m) kind pts rule slack) (5 * (16 * b + m) + c) = more := by
    unfold sp_cost
    rw [sp_revA_r6, sp_revA_r8, mm_up_s, mm_up_s, if_neg hE.q.2, hm]
  refine hK.of sp_rev_n (sp_revA_j (by decide)) (sp_revA_j (by decide)) (sp_revA_j (by decide)) (sp_revA_j (by decide)) (fun k hk h2 => sp_due_old hI (sp_rev_old hI hb hc5 hmv hm16) sp_rev_ans hk (by rw [h2]; decide)) (fun g' hg' => ?_)
  rw [sp_revA_j (by decide)]
  refine ⟨(hK.2.2.2 g' hg').1, ?_⟩
  have hp := lk_pos hII (nI g')
  rw [sp_used_rev hI hb hc5 hm16 hmv, hcost] at hp ⊢
  by_cases hg : nI a = nI g'
  · have hag : a = g' := (nI_eq (by omega) (by omega)).mp hg
    subst hag
    rw [if_pos rfl] at hp ⊢
    refine lk_step (hK.2.2.2 a ha).2 (hK.2.2.2 a ha).1 ?_ hc.2 hp
    have hl := sp_len_le rule
    rw [hm]
    split
    · decide
    · split
      · rw [nI_toInt (by omega)]; omega
      · decide
  · rw [if_neg hg, Int32.add_zero]
    exact (hK.2.2.2 g' hg').2
theorem lk_setNumber (hI : sp_I sg) (hJ : sp_J sg) (hK : sp_K sg) {g s t points value slack : Int32} (h : sp_thSet sg g s t (sp_areN points value slack) (2) = 0) : sp_K (sp_rev sg (nN g) (nN s) (nN t) 0 points value slack) := by
  obtain ⟨h1, h2, h3⟩ := sp_thSet_0 h
  unfold sp_areN at h2
  rw [Bool.and_eq_true, Bool.and_eq_true] at h2
  exact lk_rev hI hJ hK h1 h3 (Or.inl ⟨rfl, h2.1.1, h2.1.2, h2.2⟩) rfl
theorem lk_setChoice (hI : sp_I sg) (hJ : sp_J sg) (hK : sp_K sg) {g s t points signs : Int32} (h : sp_thSet sg g s t (sp_areC points signs) (1) = 0) : sp_K (sp_rev sg (nN g) (nN s) (nN t) 1 points signs 0) := by
  obtain ⟨h1, h2, h3⟩ := sp_thSet_0 h
  unfold sp_areC at h2
  rw [Bool.and_eq_true] at h2
  exact lk_rev hI hJ hK h1 h3 (Or.inr (Or.inl ⟨rfl, h2.1, h2.2⟩)) rfl
theorem lk_setWords (hI : sp_I sg) (hJ : sp_J sg) (hK : sp_K sg) {g s t points words : Int32} (h : sp_thSet sg g s t (sp_areW points words) (nI (sp_len words)) = 0) : sp_K (sp_rev sg (nN g) (nN s) (nN t) 2 points words 0) := by
  obtain ⟨h1, h2, h3⟩ := sp_thSet_0 h
  unfold sp_areW at h2
  rw [Bool.and_eq_true] at h2
  exact lk_rev hI hJ hK h1 h3 (Or.inr (Or.inr (Or.inl ⟨rfl, h2.1, h2.2⟩))) rfl
theorem lk_drop (hI : sp_I sg) (hJ : sp_J sg) (hK : sp_K sg) {g s t : Int32} (h : sp_thDrop sg g s t = 0) : sp_K (sp_rev sg (nN g) (nN s) (nN t) 3 0 0 0) := by
  obtain ⟨h1, h2⟩ := sp_thDrop_0 h
  rw [Bool.and_eq_true] at h2
  exact lk_rev hI hJ hK h1 h2.2 (Or.inr (Or.inr (Or.inr rfl))) rfl
theorem lk_one {j x : Nat} {v : Int32} (hI : sp_I sg) (hK : sp_K sg) (hj : j = 10) : sp_K (mm_up sg j x v) := by
  subst hj
  refine hK.of (by unfold sp_n; rw [mm_up_j (by decide)]) (mm_up_j (by decide)) (mm_up_j (by decide)) (mm_up_j (by decide)) (mm_up_j (by decide)) (fun k hk _ => sp_due_loc hI hk ⟨rfl, rfl, rfl, rfl, rfl, rfl, fun _ _ => ⟨rfl, rfl, rfl, rfl, fun _ _ => rfl⟩⟩) (fun g hg => ?_)
  rw [sp_used_congr (mm_up_j (by decide)) (mm_up_j (by decide)) (mm_up_j (by decide)) (mm_up_j (by decide)) (mm_up_j (by decide)) (mm_up_j (by decide)) (mm_up_j (by decide)), mm_up_j (by decide)]
  exact hK.2.2.2 g hg
theorem lk_adopt (hI : sp_I sg) (hK : sp_K sg) {g s v : Int32} : sp_K (mm_up sg 10 (4 * nN s + nN g) v) := lk_one hI hK rfl
theorem lk_quota (hI : sp_I sg) (hK : sp_K sg) {g q : Int32} (hq : sp_in q 0 100 = true) : sp_K (mm_up sg 12 (nN g) q) := by
  refine hK.of (by unfold sp_n; rw [mm_up_j (by decide)]) (mm_up_j (by decide)) (mm_up_j (by decide)) (mm_up_j (by decide)) (mm_up_j (by decide)) (fun k hk _ => sp_due_loc hI hk ⟨rfl, rfl, rfl, rfl, rfl, rfl, fun _ _ => ⟨rfl, rfl, rfl, rfl, fun _ _ => rfl⟩⟩) (fun g' hg => ?_)
  rw [sp_used_congr (mm_up_j (by decide)) (mm_up_j (by decide)) (mm_up_j (by decide)) (mm_up_j (by decide)) (mm_up_j (by decide)) (mm_up_j (by decide)) (mm_up_j (by decide))]
  refine ⟨?_, (hK.2.2.2 g' hg).2⟩
  by_cases z : g' = nN g
  · rw [z, mm_up_s]; exact hq
  · rw [mm_up_x z]; exact (hK.2.2.2 g' hg).1
theorem lk_open (hI : sp_I sg) (hK : sp_K sg) {p s : Int32} (h : sp_thOpen sg p s = 0) : sp_K (sp_openS sg (nN p) (nN s)) := by
  unfold sp_thOpen at h
  by_cases h1 : sp_both sg p s = true
  · rw [if_pos h1] at h
    by_cases h2 : sp_canO sg (nN p) (nN s) = true
    · obtain ⟨a, b, ha, hb, hb4, -, -, e1, e2⟩ := sp_both_nat hI h1
      rw [e1, e2] at h2 ⊢
      unfold sp_canO at h2
      rw [Bool.and_eq_true, decide_eq_true_eq, decide_eq_true_eq] at h2
      have loc : ∀ k, k ≠ 12 * b + a → sp_loc sg (sp_openS sg a b) k := fun k hk => ⟨sp_openS_j (by decide) (by decide), sp_openS_j (by decide) (by decide), sp_openS_j (by decide) (by decide), sp_openS_j (by decide) (by decide), sp_openS_j (by decide) (by decide), sp_openS_x hk, fun t _ => by
        rw [sp_openS_j (j := 17) (by decide) (by decide), sp_openS_j (j := 18) (by decide) (by decide), sp_openS_j (j := 19) (by decide) (by decide), sp_openS_j (j := 20) (by decide) (by decide), sp_openS_j (j := 21) (by decide) (by decide)]
        exact ⟨rfl, rfl, rfl, rfl, fun _ _ => rfl⟩⟩
      have hc : ∀ k, sp_cls (sp_openS sg a b) k = sp_cls sg k := fun k => by unfold sp_cls; rw [sp_openS_j (by decide) (by decide)]
      refine ⟨by unfold sp_n; rw [sp_openS_j (by decide) (by decide)]; exact hK.1, fun k hk h3 => ?_, fun k hk h3 => ?_, fun g hg => ?_⟩
      · have z : k ≠ 12 * b + a := fun z => by rw [z, sp_openS_13, mm_up_s] at h3; exact absurd h3 (by decide)
        rw [sp_openS_x z] at h3
        rw [sp_openS_x z, sp_openS_x z, hc, sp_due_loc hI hk (loc k z)]
        exact hK.2.1 k hk h3
      · rw [hc] at h3
        by_cases z : k = 12 * b + a
        · exfalso
          refine h3 ?_
          unfold sp_cls
          rw [z, show 4 * ((12 * b + a) / 12) + (12 * b + a) % 12 / 3 = 4 * b + a / 3 by omega]
          exact h2.2
        · rw [sp_openS_x z]
          exact hK.2.2.1 k hk h3
      · rw [sp_used_congr (sp_openS_j (by decide) (by decide)) (sp_openS_j (by decide) (by decide)) (sp_openS_j (by decide) (by decide)) (sp_openS_j (by decide) (by decide)) (sp_openS_j (by decide) (by decide)) (sp_openS_j (by decide) (by decide)) (sp_openS_j (by decide) (by decide)), sp_openS_j (by decide) (by decide)]
        exact hK.2.2.2 g hg
    · rw [if_neg h2] at h
      exact absurd h (by decide)
  · rw [if_neg h1] at h
    exact absurd h (by decide)
theorem lk_hand (hI : sp_I sg) (hJ : sp_J sg) (hK : sp_K sg) {p s : Int32} (h : sp_thHand sg p s = 0) : sp_K (sp_handS sg (sp_k p s)) := by
  unfold sp_thHand at h
  by_cases h1 : sp_both sg p s = true
  · rw [if_pos h1] at h
    by_cases h2 : sg 13 (sp_k p s) = 1
    · obtain ⟨a, b, ha, hb, hb4, -, -, e1, e2⟩ := sp_both_nat hI h1
      have hk0 : sp_k p s < 48 := by unfold sp_k; rw [e1, e2]; omega
      generalize sp_k p s = k0 at h2 hk0
      have hc : ∀ k, sp_cls (sp_handS sg k0) k = sp_cls sg k := fun k => by unfold sp_cls; rw [sp_handS_j (by decide) (by decide)]
      have hd : ∀ k, sp_due (sp_handS sg k0) k = sp_due sg k := fun k => sp_due_congr2 (fun j h13 h15 _ _ => sp_handS_j h13 h15) k
      refine ⟨by unfold sp_n; rw [sp_handS_j (by decide) (by decide)]; exact hK.1, fun k hk h3 => ?_, fun k hk h3 => ?_, fun g hg => ?_⟩
      · rw [hc, hd, sp_handS_j (i := 16) (by decide) (by decide)]
        by_cases z : k = k0
        · subst z
          rw [show sp_handS sg k 15 k = sp_due sg k from mm_up_s]
          obtain ⟨N, e, hN⟩ := lk_due hI hk (by rw [h2]; decide)
          exact ⟨by rw [e]; exact nI_pos' (by omega), fun _ => ⟨rfl, hJ.2.1 k hk (by rw [h2]; decide)⟩⟩
        · rw [sp_handS_x z] at h3 ⊢
          exact hK.2.1 k hk h3
      · rw [hc] at h3
        by_cases z : k = k0
        · subst z
          rw [sp_handS_13]
          decide
        · rw [sp_handS_x z]
          exact hK.2.2.1 k hk h3
      · rw [sp_used_congr (sp_handS_j (by decide) (by decide)) (sp_handS_j (by decide) (by decide)) (sp_handS_j (by decide) (by decide)) (sp_handS_j (by decide) (by decide)) (sp_handS_j (by decide) (by decide)) (sp_handS_j (by decide) (by decide)) (sp_handS_j (by decide) (by decide)), sp_handS_j (by decide) (by decide)]
        exact hK.2.2.2 g hg
    · rw [if_neg h2] at h
      exact absurd h (by decide)
  · rw [if_neg h1] at h
    exact absurd h (by decide)
end LK
