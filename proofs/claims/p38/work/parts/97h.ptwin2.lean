/-! the twins' calls: none is refused, what they answer, the state behind -/
section TX
variable {sg sg' : mm_S} {rule mk td cl : Int32} {st : Nat → Int32} {w : Nat → Nat} {B : Nat}
theorem tw_V.of (h : tw_V sg rule) (hI : sp_I sg') (hJ : sp_J sg') (e : ∀ j, (j = 1 ∨ j = 2 ∨ j = 3 ∨ j = 4 ∨ j = 6 ∨ j = 7 ∨ j = 8 ∨ j = 10 ∨ j = 12) → sg' j = sg j) : tw_V sg' rule := by
  obtain ⟨-, -, h1, h12, h2, h3, h4, h6, h64, h7, h8, h10⟩ := h
  refine ⟨hI, hJ, ?_, ?_, ?_, ?_, ?_, ?_, ?_, ?_, ?_, ?_⟩
  · unfold sp_n at h1 ⊢; rw [e 1 (by decide)]; exact h1
  · rw [e 12 (by decide)]; exact h12
  · rw [e 2 (by decide)]; exact h2
  · rw [e 3 (by decide)]; exact h3
  · rw [e 4 (by decide)]; exact h4
  · rw [e 6 (by decide)]; exact h6
  · rw [e 6 (by decide)]; exact h64
  · rw [e 7 (by decide)]; exact h7
  · rw [e 8 (by decide)]; exact h8
  · rw [e 10 (by decide)]; exact h10
theorem tw_P.of {k n : Nat} (h : tw_P sg k n) (e14 : sg' 14 k = sg 14 k) (e : ∀ t, t < 5 → sg' 17 (5 * k + t) = sg 17 (5 * k + t) ∧ sg' 19 (5 * k + t) = sg 19 (5 * k + t) ∧ sg' 20 (5 * k + t) = sg 20 (5 * k + t)) (e21 : ∀ i, i < 12 → sg' 21 (12 * (5 * k + 4) + i) = sg 21 (12 * (5 * k + 4) + i)) : tw_P sg' k n := by
  obtain ⟨h14, h1, h2, h3, h5, h6⟩ := h
  refine ⟨e14.trans h14, fun t ht => ?_, fun t ht => ?_, ?_, h5, fun i hi => ?_⟩
  · rw [(e t ht).1, (e t ht).2.1]; exact h1 t ht
  · rw [(e t (by omega)).2.2]; exact h2 t ht
  · rw [(e 4 (by decide)).2.2]; exact h3
  · rw [e21 i (by omega)]; exact h6 i hi
theorem tw_e : sp_e 2 1 4 = 169 := rfl
theorem tw_open (h : tw_S sg rule st w mk td 0 B) {p : Nat} (hp : p < 12) (hp3 : p / 3 = 1) (h0 : st p = 0) : sp_thOpen sg (nI p) (nI 2) = 0 ∧ sg 10 (4 * nN (nI 2) + nN (nI p) / 3) = nI 1 ∧ tw_S (sp_openS sg (nN (nI p)) (nN (nI 2))) rule (fun q => if q = p then 1 else st q) (fun q => if q = p then 0 else w q) mk td 0 B := by
  obtain ⟨hV, hcl, hU, hA⟩ := h
  have hs2 := hV.s2
  have hV' := hV
  obtain ⟨hI, hJ, h1, h12, h2, h3, h4, h6, h64, h7, h8, h10⟩ := hV'
  have eP : nN (nI p) = p := nI_clamp (by omega)
  have e2 : nN (nI 2) = 2 := rfl
  have h13 : sg 13 (12 * 2 + p) = 0 := (hA p hp).1.trans h0
  have hth : sp_thOpen sg (nI p) (nI 2) = 0 := by
    unfold sp_thOpen
    rw [if_pos (lf_bT hI hs2 hp), eP, e2]
    unfold sp_canO
    rw [decide_eq_true h13, hp3, show 4 * 2 + 1 = 9 from rfl, decide_eq_true hcl]
    rfl
  obtain ⟨hI', hJ'⟩ := lp_open hI hJ hth
  rw [eP, e2] at hI' hJ' ⊢
  refine ⟨hth, by rw [hp3]; exact h10, hV.of hI' hJ' (fun j hj => sp_openS_j (by omega) (by omega)), by rw [sp_openS_j (by decide) (by decide)]; exact hcl, ?_, fun q hq => ?_⟩
  · rw [sp_used_congr (sp_openS_j (by decide) (by decide)) (sp_openS_j (by decide) (by decide)) (sp_openS_j (by decide) (by decide)) (sp_openS_j (by decide) (by decide)) (sp_openS_j (by decide) (by decide)) (sp_openS_j (by decide) (by decide)) (sp_openS_j (by decide) (by decide))]
    exact hU
  · dsimp only
    by_cases z : q = p
    · subst z
      rw [if_pos rfl, if_pos rfl]
      refine ⟨?_, fun y => absurd y (by decide), fun _ => ?_⟩
      · show sp_openS sg q 2 13 (12 * 2 + q) = 1
        rw [sp_openS_13, mm_up_s]
      · have h17 : ∀ t, t < 5 → sg 17 (5 * (12 * 2 + q) + t) = 0 ∧ sg 19 (5 * (12 * 2 + q) + t) = 0 ∧ sg 20 (5 * (12 * 2 + q) + t) = 0 := by
          rcases hI.i9 2 q (by decide) hp with ⟨-, y⟩ | ⟨y, -⟩
          · exact y
          · rw [h13] at y; rcases y with y | y <;> exact absurd y (by decide)
        refine ⟨?_, fun t ht => ?_, fun t ht => ?_, ?_, by decide, fun i hi => absurd hi (Nat.not_lt_zero i)⟩
        · show sp_openS sg q 2 14 (12 * 2 + q) = nI 1
          rw [sp_openS_14, hp3]
          exact h10
        · rw [sp_openS_j (j := 17) (by decide) (by decide), sp_openS_j (j := 19) (by decide) (by decide)]
          exact ⟨(h17 t ht).1, (h17 t ht).2.1⟩
        · rw [sp_openS_j (j := 20) (by decide) (by decide)]
          exact (h17 t (by omega)).2.2
        · rw [sp_openS_j (j := 20) (by decide) (by decide)]
          exact (h17 4 (by decide)).2.2
    · rw [if_neg z, if_neg z]
      obtain ⟨a, b, c⟩ := hA q hq
      have hne : 24 + q ≠ 12 * 2 + p := by omega
      refine ⟨by rw [sp_openS_x hne]; exact a, fun y => by rw [sp_openS_x hne, sp_openS_x hne]; exact b y, fun y => (c y).of (sp_openS_x hne) (fun t _ => ?_) (fun i _ => ?_)⟩
      · rw [sp_openS_j (j := 17) (by decide) (by decide), sp_openS_j (j := 19) (by decide) (by decide), sp_openS_j (j := 20) (by decide) (by decide)]
        exact ⟨rfl, rfl, rfl⟩
      · rw [sp_openS_j (j := 21) (by decide) (by decide)]
theorem tw_taken {k n : Nat} (h : tw_P sg k n) : sp_taken sg k = nI n := by
  obtain ⟨-, h1, h2, h3, -⟩ := h
  show sp_is (fun t => sp_tk sg (5 * k + t)) 4 + sp_tk sg (5 * k + 4) = _
  rw [sp_is_zero 4 (fun t ht => by
    unfold sp_tk
    rw [(h1 t (by omega)).1, (h1 t (by omega)).2, h2 t ht]
    rfl), Int32.zero_add]
  unfold sp_tk
  rw [(h1 4 (by decide)).1, (h1 4 (by decide)).2, h3, if_pos rfl]
  show (0 : Int32) + 0 + nI n = nI n
  rw [Int32.add_zero, Int32.zero_add]
theorem tw_said : ∀ n, n < 5 → sp_isSaid 2 (nI (5 + n)) = true := by decide +kernel
theorem tw_say (h : tw_S sg rule st w mk td cl B) (hB : B ≤ 900) {p n : Nat} (hp : p < 12) (hp3 : p / 3 = 1) (h1 : st p = 1) (hn : w p = n) (hn5 : n < 5) : sp_thSay sg (nI p) (nI 2) (nI 4) (nI (5 + n)) = 0 ∧ sp_taken (sp_sayN sg (nN (nI p)) (nN (nI 2)) (nN (nI 4)) (nI (5 + n))) (sp_k (nI p) (nI 2)) = nI (n + 1) ∧ tw_S (sp_sayN sg (nN (nI p)) (nN (nI 2)) (nN (nI 4)) (nI (5 + n))) rule st (fun q => if q = p then n + 1 else w q) mk td cl (B + 6) := by
  obtain ⟨hV, hcl, ⟨U, hU, hUB⟩, hA⟩ := h
  have hs2 := hV.s2
  have hV' := hV
  obtain ⟨hI, hJ, e1, h12, h2, h3, h4, h6, h64, h7, h8, h10⟩ := hV'
  have eP : nN (nI p) = p := nI_clamp (by omega)
  obtain ⟨a0, b0, c0⟩ := hA p hp
  have hP := c0 (by rw [h1]; decide)
  rw [hn] at hP
  have hP' := hP
  obtain ⟨h14, p1, p2, p3, p5, p6⟩ := hP'
  have h13 : sg 13 (12 * 2 + p) = 1 := a0.trans h1
  have hent : sp_ent sg (12 * 2 + p) 4 = some 1 := by
    unfold sp_ent
    rw [if_pos h13, show (12 * 2 + p) / 12 = 2 by omega, show 12 * 2 + p = 24 + p from rfl, h14, show nN (nI 1) = 1 from rfl]
    exact hV.has
  have hmore : sp_more sg 2 (5 * (12 * 2 + p) + 4) (nI (5 + n)) = 1 := by
    unfold sp_more
    rw [if_neg (by decide), if_neg (by decide), show 12 * 2 + p = 24 + p from rfl, p3, if_neg (fun q => by have := (nI_eq (b := 12) (by omega) (by decide)).mp q; omega)]
  have htrip : sp_trip sg (nI p) (nI 2) (nI 4) = true := by
    unfold sp_trip
    rw [lf_bT hI hs2 hp]
    rfl
  have hth : sp_thSay sg (nI p) (nI 2) (nI 4) (nI (5 + n)) = 0 := by
    unfold sp_thSay
    rw [if_pos htrip, eP, show nN (nI 2) = 2 from rfl, show nN (nI 4) = 4 from rfl]
    unfold sp_thSayN
    rw [hent]
    dsimp only
    rw [h64, if_pos (tw_said n hn5)]
    unfold sp_sayB
    rw [h64, hmore, tw_fits h12 hU (by omega) (by decide) hp3]
    rfl
  obtain ⟨hI', hJ'⟩ := lp_say hI hJ hth
  have hst : sp_sayN sg (nN (nI p)) (nN (nI 2)) (nN (nI 4)) (nI (5 + n)) = sp_sayU sg 2 (5 * (24 + p) + 4) (nI (5 + n)) := by
    rw [eP, show nN (nI 2) = 2 from rfl, show nN (nI 4) = 4 from rfl]
    unfold sp_sayN
    rw [hent]
    dsimp only
    rw [h64]
  rw [hst] at hI' hJ' ⊢
  have hok : sp_okS sg 2 (5 * (24 + p) + 4) (nI (5 + n)) := ⟨tw_said n hn5, Or.inr (Or.inr ⟨rfl, n, by omega, p3⟩)⟩
  have s20 : sp_sayU sg 2 (5 * (24 + p) + 4) (nI (5 + n)) 20 (5 * (24 + p) + 4) = nI (n + 1) := by
    unfold sp_sayU
    rw [if_neg (by decide), if_neg (by decide), mm_up_s, p3, nI_1]
  have s21 : sp_sayU sg 2 (5 * (24 + p) + 4) (nI (5 + n)) 21 (12 * (5 * (24 + p) + 4) + n) = nI (5 + n) := by
    unfold sp_sayU
    rw [if_neg (by decide), if_neg (by decide), mm_up_j (by decide), p3, show nN (nI n) = n from nI_clamp (by omega), mm_up_s]
  have s21x : ∀ y, y ≠ 12 * (5 * (24 + p) + 4) + n → sp_sayU sg 2 (5 * (24 + p) + 4) (nI (5 + n)) 21 y = sg 21 y := fun y hy => sp_sayU_21 (by rw [p3, show nN (nI n) = n from nI_clamp (by omega)]; exact hy)
  have s17 : sp_sayU sg 2 (5 * (24 + p) + 4) (nI (5 + n)) 17 = sg 17 ∧ sp_sayU sg 2 (5 * (24 + p) + 4) (nI (5 + n)) 19 = sg 19 := by
    unfold sp_sayU
    rw [if_neg (by decide), if_neg (by decide), mm_up_j (by decide), mm_up_j (by decide), mm_up_j (by decide), mm_up_j (by decide)]
    exact ⟨rfl, rfl⟩
  have newP : tw_P (sp_sayU sg 2 (5 * (24 + p) + 4) (nI (5 + n))) (24 + p) (n + 1) := by
    refine ⟨by rw [sp_sayU_j (by decide)]; exact h14, fun t ht => by rw [s17.1, s17.2]; exact p1 t ht, fun t ht => by rw [sp_sayU_x (by omega) (by decide)]; exact p2 t ht, s20, by omega, fun i hi => ?_⟩
    by_cases z : i = n
    · rw [z]; exact s21
    · rw [s21x _ (by omega)]; exact p6 i (by omega)
  refine ⟨hth, ?_, hV.of hI' hJ' (fun j hj => sp_sayU_j (by omega)), by rw [sp_sayU_j (by decide)]; exact hcl, ?_, fun q hq => ?_⟩
  · rw [lf_kN (a := 2) (by decide) hp]
    exact tw_taken newP
  · have hu := sp_used_say hI (k := 24 + p) (t := 4) (by omega) (by decide) hok (nI 1)
    rw [show (24 + p) % 12 / 3 = 1 by omega, if_pos rfl, show 5 * (24 + p) + 4 = 5 * (12 * 2 + p) + 4 from rfl, hmore, hU] at hu
    obtain ⟨W, hW, hW2⟩ := tw_use (lk_used hI' (nI 1)) hu (by omega) (by decide)
    exact ⟨W, hW, by omega⟩
  · dsimp only
    by_cases z : q = p
    · subst z
      rw [if_pos rfl]
      refine ⟨by rw [sp_sayU_j (by decide)]; exact a0, fun y => absurd (h1.symm.trans y) (by decide), fun _ => newP⟩
    · rw [if_neg z]
      obtain ⟨a, b, c⟩ := hA q hq
      refine ⟨by rw [sp_sayU_j (by decide)]; exact a, fun y => by rw [sp_sayU_j (i := 15) (by decide), sp_sayU_j (i := 16) (by decide)]; exact b y, fun y => (c y).of (by rw [sp_sayU_j (by decide)]) (fun t ht => ?_) (fun i hi => s21x _ (by omega))⟩
      rw [s17.1, s17.2, sp_sayU_x (i := 20) (by omega) (by decide)]
      exact ⟨rfl, rfl, rfl⟩
theorem tw_hand (h : tw_S sg rule st w mk td cl B) {p : Nat} (hp : p < 12) (h1 : st p = 1) {mk' : Int32} (hv : tw_v rule (w p) = mk') (hold : ∀ q, q < 12 → st q = 2 → mk = mk' ∧ td = 0) : sp_thHand sg (nI p) (nI 2) = 0 ∧ sp_due sg (sp_k (nI p) (nI 2)) = mk' ∧ tw_S (sp_handS sg (sp_k (nI p) (nI 2))) rule (fun q => if q = p then 2 else st q) w mk' 0 cl B := by
  obtain ⟨hV, hcl, hU, hA⟩ := h
  have hs2 := hV.s2
  have hV' := hV
  obtain ⟨hI, hJ, e1, -⟩ := hV'
  obtain ⟨a0, b0, c0⟩ := hA p hp
  have hP := c0 (by rw [h1]; decide)
  have ek : sp_k (nI p) (nI 2) = 24 + p := lf_kN (a := 2) (by decide) hp
  have hth : sp_thHand sg (nI p) (nI 2) = 0 := by
    unfold sp_thHand
    rw [if_pos (lf_bT hI hs2 hp), ek, if_pos (a0.trans h1)]
  obtain ⟨hI', hJ'⟩ := lp_hand hI hJ hth
  rw [ek] at hI' hJ' ⊢
  have hd : sp_due sg (24 + p) = mk' := (tw_due hV hp hP).trans hv
  refine ⟨hth, hd, hV.of hI' hJ' (fun j hj => sp_handS_j (by omega) (by omega)), by rw [sp_handS_j (by decide) (by decide)]; exact hcl, ?_, fun q hq => ?_⟩
  · rw [sp_used_congr (sp_handS_j (by decide) (by decide)) (sp_handS_j (by decide) (by decide)) (sp_handS_j (by decide) (by decide)) (sp_handS_j (by decide) (by decide)) (sp_handS_j (by decide) (by decide)) (sp_handS_j (by decide) (by decide)) (sp_handS_j (by decide) (by decide))]
    exact hU
  · obtain ⟨a, b, c⟩ := hA q hq
    have cP : ¬ st q = 0 → tw_P (sp_handS sg (24 + p)) (24 + q) (w q) := fun y => (c y).of (by rw [sp_handS_j (by decide) (by decide)]) (fun t _ => by rw [sp_handS_j (i := 17) (by decide) (by decide), sp_handS_j (i := 19) (by decide) (by decide), sp_handS_j (i := 20) (by decide) (by decide)]; exact ⟨rfl, rfl, rfl⟩) (fun i _ => by rw [sp_handS_j (i := 21) (by decide) (by decide)])
    dsimp only
    by_cases z : q = p
    · subst z
      rw [if_pos rfl]
      refine ⟨sp_handS_13, fun _ => ⟨?_, ?_⟩, fun _ => cP (by rw [h1]; decide)⟩
      · rw [show sp_handS sg (24 + q) 15 (24 + q) = sp_due sg (24 + q) from mm_up_s]; exact hd
      · rw [sp_handS_j (by decide) (by decide)]
        exact hJ.2.1 _ (by omega) (by rw [a0, h1]; decide)
    · rw [if_neg z]
      refine ⟨by rw [sp_handS_x (by omega)]; exact a, fun y => ?_, cP⟩
      rw [sp_handS_x (i := 15) (by omega), sp_handS_x (i := 16) (by omega)]
      obtain ⟨x1, x2⟩ := hold q hq y
      rw [← x1, ← x2]
      exact b y
theorem tw_rulJ (hJ : sp_J sg) {e : Nat} {r s : Int32} : sp_J (sp_rul sg e r s) := by
  unfold sp_J sp_n
  rw [sp_rul_j (j := 1) (by decide) (by decide), sp_rul_j (j := 2) (by decide) (by decide), sp_rul_j (j := 13) (by decide) (by decide), sp_rul_j (j := 16) (by decide) (by decide), sp_rul_j (j := 10) (by decide) (by decide), sp_rul_j (j := 11) (by decide) (by decide)]
  exact hJ
theorem tw_mdS {sg1 : mm_S} {s : Nat} : ∀ n p, p < 12 → (sp_mdS sg sg1 s n 15 (12 * s + p) = if p < n ∧ sp_chg sg sg1 (12 * s + p) = true then (if sp_cls sg (12 * s + p) = 0 then sp_due sg1 (12 * s + p) else sg1 15 (12 * s + p)) else sg1 15 (12 * s + p)) ∧ (sp_mdS sg sg1 s n 16 (12 * s + p) = if p < n ∧ sp_chg sg sg1 (12 * s + p) = true then sg1 16 (12 * s + p) + (if sp_cls sg (12 * s + p) = 0 then 0 else 1) else sg1 16 (12 * s + p))
  | 0, p, _ => ⟨by rw [if_neg (fun q => Nat.not_lt_zero _ q.1)]; rfl, by rw [if_neg (fun q => Nat.not_lt_zero _ q.1)]; rfl⟩
  | n + 1, p, hp => by
    obtain ⟨a, b⟩ := tw_mdS (sg1 := sg1) (s := s) n p hp
    by_cases z : p = n
    · subst z
      rw [if_neg (fun q => Nat.lt_irrefl _ q.1)] at a b
      by_cases y : sp_chg sg sg1 (12 * s + p) = true
      · have y2 : p < p + 1 ∧ sp_chg sg sg1 (12 * s + p) = true := ⟨Nat.lt_succ_self p, y⟩
        rw [if_pos y2, if_pos y2, sp_mdS, if_pos y, mm_up_s, mm_up_j (by decide), mm_up_s, a, b]
        exact ⟨rfl, rfl⟩
      · have y2 : ¬ (p < p + 1 ∧ sp_chg sg sg1 (12 * s + p) = true) := fun q => y q.2
        rw [if_neg y2, if_neg y2, sp_mdS_n (Bool.eq_false_iff.mpr y)]
        exact ⟨a, b⟩
    · rw [sp_mdS_x (by omega), sp_mdS_x (by omega), a, b]
      by_cases y : p < n ∧ sp_chg sg sg1 (12 * s + p) = true
      · have y2 : p < n + 1 ∧ sp_chg sg sg1 (12 * s + p) = true := ⟨by omega, y.2⟩
        rw [if_pos y, if_pos y, if_pos y2, if_pos y2]
        exact ⟨rfl, rfl⟩
      · have y2 : ¬ (p < n + 1 ∧ sp_chg sg sg1 (12 * s + p) = true) := fun q => y ⟨by omega, q.2⟩
        rw [if_neg y, if_neg y, if_neg y2, if_neg y2]
        exact ⟨rfl, rfl⟩
theorem tw_cls {p : Nat} (hp : p < 12) (hp3 : p / 3 = 1) : sp_cls sg (12 * 2 + p) = sg 11 9 := by
  unfold sp_cls
  rw [show 4 * ((12 * 2 + p) / 12) + (12 * 2 + p) % 12 / 3 = 9 by omega]
/-- a mend of the words: the marks of those who handed in change where the due marks do -/
theorem tw_mend (h : tw_S sg rule st w mk td cl B) (hB : B ≤ 900) (hst : ∀ p, p < 12 → st p = 2 → w p = 5 ∧ p / 3 = 1) {rule' : Int32} (hrow : sp_row rule' = true) {N : Int32} (hN : N = if tw_v rule' 5 = tw_v rule 5 then 0 else sp_is (fun p => if st p = 2 ∧ p < 12 then 1 else 0) 12) {mk' td' : Int32} (hmk : mk' = if tw_v rule' 5 = tw_v rule 5 then mk else if cl = 0 then tw_v rule' 5 else mk) (htd : td' = if tw_v rule' 5 = tw_v rule 5 then td else td + (if cl = 0 then 0 else 1)) : sp_thMenW sg (nI 2) (nI 1) (nI 4) rule' = 0 ∧ sp_mendN sg (nN (nI 2)) (sp_menE sg (nN (nI 2)) (nN (nI 1)) (nN (nI 4)) 2) rule' 0 = N ∧ tw_S (sp_mend sg (nN (nI 2)) (sp_menE sg (nN (nI 2)) (nN (nI 1)) (nN (nI 4)) 2) rule' 0) rule' st w mk' td' cl (B + 6) := by
  obtain ⟨hV, hcl, ⟨U, hU, hUB⟩, hA⟩ := h
  have hs2 := hV.s2
  have hth1 := hV.th
  have hV' := hV
  obtain ⟨hI, hJ, e1, h12, h2, h3, h4, h6, h64, h7, h8, h10⟩ := hV'
  have hmen : sp_men sg 2 1 4 2 = some 1 := by
    unfold sp_men
    rw [hV.has]
    dsimp only
    rw [if_pos h64]
  have hE : sp_menE sg (nN (nI 2)) (nN (nI 1)) (nN (nI 4)) 2 = sp_e 2 1 4 := by
    rw [show nN (nI 2) = 2 from rfl, show nN (nI 1) = 1 from rfl, show nN (nI 4) = 4 from rfl]
    unfold sp_menE
    rw [hmen]
  obtain ⟨c1, c2⟩ := ca_cN_is sg (sp_e 2 1 4)
  obtain ⟨c3, c4⟩ := ca_cN_is (sp_rul sg (sp_e 2 1 4) rule' 0) (sp_e 2 1 4)
  have hl := sp_len_le rule'
  have hd : -100 ≤ (nI (sp_len rule') - sp_cost sg (sp_e 2 1 4)).toInt ∧ (nI (sp_len rule') - sp_cost sg (sp_e 2 1 4)).toInt ≤ 100 := by
    rw [c1, Int32.toInt_sub, nI_toInt (by omega), nI_toInt (by omega), sl_bmod (by omega) (by omega)]
    omega
  have hth : sp_thMenW sg (nI 2) (nI 1) (nI 4) rule' = 0 := by
    unfold sp_thMenW
    have hfit : sp_fits sg (nN (nI 1)) (nI (sp_len rule') - sp_cost sg (sp_e 2 1 4)) = true := tw_fits h12 hU (by omega) hd (by decide)
    have hmW : sp_menW sg 2 1 4 rule' = true := by
      unfold sp_menW
      rw [hmen]
      exact (congrArg (fun z => sp_fits sg (nN z) (nI (sp_len rule') - sp_cost sg (sp_e 2 1 4))) h4).trans hfit
    rw [if_pos (lf_nmT (lf_isV hI hs2 hth1) (t := 4) (by decide)), if_pos hrow, show nN (nI 2) = 2 from rfl, show nN (nI 1) = 1 from rfl, show nN (nI 4) = 4 from rfl, if_pos hmW]
  obtain ⟨hI', hJ'⟩ := lp_mendWords hI hJ hth
  rw [hE, show nN (nI 2) = 2 from rfl] at hI' hJ' ⊢
  have hr : sp_okR sg (sp_e 2 1 4) rule' 0 := sp_okR_of h64 (Or.inr (Or.inr ⟨rfl, hrow⟩))
  have hV1 : tw_V (sp_rul sg (sp_e 2 1 4) rule' 0) rule' := by
    refine ⟨hI.rul hr, tw_rulJ hJ, ?_, ?_, ?_, ?_, ?_, ?_, ?_, ?_, sp_rul_8, ?_⟩
    · unfold sp_n at e1 ⊢; rw [sp_rul_j (by decide) (by decide)]; exact e1
    · rw [sp_rul_j (by decide) (by decide)]; exact h12
    · rw [sp_rul_j (by decide) (by decide)]; exact h2
    · rw [sp_rul_j (by decide) (by decide)]; exact h3
    · rw [sp_rul_j (by decide) (by decide)]; exact h4
    · rw [sp_rul_j (by decide) (by decide)]; exact h6
    · rw [sp_rul_j (by decide) (by decide)]; exact h64
    · rw [sp_rul_j (by decide) (by decide)]; exact h7
    · rw [sp_rul_j (by decide) (by decide)]; exact h10
  have ej : ∀ j, j ≠ 15 → j ≠ 16 → sp_mend sg 2 (sp_e 2 1 4) rule' 0 j = sp_rul sg (sp_e 2 1 4) rule' 0 j := fun j a b => sp_mdS_j 12 j a b
  have ej2 : ∀ j, j ≠ 15 → j ≠ 16 → j ≠ 8 → j ≠ 9 → sp_mend sg 2 (sp_e 2 1 4) rule' 0 j = sg j := fun j a b c d => (ej j a b).trans (sp_rul_j c d)
  have hV2 : tw_V (sp_mend sg 2 (sp_e 2 1 4) rule' 0) rule' := hV1.of hI' hJ' (fun j hj => ej j (by omega) (by omega))
  have rP : ∀ q n, tw_P sg (24 + q) n → tw_P (sp_rul sg (sp_e 2 1 4) rule' 0) (24 + q) n := fun q n hP => hP.of (by rw [sp_rul_j (by decide) (by decide)]) (fun t _ => by rw [sp_rul_j (j := 17) (by decide) (by decide), sp_rul_j (j := 19) (by decide) (by decide), sp_rul_j (j := 20) (by decide) (by decide)]; exact ⟨rfl, rfl, rfl⟩) (fun i _ => by rw [sp_rul_j (j := 21) (by decide) (by decide)])
  have hchg : ∀ p, p < 12 → (sp_chg sg (sp_rul sg (sp_e 2 1 4) rule' 0) (12 * 2 + p) = true ↔ st p = 2 ∧ ¬ tw_v rule' 5 = tw_v rule 5) := fun p hp => by
    obtain ⟨a, b, c⟩ := hA p hp
    unfold sp_chg
    rw [Bool.and_eq_true, decide_eq_true_eq, Bool.not_eq_true', decide_eq_false_iff_not, show 12 * 2 + p = 24 + p from rfl, a]
    refine and_congr_right (fun z => ?_)
    have hP := c (by rw [z]; decide)
    rw [(hst p hp z).1] at hP
    rw [tw_due hV hp hP, tw_due hV1 hp (rP p 5 hP)]
  refine ⟨hth, ?_, hV2, by rw [ej2 11 (by decide) (by decide) (by decide) (by decide)]; exact hcl, ?_, fun p hp => ?_⟩
  · rw [hN]
    show sp_is (fun p => if sp_chg sg (sp_rul sg (sp_e 2 1 4) rule' 0) (12 * 2 + p) = true then 1 else 0) 12 = _
    by_cases z : tw_v rule' 5 = tw_v rule 5
    · rw [if_pos z]
      exact sp_is_zero 12 (fun p hp => if_neg (fun q => ((hchg p hp).mp q).2 z))
    · rw [if_neg z]
      refine sp_is_congr 12 (fun p hp => ?_)
      by_cases y : st p = 2
      · rw [if_pos ((hchg p hp).mpr ⟨y, z⟩), if_pos ⟨y, hp⟩]
      · rw [if_neg (fun q => y ((hchg p hp).mp q).1), if_neg (fun q => y q.1)]
  · have hu := sp_used_rul (sg := sg) (e := sp_e 2 1 4) (rule := rule') (slack := 0) (by decide) (by show ¬ sg 2 33 = 0; rw [h2]; decide) (nI 1)
    rw [show sp_e 2 1 4 / 5 = 33 from rfl, h4, if_pos rfl, hU] at hu
    have hu2 : sp_used (sp_mend sg 2 (sp_e 2 1 4) rule' 0) (nI 1) = sp_used (sp_rul sg (sp_e 2 1 4) rule' 0) (nI 1) := sp_used_congr (ej 2 (by decide) (by decide)) (ej 4 (by decide) (by decide)) (ej 6 (by decide) (by decide)) (ej 8 (by decide) (by decide)) (ej 17 (by decide) (by decide)) (ej 19 (by decide) (by decide)) (ej 20 (by decide) (by decide)) _
    obtain ⟨W, hW, hW2⟩ := tw_use (lk_used hI' (nI 1)) (hu2.trans hu) (by omega) (by
      rw [c1, c3, Int32.toInt_sub, nI_toInt (by omega), nI_toInt (by omega), sl_bmod (by omega) (by omega)]
      omega)
    exact ⟨W, hW, by omega⟩
  · obtain ⟨a, b, c⟩ := hA p hp
    refine ⟨by rw [ej2 13 (by decide) (by decide) (by decide) (by decide)]; exact a, fun z => ?_, fun z => (c z).of (by rw [ej2 14 (by decide) (by decide) (by decide) (by decide)]) (fun t _ => by rw [ej2 17 (by decide) (by decide) (by decide) (by decide), ej2 19 (by decide) (by decide) (by decide) (by decide), ej2 20 (by decide) (by decide) (by decide) (by decide)]; exact ⟨rfl, rfl, rfl⟩) (fun i _ => by rw [ej2 21 (by decide) (by decide) (by decide) (by decide)])⟩
    obtain ⟨b1, b2⟩ := b z
    obtain ⟨w5, p3⟩ := hst p hp z
    have hP := c (by rw [z]; decide)
    rw [w5] at hP
    obtain ⟨m1, m2⟩ := tw_mdS (sg := sg) (sg1 := sp_rul sg (sp_e 2 1 4) rule' 0) (s := 2) 12 p hp
    rw [tw_cls hp p3, hcl, sp_rul_j (j := 15) (by decide) (by decide), show 12 * 2 + p = 24 + p from rfl, b1, tw_due hV1 hp (rP p 5 hP)] at m1
    rw [tw_cls hp p3, hcl, sp_rul_j (j := 16) (by decide) (by decide), show 12 * 2 + p = 24 + p from rfl, b2] at m2
    refine ⟨m1.trans ?_, m2.trans ?_⟩
    · rw [hmk]
      by_cases y : tw_v rule' 5 = tw_v rule 5
      · rw [if_pos y, if_neg (fun q => ((hchg p hp).mp q.2).2 y)]
      · rw [if_neg y, if_pos ⟨hp, (hchg p hp).mpr ⟨z, y⟩⟩]
    · rw [htd]
      by_cases y : tw_v rule' 5 = tw_v rule 5
      · rw [if_pos y, if_neg (fun q => ((hchg p hp).mp q.2).2 y)]
      · rw [if_neg y, if_pos ⟨hp, (hchg p hp).mpr ⟨z, y⟩⟩]
theorem tw_close (h : tw_S sg rule st w mk td 0 B) (h3 : st 3 = 0) (h4 : st 4 = 2) (h5 : st 5 = 2) : sp_thClose sg (nI 1) (nI 2) = 0 ∧ sp_clN (mm_up sg 11 (4 * nN (nI 2) + nN (nI 1)) 1) (12 * nN (nI 2) + 3 * nN (nI 1)) 3 = nI 2 ∧ tw_S (sp_clS (mm_up sg 11 (4 * nN (nI 2) + nN (nI 1)) 1) (12 * nN (nI 2) + 3 * nN (nI 1)) 3) rule st w mk td 1 B := by
  obtain ⟨hV, hcl, hU, hA⟩ := h
  have hs2 := hV.s2
  have hV' := hV
  obtain ⟨hI, hJ, e1, -⟩ := hV'
  have hth : sp_thClose sg (nI 1) (nI 2) = 0 := by
    unfold sp_thClose
    rw [if_pos (lf_csT hI hs2 (g := 1) (by decide))]
    have e9 : sg 11 (4 * nN (nI 2) + nN (nI 1)) = 0 := hcl
    rw [if_pos e9]
  obtain ⟨hI', hJ'⟩ := lp_close hI hJ hth
  have e11 : 4 * nN (nI 2) + nN (nI 1) = 9 := by decide
  have e27 : 12 * nN (nI 2) + 3 * nN (nI 1) = 27 := by decide
  rw [e11, e27] at hI' hJ' ⊢
  have j13 : ∀ k, mm_up sg 11 9 1 13 k = sg 13 k := fun k => by rw [mm_up_j (by decide)]
  have a27 : sg 13 27 = 0 := (hA 3 (by decide)).1.trans h3
  have a28 : sg 13 28 = 2 := (hA 4 (by decide)).1.trans h4
  have a29 : sg 13 29 = 2 := (hA 5 (by decide)).1.trans h5
  have s1 : sp_clS (mm_up sg 11 9 1) 27 1 = mm_up sg 11 9 1 := sp_clS_s (n := 0) (by show ¬ mm_up sg 11 9 1 13 27 = 1; rw [j13, a27]; decide)
  have s2 : sp_clS (mm_up sg 11 9 1) 27 2 = mm_up sg 11 9 1 := (sp_clS_s (n := 1) (by rw [s1]; show ¬ mm_up sg 11 9 1 13 28 = 1; rw [j13, a28]; decide)).trans s1
  have s3 : sp_clS (mm_up sg 11 9 1) 27 3 = mm_up sg 11 9 1 := (sp_clS_s (n := 2) (by rw [s2]; show ¬ mm_up sg 11 9 1 13 29 = 1; rw [j13, a29]; decide)).trans s2
  have n1 : sp_clN (mm_up sg 11 9 1) 27 1 = 0 := sp_clN_s (n := 0) (by show ¬ mm_up sg 11 9 1 13 27 = 2; rw [j13, a27]; decide)
  have n2 : sp_clN (mm_up sg 11 9 1) 27 2 = 1 := (sp_clN_y (n := 1) (by rw [s1]; show mm_up sg 11 9 1 13 28 = 2; rw [j13, a28])).trans (by rw [n1]; rfl)
  have n3 : sp_clN (mm_up sg 11 9 1) 27 3 = nI 2 := (sp_clN_y (n := 2) (by rw [s2]; show mm_up sg 11 9 1 13 29 = 2; rw [j13, a29])).trans (by rw [n2]; rfl)
  rw [s3] at hI' hJ' ⊢
  refine ⟨hth, n3, hV.of hI' hJ' (fun j hj => mm_up_j (by omega)), mm_up_s, ?_, fun p hp => ?_⟩
  · rw [sp_used_congr (mm_up_j (by decide)) (mm_up_j (by decide)) (mm_up_j (by decide)) (mm_up_j (by decide)) (mm_up_j (by decide)) (mm_up_j (by decide)) (mm_up_j (by decide))]
    exact hU
  · obtain ⟨a, b, c⟩ := hA p hp
    refine ⟨by rw [mm_up_j (by decide)]; exact a, fun z => by rw [mm_up_j (j' := 15) (by decide), mm_up_j (j' := 16) (by decide)]; exact b z, fun z => (c z).of (by rw [mm_up_j (by decide)]) (fun t _ => by rw [mm_up_j (j' := 17) (by decide), mm_up_j (j' := 19) (by decide), mm_up_j (j' := 20) (by decide)]; exact ⟨rfl, rfl, rfl⟩) (fun i _ => by rw [mm_up_j (j' := 21) (by decide)])⟩
/-- the beginning: a sheet, a quota, a version -/
theorem tw_begin (hI : sp_I sg) (hJ : sp_J sg) (hK : sp_K sg) : sg 1 0 = nI 2 ∧ sp_w (!decide (sg 1 0 = 4)) = 0 ∧ ∃ s1 s2 s3 : mm_S, sp_addS sg = s1 ∧ sp_I s1 ∧ sp_J s1 ∧ mm_up s1 12 (nN (nI 1)) (nI 1000) = s2 ∧ sp_thQuota (nI 1) (nI 1000) = 0 ∧ 0 ≤ s1 12 (nN (nI 1)) ∧ sp_I s2 ∧ sp_J s2 ∧ sp_thSet s2 (nI 1) (nI 2) (nI 4) (sp_areW (nI 10) (nI 5)) (nI (sp_len (nI 5))) = 0 ∧ s2 5 (nN (nI 2)) = nI 1 ∧ sp_rev s2 (nN (nI 1)) (nN (nI 2)) (nN (nI 4)) 2 (nI 10) (nI 5) 0 = s3 ∧ tw_S s3 (nI 5) (fun _ => 0) (fun _ => 0) 0 0 0 106 := by
  have e1 : sg 1 0 = nI 2 := by rw [hI.i1.1, hK.1]
  have hw : sp_w (!decide (sg 1 0 = 4)) = 0 := by rw [e1]; rfl
  have hn4 : sp_n sg < 4 := by rw [hK.1]; decide
  obtain ⟨hI1, hJ1⟩ := lp_addSheet hI hJ hw
  have n3 : sp_n (sp_addS sg) = 3 := by rw [sp_addS_n hI hn4, hK.1]
  have hq : sp_thQuota (nI 1) (nI 1000) = 0 := by decide
  obtain ⟨hI2, hJ2⟩ := lp_quota hI1 hJ1 hq
  have q1 : nN (nI 1) = 1 := by decide
  have q2 : nN (nI 2) = 2 := by decide
  have q4 : nN (nI 4) = 4 := by decide
  have x12 : sp_addS sg 12 = sg 12 := sp_addS_r (by decide)
  have n3' : sp_n (mm_up (sp_addS sg) 12 1 (nI 1000)) = 3 := by unfold sp_n at n3 ⊢; rw [mm_up_j (by decide)]; exact n3
  have x5 : mm_up (sp_addS sg) 12 1 (nI 1000) 5 2 = nI 1 := by
    rw [mm_up_j (by decide)]
    have := sp_addS_5 (sg := sg)
    rw [hK.1] at this
    exact this
  obtain ⟨U, hU, hUb⟩ := lk_used hI (nI 1)
  have hU100 : U ≤ 100 := by
    have := (hK.2.2.2 1 (by decide)).2
    rw [hU, sp_in_int, nI_toInt (by omega)] at this
    rw [show (100 : Int32).toInt = 100 from by decide] at this
    omega
  have hU2 : sp_used (mm_up (sp_addS sg) 12 1 (nI 1000)) (nI 1) = nI U := by
    rw [sp_used_congr (mm_up_j (by decide)) (mm_up_j (by decide)) (mm_up_j (by decide)) (mm_up_j (by decide)) (mm_up_j (by decide)) (mm_up_j (by decide)) (mm_up_j (by decide)), sp_used_addS hJ hn4 (by decide), hU]
  have x12' : mm_up (sp_addS sg) 12 1 (nI 1000) 12 1 = nI 1000 := mm_up_s
  rw [q1] at hI2 hJ2
  have hname : sp_name (mm_up (sp_addS sg) 12 1 (nI 1000)) (nI 1) (nI 2) (nI 4) = true := lf_nT hI2 (by rw [n3']; decide) (by decide) (by decide)
  have hcan : sp_canRev (mm_up (sp_addS sg) 12 1 (nI 1000)) (nN (nI 1)) (nN (nI 2)) (nI (sp_len (nI 5))) = true := by
    unfold sp_canRev
    rw [q1, q2, x5, tw_n5]
    have hf : sp_fits (mm_up (sp_addS sg) 12 1 (nI 1000)) 1 (nI 1) = true := tw_fits x12' hU2 (by omega) (by decide) rfl
    rw [hf]
    decide
  have hth : sp_thSet (mm_up (sp_addS sg) 12 1 (nI 1000)) (nI 1) (nI 2) (nI 4) (sp_areW (nI 10) (nI 5)) (nI (sp_len (nI 5))) = 0 := by
    unfold sp_thSet
    rw [if_pos hname, if_pos (by decide +kernel), if_pos hcan]
  obtain ⟨hI3, hJ3⟩ := lp_setWords hI2 hJ2 hth
  refine ⟨e1, hw, sp_addS sg, mm_up (sp_addS sg) 12 1 (nI 1000), _, rfl, hI1, hJ1, by rw [q1], hq, ?_, hI2, hJ2, hth, by rw [q2]; exact x5, rfl, ?_⟩
  · rw [x12, q1]
    have := (hK.2.2.2 1 (by decide)).1
    simp only [sp_in, Bool.and_eq_true, decide_eq_true_eq] at this
    exact this.1
  rw [q1, q2, q4] at hI3 hJ3 ⊢
  have hrev : sp_rev (mm_up (sp_addS sg) 12 1 (nI 1000)) 1 2 4 2 (nI 10) (nI 5) 0 = sp_revA (mm_up (sp_addS sg) 12 1 (nI 1000)) 1 2 4 (16 * 2 + 1) 2 (nI 10) (nI 5) 0 := by
    unfold sp_rev
    rw [x5, q1]
  rw [hrev] at hI3 hJ3 ⊢
  have hmv : ∀ v, sp_th (mm_up (sp_addS sg) 12 1 (nI 1000)) 2 v → v < 1 := fun v hv => by
    obtain ⟨m, m1, m2, m3, m4⟩ := hI2.i2 2 (by rw [n3']; decide)
    rw [x5] at m3
    have := (nI_eq (by decide) (by omega)).mp m3
    have := m4 v hv
    omega
  have x10 : ∀ g, g < 4 → mm_up (sp_addS sg) 12 1 (nI 1000) 10 (4 * 2 + g) = 0 ∧ mm_up (sp_addS sg) 12 1 (nI 1000) 11 (4 * 2 + g) = 0 := fun g hg => by
    rw [mm_up_j (by decide), mm_up_j (by decide), sp_addS_r (by decide), sp_addS_r (by decide)]
    exact hJ.2.2 2 (by rw [hK.1]; exact Nat.le_refl 2) (by decide) g hg
  have x13 : ∀ p, p < 12 → mm_up (sp_addS sg) 12 1 (nI 1000) 13 (24 + p) = 0 := fun p hp => by
    rw [mm_up_j (by decide), sp_addS_r (by decide)]
    exact hI.k0 (by omega) (by rw [hK.1]; omega)
  have hno : ¬ sp_th (mm_up (sp_addS sg) 12 1 (nI 1000)) 2 1 := fun q => absurd (hmv 1 q) (by decide)
  have x2 : mm_up (sp_addS sg) 12 1 (nI 1000) 2 (16 * 2 + 1) = 0 := lh_th (by decide) hno
  have x6 : ∀ t, t < 5 → mm_up (sp_addS sg) 12 1 (nI 1000) 6 (sp_e 2 1 t) = 4 := fun t ht => (hI2.i5 2 1 t (by decide) (by decide) ht).2.1 x2
  refine ⟨⟨hI3, hJ3, ?_, ?_, ?_, ?_, ?_, fun t ht => ?_, ?_, ?_, ?_, ?_⟩, ?_, ?_, fun p hp => ⟨?_, fun z => absurd (show (0 : Int32) = 2 from z) (by decide), fun z => absurd rfl z⟩⟩
  · exact (sp_rev_n (m := 1)).trans n3'
  · rw [sp_revA_j (by decide)]; exact mm_up_s
  · show sp_revA _ 1 2 4 (16 * 2 + 1) 2 (nI 10) (nI 5) 0 2 (16 * 2 + 1) = 1
    rw [sp_revA_r2, mm_up_s]
  · show sp_revA _ 1 2 4 (16 * 2 + 1) 2 (nI 10) (nI 5) 0 3 (16 * 2 + 1) = nI 0
    rw [sp_revA_r3, mm_up_s]
    exact (x10 1 (by decide)).1
  · show sp_revA _ 1 2 4 (16 * 2 + 1) 2 (nI 10) (nI 5) 0 4 (16 * 2 + 1) = nI 1
    rw [sp_revA_r4, mm_up_s]
  · rw [sp_revA_r6, mm_up_x (show sp_e 2 1 t ≠ 5 * (16 * 2 + 1) + 4 by unfold sp_e; omega)]
    exact x6 t (by omega)
  · show sp_revA _ 1 2 4 (16 * 2 + 1) 2 (nI 10) (nI 5) 0 6 (5 * (16 * 2 + 1) + 4) = 2
    rw [sp_revA_r6, mm_up_s]
  · show sp_revA _ 1 2 4 (16 * 2 + 1) 2 (nI 10) (nI 5) 0 7 (5 * (16 * 2 + 1) + 4) = nI 10
    rw [sp_revA_r7, mm_up_s]
  · show sp_revA _ 1 2 4 (16 * 2 + 1) 2 (nI 10) (nI 5) 0 8 (5 * (16 * 2 + 1) + 4) = nI 5
    rw [sp_revA_r8, mm_up_s]
  · show sp_revA _ 1 2 4 (16 * 2 + 1) 2 (nI 10) (nI 5) 0 10 (4 * 2 + 1) = nI 1
    rw [sp_revA_r10, mm_up_s]
    exact x5
  · rw [sp_revA_j (by decide)]
    exact (x10 1 (by decide)).2
  · have hu := sp_used_rev (kind := 2) (pts := nI 10) (rule := nI 5) (slack := 0) (g := 1) (s := 2) (t := 4) (m := 1) hI2 (by rw [n3']; decide) (by decide) (by decide) hmv (nI 1)
    rw [if_pos rfl, hU2] at hu
    obtain ⟨c1, c2⟩ := ca_cN_is (sp_revA (mm_up (sp_addS sg) 12 1 (nI 1000)) 1 2 4 (16 * 2 + 1) 2 (nI 10) (nI 5) 0) (5 * (16 * 2 + 1) + 4)
    obtain ⟨W, hW, hW2⟩ := tw_use (lk_used hI3 (nI 1)) hu (by omega) (by rw [c1, nI_toInt (by omega)]; omega)
    exact ⟨W, hW, by omega⟩
  · rw [sp_revA_j (by decide)]
    exact x13 p hp
end TX
