/-! a version is laid behind a head: the system's side -/
section REVW
variable {C : hm_C} {k n : Nat} {Q : State → Prop} {M F Mb : hm_M} {pc : Nat} {L : List (Option Value)} {st : List Value} {cA : Nat → ClassId} {sg ta : mm_S} {ad : Nat → Nat → Nat}
theorem cr_at_ne {q0 y0 q1 y1 : Nat} (h : cr_R cA sg ta ad F M) {e0 e1 : va_E} (h0 : cr_cell cA sg ta ad q0 y0 = some e0) (h1 : cr_cell cA sg ta ad q1 y1 = some e1) (hn : ¬ (q0 = q1 ∧ y0 = y1)) : ad q0 y0 ≠ ad q1 y1 := fun z => hn (h.2.1 _ _ _ _ _ _ h0 h1 z)
theorem hr_rev {g a t m : Nat} {kind pts rule slack kd : Int32} (hI : sp_I sg) (h : cr_R cA sg ta ad F M) (hs : cr_isS sg a = true) (hg : g < 4) (ht : t < 5) (h5 : sg 5 a = nI m) (hm1 : 1 ≤ m) (hm16 : m < 16) (hm : ∀ v, sp_th sg a v → v < m) (hok : sp_okE kind pts rule slack) (hkd : kd = if kind = 3 then -1 else kind)
    (hF : ∀ b e, Mb b = some e → F b = some e) (b13 : Mb (ad 13 (16 * a + m)) = none) (b14 : Mb (ad 14 (16 * a + m)) = none) (b15 : Mb (ad 15 (5 * (16 * a + m) + t)) = none)
    (f13 : F (ad 13 (16 * a + m)) = some (.inr (4, [.int (sg 5 a), .int (nI g), va_rf (some (ad 13 (cr_hd sg a g))), .ref (ad 14 (16 * a + m))]))) (f14 : F (ad 14 (16 * a + m)) = some (cr_rw cA 5 5 (va_up (fun _ => none) t (some (ad 15 (5 * (16 * a + m) + t)))))) (f15 : F (ad 15 (5 * (16 * a + m) + t)) = some (.inr (1, [.int kd, .int pts, .int rule, .int slack])))
    {M7 : hm_M} (e7 : M7 = hm_up (hm_up (hm_up M (ad 9 a) (cr_rw cA 4 16 (va_up (fun v => if sg 2 (16 * a + v) = 0 then none else some (ad 13 (16 * a + v))) m (some (ad 13 (16 * a + m)))))) (ad 8 a) (.inr (3, [.ref (ad 9 a), .int (sg 5 a + 1), .ref (ad 10 a), .ref (ad 11 a), .ref (ad 12 a)]))) (ad 10 a) (cr_rw cA 4 4 (va_up (fun g => some (ad 13 (cr_hd sg a g))) g (some (ad 13 (16 * a + m))))))
    (kk : ∀ M2 : hm_M, cr_R cA (sp_revA sg g a t (16 * a + m) kind pts rule slack) ta ad Mb M2 → hm_W C k n Q M2 pc L st) : hm_W C k n Q M7 pc L st := by
  subst e7
  obtain ⟨ha1, ha4⟩ := cr_isS_4 hI hs
  have hn2 : sg 2 (16 * a + m) = 0 := by
    by_cases q : sg 2 (16 * a + m) = 0
    · exact q
    · have := hm m ⟨hm16, q⟩; omega
  have s1 : sp_revA sg g a t (16 * a + m) kind pts rule slack 1 = sg 1 := sp_revA_j (by decide)
  have l9 : cr_cell cA sg ta ad 9 a = some _ := if_pos hs
  have l8 : cr_cell cA sg ta ad 8 a = some _ := if_pos hs
  have l10 : cr_cell cA sg ta ad 10 a = some _ := if_pos hs
  have n89 : ad 8 a ≠ ad 9 a := cr_at_ne h l8 l9 (fun z => absurd z.1 (by decide))
  have n810 : ad 8 a ≠ ad 10 a := cr_at_ne h l8 l10 (fun z => absurd z.1 (by decide))
  have n910 : ad 9 a ≠ ad 10 a := cr_at_ne h l9 l10 (fun z => absurd z.1 (by decide))
  refine hr_re2 h hF (fun b e he => ?_) (fun q y => (q = 13 ∧ y = 16 * a + m) ∨ (q = 14 ∧ y = 16 * a + m) ∨ (q = 15 ∧ y = 5 * (16 * a + m) + t)) (fun q y e he hN => ?_) (fun q y hN => ?_) (fun q y q' y' hN hN' hq => ?_) kk
  · have hb : ∀ q y w, cr_cell cA sg ta ad q y = some w → b ≠ ad q y := fun q y w hw z => by
      rw [z, (h.1 q y w hw).2] at he
      cases he
    rw [hm_up_n (hb 10 a _ l10), hm_up_n (hb 8 a _ l8), hm_up_n (hb 9 a _ l9)]
    exact h.2.2 b e he
  · by_cases w9 : q = 9 ∧ y = a
    · obtain ⟨rfl, rfl⟩ := w9
      refine ⟨_, _, l9, by rw [hm_up_n n910, hm_up_n n89.symm, hm_up_s], ?_⟩
      cases cr_ob_e he
      refine va_sm.r (fun v hv => ?_)
      rw [sp_revA_r2]
      unfold va_up
      by_cases z : v = m
      · rw [if_pos z, z, mm_up_s, if_neg (by decide)]
      · rw [if_neg z, mm_up_x (by omega)]
    by_cases w8 : q = 8 ∧ y = a
    · obtain ⟨rfl, rfl⟩ := w8
      refine ⟨_, _, l8, by rw [hm_up_n n810, hm_up_s], ?_⟩
      cases cr_ob_e he
      rw [sp_revA_r5, mm_up_s]
      exact va_sm.rf
    by_cases w10 : q = 10 ∧ y = a
    · obtain ⟨rfl, rfl⟩ := w10
      refine ⟨_, _, l10, hm_up_s, ?_⟩
      cases cr_ob_e he
      refine va_sm.r (fun g' hg' => ?_)
      unfold va_up cr_hd
      rw [sp_revA_r10]
      by_cases z : g' = g
      · rw [if_pos z, z, mm_up_s, h5, show nN (nI m) = m from nI_clamp (by omega)]
      · rw [if_neg z, mm_up_x (by omega)]
    have hpt : cr_pt sg ta (sp_revA sg g a t (16 * a + m) kind pts rule slack) ta q y := by
      rcases Nat.lt_or_ge 20 q with hq | hq
      · unfold cr_pt
        split <;> first | omega | trivial
      rcases (show q = 0 ∨ q = 1 ∨ q = 2 ∨ q = 3 ∨ q = 4 ∨ q = 5 ∨ q = 6 ∨ q = 7 ∨ q = 8 ∨ q = 9 ∨ q = 10 ∨ q = 11 ∨ q = 12 ∨ q = 13 ∨ q = 14 ∨ q = 15 ∨ q = 16 ∨ q = 17 ∨ q = 18 ∨ q = 19 ∨ q = 20 by omega) with rfl | rfl | rfl | rfl | rfl | rfl | rfl | rfl | rfl | rfl | rfl | rfl | rfl | rfl | rfl | rfl | rfl | rfl | rfl | rfl | rfl
      · exact congrFun s1 0
      · exact congrFun s1 0
      · exact fun i _ => by rw [sp_revA_j (j := 12) (by decide)]
      · exact fun _ _ => rfl
      · exact fun _ _ => rfl
      · trivial
      · exact fun _ _ => rfl
      · exact fun _ _ => rfl
      · exact ⟨congrFun s1 0, by rw [sp_revA_r5, mm_up_x (fun z => w8 ⟨rfl, z⟩)]⟩
      · exact ⟨congrFun s1 0, fun v hv => by rw [sp_revA_r2, mm_up_x (fun z => w9 ⟨rfl, by omega⟩)]⟩
      · exact ⟨congrFun s1 0, fun v hv => by rw [sp_revA_r10, mm_up_x (fun z => w10 ⟨rfl, by omega⟩)]⟩
      · exact ⟨congrFun s1 0, fun v hv => by rw [sp_revA_j (j := 11) (by decide)]⟩
      · exact ⟨congrFun s1 0, fun v hv => by rw [sp_revA_j (j := 13) (by decide)]⟩
      · have hy : y ≠ 16 * a + m := fun z => hN (Or.inl ⟨rfl, z⟩)
        exact ⟨congrFun s1 0, by rw [sp_revA_r2, mm_up_x hy], by rw [sp_revA_r3, mm_up_x hy], by rw [sp_revA_r4, mm_up_x hy]⟩
      · have hy : y ≠ 16 * a + m := fun z => hN (Or.inr (Or.inl ⟨rfl, z⟩))
        exact ⟨congrFun s1 0, by rw [sp_revA_r2, mm_up_x hy], fun t' ht' => by rw [sp_revA_r6, mm_up_x (by omega)]⟩
      · have hy : y ≠ 5 * (16 * a + m) + t := fun z => hN (Or.inr (Or.inr ⟨rfl, z⟩))
        exact ⟨congrFun s1 0, by rw [sp_revA_r6, mm_up_x hy], by rw [sp_revA_r7, mm_up_x hy], by rw [sp_revA_r8, mm_up_x hy], by rw [sp_revA_r9, mm_up_x hy]⟩
      · exact ⟨congrFun s1 0, by rw [sp_revA_j (j := 13) (by decide)], by rw [sp_revA_j (j := 14) (by decide)], by rw [sp_revA_j (j := 15) (by decide)], by rw [sp_revA_j (j := 16) (by decide)], rfl, rfl⟩
      · exact ⟨congrFun s1 0, by rw [sp_revA_j (j := 13) (by decide)]⟩
      · exact ⟨congrFun s1 0, by rw [sp_revA_j (j := 13) (by decide)], fun _ _ => rfl⟩
      · exact ⟨congrFun s1 0, by rw [sp_revA_j (j := 13) (by decide)], by rw [sp_revA_j (j := 17) (by decide)], by rw [sp_revA_j (j := 19) (by decide)], by rw [sp_revA_j (j := 20) (by decide)], rfl⟩
      · exact ⟨congrFun s1 0, by rw [sp_revA_j (j := 13) (by decide)], fun _ _ => rfl⟩
    obtain ⟨e2, h2, h3⟩ := hpt.sm he
    refine ⟨e2, e2, h2, ?_, h3⟩
    rw [hm_up_n (cr_at_ne h h2 l10 w10), hm_up_n (cr_at_ne h h2 l8 w8), hm_up_n (cr_at_ne h h2 l9 w9)]
    exact (h.1 _ _ _ h2).1
  · rcases hN with ⟨rfl, rfl⟩ | ⟨rfl, rfl⟩ | ⟨rfl, rfl⟩
    · refine ⟨b13, _, f13, fun e he => ?_⟩
      cases cr_ob_e he
      unfold cr_up
      obtain ⟨w, w1, w2, w3⟩ := cr_hd_nat hI ha1 hg
      have w16 := w1.1
      rw [sp_revA_r3, sp_revA_r4, mm_up_s, mm_up_s, w2, if_neg (nI_m1 (by omega)), show nN (nI w) = w from nI_clamp (by omega), show (16 * a + m) / 16 = a by omega, show (16 * a + m) % 16 = m by omega, w3, h5]
      exact va_sm.rf
    · refine ⟨b14, _, f14, fun e he => ?_⟩
      cases cr_ob_e he
      refine va_sm.r (fun t' ht' => ?_)
      unfold va_up
      rw [sp_revA_r6]
      by_cases z : t' = t
      · rw [if_pos z, z, mm_up_s, if_neg hok.q.2]
      · rw [if_neg z, mm_up_x (by omega)]
        have h4 := (hI.i5 a m t' ha4 hm16 ht').2.1 hn2
        unfold sp_e at h4
        rw [if_pos h4]
    · refine ⟨b15, _, f15, fun e he => ?_⟩
      cases cr_ob_e he
      unfold cr_kd
      rw [sp_revA_r6, sp_revA_r7, sp_revA_r8, sp_revA_r9, mm_up_s, mm_up_s, mm_up_s, mm_up_s, ← hkd]
      exact va_sm.rf
  · rcases hN with ⟨rfl, rfl⟩ | ⟨rfl, rfl⟩ | ⟨rfl, rfl⟩ <;> rcases hN' with ⟨rfl, rfl⟩ | ⟨rfl, rfl⟩ | ⟨rfl, rfl⟩
    · exact ⟨rfl, rfl⟩
    · rw [← hq, f13] at f14; cases f14
    · rw [← hq, f13] at f15; cases f15
    · rw [hq, f13] at f14; cases f14
    · exact ⟨rfl, rfl⟩
    · rw [← hq, f14] at f15; cases f15
    · rw [hq, f13] at f15; cases f15
    · rw [hq, f14] at f15; cases f15
    · exact ⟨rfl, rfl⟩
end REVW
theorem sp_cost_rev {sg : mm_S} {g a t m : Nat} {kind pts rule slack kd : Int32} (hok : sp_okE kind pts rule slack) (hkd : kd = if kind = 3 then -1 else kind) : sp_cost (sp_revA sg g a t (16 * a + m) kind pts rule slack) (5 * (16 * a + m) + t) = sb_sz kd rule := by
  rw [← cr_cost (by rw [sp_revA_r6, mm_up_s]; exact hok.q.2)]
  unfold cr_kd
  rw [sp_revA_r6, sp_revA_r8, mm_up_s, mm_up_s, ← hkd]
/-- places for three new ones -/
def cr_ad3 (ad : Nat → Nat → Nat) (x1 x3 q1 q2 b : Nat) : Nat → Nat → Nat := fun q y => if q = 13 ∧ y = x1 then q1 else if q = 14 ∧ y = x1 then q2 else if q = 15 ∧ y = x3 then b else ad q y
set_option maxHeartbeats 4000000 in
set_option maxRecDepth 100000 in
theorem c_X5_revise (cA : Nat → ClassId) {sg ta : mm_S} {ad : Nat → Nat → Nat} {Mb M : hm_M} {b : Nat} {kd pts rule slack : Int32} (hR : cr_R cA sg ta ad (hm_up Mb b (.inr (1, [.int kd, .int pts, .int rule, .int slack]))) M) (hMb : Mb b = none) (hI : sp_I sg) (hok : cr_ok sg ta) (g a t : Nat) (hg : g < 4) (hs : cr_isS sg a = true) (ht : t < 5) (kind : Int32) (hE : sp_okE kind pts rule slack) (hkd : kd = if kind = 3 then -1 else kind) : hm_XMet cA yX5_revise cX5_revise 6 (some .int) r_X5_revise [.ref (ad 0 0), .int (nI g), .ref (ad 8 a), .int (nI t), .ref b] M (fun v' M' => sp_canRev sg g a (sb_sz kd rule) = true ∧ v' = some (.int (sg 5 a)) ∧ ∃ (ta' : mm_S) (ad' : Nat → Nat → Nat), cr_R cA (sp_rev sg g a t kind pts rule slack) ta' ad' Mb M' ∧ cr_ok (sp_rev sg g a t kind pts rule slack) ta' ∧ ad' 0 0 = ad 0 0) (fun E M' => sp_canRev sg g a (sb_sz kd rule) = false ∧ E = "java/lang/IllegalStateException" ∧ M = M') := by
  refine hm_xmet 1 (by decide +kernel) (fun w h => by simp only [List.mem_cons, List.not_mem_nil, or_false] at h; rcases h with rfl | rfl | rfl | rfl | rfl <;> rfl) rfl (fun C X XE => ?_)
  show hm_W C 0 0 _ M 0 [some (.ref (ad 0 0)), some (.int (nI g)), some (.ref (ad 8 a)), some (.int (nI t)), some (.ref b), none] []
  obtain ⟨ha1, ha4⟩ := cr_isS_4 hI hs
  have hB : M b = some (.inr (1, [.int kd, .int pts, .int rule, .int slack])) := hR.2.2 b _ hm_up_s
  refine hr_aload_n X dX5_revise_0 rfl (Or.inr ⟨_, rfl⟩) ?_
  refine hr_get X kF5_300 dX5_revise_1 (hR.c8 hs) rfl ?_
  refine hr_bipush (16) X dX5_revise_4 (by decide) ?_
  refine hr_icmp_lt 20 X dX5_revise_6 (by decide) (fun c6 => ?_) (fun c6 => ?_)
  · have h16 : ¬ (16 : Int32) ≤ sg 5 a := Int32.not_le.mpr c6
    obtain ⟨m, hm1, hm16, h5, hm, h5n⟩ := sp_made hI ha1 h16
    have h5c : (sg 5 a).toNatClampNeg = m := h5n
    refine hr_aload_n X dX5_revise_20 rfl (Or.inr ⟨_, rfl⟩) ?_
    refine hr_iload_n X dX5_revise_21 rfl ?_
    refine hr_aload X dX5_revise_22 rfl (Or.inr ⟨_, rfl⟩) ?_
    refine hr_callV X kC5_305 dX5_revise_24 (c_X1_size cA hB) hB rfl rfl rfl rfl (Nat.le_of_ble_eq_true rfl) ⟨⟨(Nat.le_of_ble_eq_true rfl), (Nat.le_of_ble_eq_true rfl)⟩, (Nat.le_of_ble_eq_true rfl), (Nat.le_of_ble_eq_true rfl)⟩ (fun v M24 hp => ?_)
    obtain ⟨rfl, rfl⟩ := hp
    refine hr_callV X kC5_116 dX5_revise_27 (c_X5_passesQuota cA hR hI (nI g) (sb_sz kd rule)) hR.c0 rfl rfl rfl rfl (Nat.le_of_ble_eq_true rfl) ⟨⟨(Nat.le_of_ble_eq_true rfl), (Nat.le_of_ble_eq_true rfl)⟩, (Nat.le_of_ble_eq_true rfl), (Nat.le_of_ble_eq_true rfl)⟩ (fun v M27 hp => ?_)
    obtain ⟨rfl, rfl⟩ := hp
    rw [cr_fits hok hg]
    refine hr_if_eq 43 X dX5_revise_30 (by decide) (fun c30 => ?_) (fun c30 => ?_)
    · have hfit := sb_notF (hm_bI_eq.mp c30)
      have hcan : sp_canRev sg g a (sb_sz kd rule) = true := by unfold sp_canRev; rw [decide_eq_false h16, hfit]; rfl
      refine hr_new [.int 0, .int 0, .null, .null] X kN5_105 dX5_revise_43 (by intro j hj; rcases j with _ | _ | _ | _ | j <;> first | rfl | omega) ⟨(Nat.le_of_ble_eq_true rfl), (Nat.le_of_ble_eq_true rfl)⟩ (fun q1 hq1 => ?_)
      have hR1 := hR.fresh (e := (.inr (4, [.int 0, .int 0, .null, .null]))) hq1
      have b1 : b ≠ q1 := fun z => by rw [← z, hB] at hq1; cases hq1
      refine hr_dup X dX5_revise_46 rfl ?_
      refine hr_aload_n X dX5_revise_47 rfl (Or.inr ⟨_, rfl⟩) ?_
      refine hr_get X kF5_300 dX5_revise_48 (hR1.c8 hs) rfl ?_
      refine hr_iload_n X dX5_revise_51 rfl ?_
      refine hr_aload_n X dX5_revise_52 rfl (Or.inr ⟨_, rfl⟩) ?_
      refine hr_get X kF5_76 dX5_revise_53 (hR1.c8 hs) rfl ?_
      refine hr_iload_n X dX5_revise_56 rfl ?_
      refine hr_aald 4 X rfl dX5_revise_57 (hR1.c10 hs) (mm_in rfl (by omega) (by decide)).1 ?_
      rw [nI_clamp (by omega)]
      refine hr_callI X kC5_306 dX5_revise_58 (c_X4_init cA (b := q1) hm_up_s (sg 5 a) (nI g) (some (ad 13 (cr_hd sg a g)))) rfl rfl rfl (Nat.le_of_ble_eq_true rfl) ⟨⟨(Nat.le_of_ble_eq_true rfl), (Nat.le_of_ble_eq_true rfl)⟩, (Nat.le_of_ble_eq_true rfl), (Nat.le_of_ble_eq_true rfl)⟩ (fun v M58 hp58 => ?_)
      obtain ⟨rfl, q2, hq2, rfl⟩ := hp58
      have q12 : q1 ≠ q2 := fun z => by rw [← z, hm_up_s] at hq2; cases hq2
      have b2 : b ≠ q2 := fun z => by rw [← z, hm_up_n b1, hB] at hq2; cases hq2
      have hR2 := hR1.fresh (e := cr_rw cA 5 5 (fun _ => none)) hq2
      have hR3 := hR2.frame (a := q1) (e := (.inr (4, [.int (sg 5 a), .int (nI g), va_rf (some (ad 13 (cr_hd sg a g))), .ref q2]))) (e0 := (.inr (4, [.int 0, .int 0, .null, .null]))) (by rw [hm_up_n q12, hm_up_s])
      refine hr_astore X dX5_revise_61 (Nat.le_of_ble_eq_true rfl) (Or.inr ⟨_, rfl⟩) ?_
      refine hr_aload X dX5_revise_63 rfl (Or.inr ⟨_, rfl⟩) ?_
      refine hr_get X kF5_296 dX5_revise_65 hm_up_s rfl ?_
      refine hr_iload_n X dX5_revise_68 rfl ?_
      refine hr_aload X dX5_revise_69 rfl (Or.inr ⟨_, rfl⟩) ?_
      refine hr_aast 5 1 X rfl rfl dX5_revise_71 ((hm_up_n q12.symm).trans hm_up_s) (by rw [hm_up_n b1, hm_up_n b2, hm_up_n b1]; exact hB) (mm_in rfl (by omega) (by decide)).1 ?_
      rw [nI_clamp (by omega)]
      have hR4 := hR3.frame (a := q2) (e := (cr_rw cA 5 5 (va_up (fun _ => none) t (some b)))) (e0 := cr_rw cA 5 5 (fun _ => none)) (by rw [hm_up_n q12.symm, hm_up_s])
      have dead : ∀ q y w, cr_cell cA sg ta ad q y = some w → ¬ (q = 13 ∧ y = (16 * a + m)) ∧ ¬ (q = 14 ∧ y = (16 * a + m)) ∧ ¬ (q = 15 ∧ y = (5 * (16 * a + m) + t)) := fun q y w hw => by
        have hd2 : ¬ sp_th sg a m := fun z => by have := hm m z; omega
        have hn2 : sg 2 (16 * a + m) = 0 := by
          by_cases q : sg 2 (16 * a + m) = 0
          · exact q
          · exact absurd ⟨hm16, q⟩ hd2
        have hv0 : cr_isV sg (16 * a + m) = false := by unfold cr_isV; rw [hn2]; exact Bool.and_false _
        refine ⟨fun z => ?_, fun z => ?_, fun z => ?_⟩
        · obtain ⟨rfl, rfl⟩ := z
          have h2 : cr_ob (cr_isV sg (16 * a + m)) _ = some w := hw
          rw [hv0] at h2
          cases h2
        · obtain ⟨rfl, rfl⟩ := z
          have h2 : cr_ob (cr_isV sg (16 * a + m)) _ = some w := hw
          rw [hv0] at h2
          cases h2
        · obtain ⟨rfl, rfl⟩ := z
          have h2 : cr_ob (cr_isE sg (5 * (16 * a + m) + t)) _ = some w := hw
          have h4 := (hI.i5 a m t ha4 hm16 ht).2.1 hn2
          unfold sp_e at h4
          rw [show cr_isE sg (5 * (16 * a + m) + t) = false by unfold cr_isE; rw [h4]; exact Bool.and_false _] at h2
          cases h2
      obtain ⟨ad', hA, rfl, rfl, rfl⟩ : ∃ ad' : Nat → Nat → Nat, (∀ q y, ¬ (q = 13 ∧ y = (16 * a + m)) ∧ ¬ (q = 14 ∧ y = (16 * a + m)) ∧ ¬ (q = 15 ∧ y = (5 * (16 * a + m) + t)) → ad' q y = ad q y) ∧ ad' 13 (16 * a + m) = q1 ∧ ad' 14 (16 * a + m) = q2 ∧ ad' 15 (5 * (16 * a + m) + t) = b := ⟨cr_ad3 ad (16 * a + m) (5 * (16 * a + m) + t) q1 q2 b, fun q y z => by unfold cr_ad3; rw [if_neg z.1, if_neg z.2.1, if_neg z.2.2], if_pos ⟨rfl, rfl⟩, by unfold cr_ad3; rw [if_neg (fun z => absurd z.1 (by decide)), if_pos ⟨rfl, rfl⟩], by unfold cr_ad3; rw [if_neg (fun z => absurd z.1 (by decide)), if_neg (fun z => absurd z.1 (by decide)), if_pos ⟨rfl, rfl⟩]⟩
      refine hr_ad ad' hI hR4 (fun q y w hw => hA q y (dead q y w hw)) (fun M71 hR5 => ?_)
      have e0 : ad' 0 0 = ad 0 0 := hA 0 0 ⟨fun z => absurd z.1 (by decide), fun z => absurd z.1 (by decide), fun z => absurd z.1 (by decide)⟩
      have e8 : ad' 8 a = ad 8 a := hA 8 a ⟨fun z => absurd z.1 (by decide), fun z => absurd z.1 (by decide), fun z => absurd z.1 (by decide)⟩
      have hM8 := hR5.c8 hs
      rw [e8] at hM8
      have hM13 := hR5.2.2 (ad' 13 (16 * a + m)) (.inr (4, [.int (sg 5 a), .int (nI g), va_rf (some (ad 13 (cr_hd sg a g))), .ref (ad' 14 (16 * a + m))])) (by rw [hm_up_n q12, hm_up_s])
      have n98 : ad 8 a ≠ ad' 9 a := by rw [← e8]; exact hR5.ne (q := 8) (x := a) (q' := 9) (x' := a) (if_pos hs) (if_pos hs) (by decide)
      have n108 : ad' 10 a ≠ ad 8 a := by rw [← e8]; exact hR5.ne (q := 10) (x := a) (q' := 8) (x' := a) (if_pos hs) (if_pos hs) (by decide)
      have n109 : ad' 10 a ≠ ad' 9 a := hR5.ne (q := 10) (x := a) (q' := 9) (x' := a) (if_pos hs) (if_pos hs) (by decide)
      have n13 : ∀ q w, cr_cell cA sg ta ad' q a = some w → ad' 13 (16 * a + m) ≠ ad' q a := fun q w hw z => by
        have h1 := (hR5.1 q a w hw).2
        rw [← z, hm_up_n q12, hm_up_s] at h1
        cases h1
      refine hr_aload_n X dX5_revise_72 rfl (Or.inr ⟨_, rfl⟩) ?_
      refine hr_get X kF5_132 dX5_revise_73 hM8 rfl ?_
      refine hr_aload_n X dX5_revise_76 rfl (Or.inr ⟨_, rfl⟩) ?_
      refine hr_get X kF5_300 dX5_revise_77 hM8 rfl ?_
      refine hr_aload X dX5_revise_80 rfl (Or.inr ⟨_, rfl⟩) ?_
      refine hr_aast 4 4 X rfl rfl dX5_revise_82 (hR5.c9 hs) hM13 (mm_in h5 hm16 (by decide)).1 ?_
      rw [h5c]
      refine hr_aload_n X dX5_revise_83 rfl (Or.inr ⟨_, rfl⟩) ?_
      refine hr_dup X dX5_revise_84 rfl ?_
      refine hr_get X kF5_300 dX5_revise_85 ((hm_up_n n98).trans hM8) rfl ?_
      refine hr_iconst (1) X dX5_revise_88 (by decide) ?_
      refine hr_iadd X dX5_revise_89 ?_
      refine hr_put X kF5_300 dX5_revise_90 ((hm_up_n n98).trans hM8) rfl rfl (Nat.le_of_ble_eq_true rfl) ?_
      refine hr_aload_n X dX5_revise_93 rfl (Or.inr ⟨_, rfl⟩) ?_
      refine hr_get X kF5_76 dX5_revise_94 hm_up_s rfl ?_
      refine hr_iload_n X dX5_revise_97 rfl ?_
      refine hr_aload X dX5_revise_98 rfl (Or.inr ⟨_, rfl⟩) ?_
      refine hr_aast 4 4 X rfl rfl dX5_revise_100 ((hm_up_n n108).trans ((hm_up_n n109).trans (hR5.c10 hs))) ((hm_up_n (by rw [← e8]; exact n13 8 _ (if_pos hs))).trans ((hm_up_n (n13 9 _ (if_pos hs))).trans hM13)) (mm_in rfl (by omega) (by decide)).1 ?_
      rw [nI_clamp (by omega)]
      have mbq : ∀ z : Nat, M z = none → Mb z = none := fun z hz => by
        cases q1 : Mb z with
        | none => rfl
        | some e =>
          have zb : z ≠ ad' 15 (5 * (16 * a + m) + t) := fun y => by rw [y, hMb] at q1; cases q1
          have := hR.2.2 z e ((hm_up_n zb).trans q1)
          rw [hz] at this
          cases this
      have hq2' : M (ad' 14 (16 * a + m)) = none := (hm_up_n q12.symm).symm.trans hq2
      refine hr_rev (kind := kind) (kd := kd) (Mb := Mb) hI hR5 hs hg ht h5 hm1 hm16 hm hE hkd (fun z e hz => ?_) (mbq _ hq1) (mbq _ hq2') hMb ?_ hm_up_s ?_ (by rw [e8]; rfl) (fun M100 hR6 => ?_)
      · have z1 : z ≠ ad' 13 (16 * a + m) := fun y => by rw [y, mbq _ hq1] at hz; cases hz
        have z2 : z ≠ ad' 14 (16 * a + m) := fun y => by rw [y, mbq _ hq2'] at hz; cases hz
        have z3 : z ≠ ad' 15 (5 * (16 * a + m) + t) := fun y => by rw [y, hMb] at hz; cases hz
        rw [hm_up_n z2, hm_up_n z1, hm_up_n z2, hm_up_n z1, hm_up_n z3]
        exact hz
      · rw [hm_up_n q12, hm_up_s]
        obtain ⟨w, w1, w2, w3⟩ := cr_hd_nat hI ha1 hg
        rw [w3, hA 13 (16 * a + w) (dead 13 _ _ (if_pos (cr_isV_th ha1 w1)))]
      · rw [hm_up_n b2, hm_up_n b1, hm_up_n b2, hm_up_n b1, hm_up_s]
      have hB6 := hR6.c15 (e := (5 * (16 * a + m) + t)) (by
        unfold cr_isE
        rw [sp_rev_n, show (5 * (16 * a + m) + t) / 5 / 16 = a by omega, decide_eq_true ha1, sp_revA_r6, mm_up_s, decide_eq_false hE.q.2]
        rfl)
      have hI6 := hI.rev (kind := kind) (pts := pts) (rule := rule) (slack := slack) ha1 hg ht h5 hm1 hm16 hm hE
      refine hr_aload_n X dX5_revise_101 rfl (Or.inr ⟨_, rfl⟩) ?_
      refine hr_iload_n X dX5_revise_102 rfl ?_
      refine hr_aload X dX5_revise_103 rfl (Or.inr ⟨_, rfl⟩) ?_
      refine hr_callV X kC5_305 dX5_revise_105 (c_X1_size cA hB6) hB6 rfl rfl rfl rfl (Nat.le_of_ble_eq_true rfl) ⟨⟨(Nat.le_of_ble_eq_true rfl), (Nat.le_of_ble_eq_true rfl)⟩, (Nat.le_of_ble_eq_true rfl), (Nat.le_of_ble_eq_true rfl)⟩ (fun v M105 hp => ?_)
      obtain ⟨rfl, rfl⟩ := hp
      rw [cr_cost (sg := sp_revA sg g a t (16 * a + m) kind pts rule slack) (by rw [sp_revA_r6, mm_up_s]; exact hE.q.2)]
      refine hr_callV X kC5_122 dX5_revise_108 ((show hm_Met cA yX5_addUse cX5_addUse 3 none r_X5_addUse [.ref (ad 0 0), .int (nI g), .int (sp_cost (sp_revA sg g a t (16 * a + m) kind pts rule slack) (5 * (16 * a + m) + t))] M100 _ from e0 ▸ c_X5_addUse cA hR6 hI6 (nI g) _)) (by rw [← e0]; exact hR6.c0) rfl rfl rfl rfl (Nat.le_of_ble_eq_true rfl) ⟨⟨(Nat.le_of_ble_eq_true rfl), (Nat.le_of_ble_eq_true rfl)⟩, (Nat.le_of_ble_eq_true rfl), (Nat.le_of_ble_eq_true rfl)⟩ (fun v M108 hp108 => ?_)
      obtain ⟨rfl, -, hp108⟩ := hp108
      have hR7 := hp108 (sp_nat_in (b := 3) (by decide) (by omega))
      rw [show nN (nI g) = g from nI_clamp (by omega)] at hR7
      have hX7 : cr_isV (sp_revA sg g a t (16 * a + m) kind pts rule slack) (16 * a + m) = true := cr_isV_th (by rw [sp_rev_n]; exact ha1) ⟨hm16, by rw [sp_revA_r2, mm_up_s]; decide⟩
      refine hr_aload X dX5_revise_111 rfl (Or.inr ⟨_, rfl⟩) ?_
      refine hr_get X kF5_293 dX5_revise_113 (hR7.c13 hX7) rfl ?_
      rw [show (16 * a + m) % 16 = m by omega, ← h5]
      exact hr_iretX X dX5_revise_116 (Nat.le_of_ble_eq_true rfl) (Nat.le_of_ble_eq_true rfl) ⟨hcan, rfl, _, ad', by unfold sp_rev; rw [h5n]; exact hR7, by
        unfold sp_rev
        rw [h5n]
        refine hok.old hI (sp_rev_old hI ha1 ht hm hm16) sp_rev_ans (fun z hz => ?_) (fun j h1 _ => mm_up_j (by omega)) (mm_up_j (by decide))
        rw [sp_used_rev hI ha1 ht hm16 hm, ← hok.1 z hz]
        by_cases y : z = g
        · rw [y, if_pos rfl, mm_up_s]
        · rw [if_neg (fun w => y ((nI_eq (by omega) (by omega)).mp w).symm), mm_up_x y, Int32.add_zero], e0⟩
    · have hno : sp_canRev sg g a (sb_sz kd rule) = false := by unfold sp_canRev; rw [sb_notT (hm_bI_ne.mp c30), Bool.and_false]
      exact hr_throw X XE kT5_37_120_41 dX5_revise_33 dX5_revise_36 dX5_revise_37 dX5_revise_39 dX5_revise_42 rfl ⟨(Nat.le_of_ble_eq_true rfl), (Nat.le_of_ble_eq_true rfl), (Nat.le_of_ble_eq_true rfl), (Nat.le_of_ble_eq_true rfl)⟩ (Nat.le_of_ble_eq_true rfl) (Nat.le_of_ble_eq_true rfl) ⟨hno, rfl, rfl⟩
  · have hno : sp_canRev sg g a (sb_sz kd rule) = false := by unfold sp_canRev; rw [decide_eq_true (Int32.not_lt.mp c6)]; rfl
    exact hr_throwW X XE kT5_37_303_41 dX5_revise_9 dX5_revise_12 dX5_revise_13 dX5_revise_16 dX5_revise_19 rfl ⟨(Nat.le_of_ble_eq_true rfl), (Nat.le_of_ble_eq_true rfl), (Nat.le_of_ble_eq_true rfl), (Nat.le_of_ble_eq_true rfl)⟩ (Nat.le_of_ble_eq_true rfl) (Nat.le_of_ble_eq_true rfl) ⟨hno, rfl, rfl⟩
