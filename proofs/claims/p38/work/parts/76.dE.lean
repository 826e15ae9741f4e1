/-! open -/
def va_tag : va_E → Nat
  | .inr (c, _) => 100 + c
  | .inl (_, n, .inl _) => n
  | .inl (_, n, .inr _) => 1000 + n
/-- the system's own numbers behind a new answer -/
def cr_opT (ta : mm_S) (k : Nat) : mm_S := fun j y => if j = 1 ∧ y = k then -1 else if j = 2 ∧ y = k then 0 else if j = 3 ∧ y / 50 = k then 0 else if j = 8 ∧ y / 5 = k then 0 else if j = 4 ∧ y / 60 = k then 0 else ta j y
theorem cr_opT_j {ta : mm_S} {k j : Nat} (h : ¬ (j = 1 ∨ j = 2 ∨ j = 3 ∨ j = 4 ∨ j = 8)) : cr_opT ta k j = ta j := funext fun y => by
  unfold cr_opT
  rw [if_neg (by omega), if_neg (by omega), if_neg (by omega), if_neg (by omega), if_neg (by omega)]
theorem cr_opT_x {ta : mm_S} {k j y : Nat} (h1 : j = 1 ∨ j = 2 → y ≠ k) (h3 : j = 3 → y / 50 ≠ k) (h8 : j = 8 → y / 5 ≠ k) (h4 : j = 4 → y / 60 ≠ k) : cr_opT ta k j y = ta j y := by
  unfold cr_opT
  rw [if_neg (fun z => h1 (Or.inl z.1) z.2), if_neg (fun z => h1 (Or.inr z.1) z.2), if_neg (fun z => h3 z.1 z.2), if_neg (fun z => h8 z.1 z.2), if_neg (fun z => h4 z.1 z.2)]
theorem cr_opT_1 {ta : mm_S} {k : Nat} : cr_opT ta k 1 k = -1 := if_pos ⟨rfl, rfl⟩
theorem cr_opT_2 {ta : mm_S} {k : Nat} : cr_opT ta k 2 k = 0 := by
  unfold cr_opT
  rw [if_neg (by omega), if_pos ⟨rfl, rfl⟩]
theorem cr_opT_3 {ta : mm_S} {k y : Nat} (h : y / 50 = k) : cr_opT ta k 3 y = 0 := by
  unfold cr_opT
  rw [if_neg (by omega), if_neg (by omega), if_pos ⟨rfl, h⟩]
theorem cr_opT_8 {ta : mm_S} {k y : Nat} (h : y / 5 = k) : cr_opT ta k 8 y = 0 := by
  unfold cr_opT
  rw [if_neg (by omega), if_neg (by omega), if_neg (by omega), if_pos ⟨rfl, h⟩]
theorem cr_opT_4 {ta : mm_S} {k y : Nat} (h : y / 60 = k) : cr_opT ta k 4 y = 0 := by
  unfold cr_opT
  rw [if_neg (by omega), if_neg (by omega), if_neg (by omega), if_neg (by omega), if_pos ⟨rfl, h⟩]
theorem sp_openS_j {sg : mm_S} {p a j : Nat} (h : j ≠ 13) (h' : j ≠ 14) : sp_openS sg p a j = sg j := (mm_up_j h').trans (mm_up_j h)
theorem sp_openS_13 {sg : mm_S} {p a : Nat} : sp_openS sg p a 13 = mm_up sg 13 (12 * a + p) 1 13 := mm_up_j (by decide)
theorem sp_openS_14 {sg : mm_S} {p a : Nat} : sp_openS sg p a 14 (12 * a + p) = sg 10 (4 * a + p / 3) := mm_up_s
theorem sp_openS_x {sg : mm_S} {p a j y : Nat} (h : y ≠ 12 * a + p) : sp_openS sg p a j y = sg j y := by
  unfold sp_openS
  rw [mm_up_xj h, mm_up_xj h]
theorem sp_I.opn {sg : mm_S} (hI : sp_I sg) {p a : Nat} (ha : a < sp_n sg) (hp : p < 12) (h0 : sg 13 (12 * a + p) = 0) : sp_I (sp_openS sg p a) := by
  have hn : sp_n (sp_openS sg p a) = sp_n sg := by unfold sp_n; rw [sp_openS_j (by decide) (by decide)]
  have hth : ∀ s v, sp_th (sp_openS sg p a) s v ↔ sp_th sg s v := fun s v => by unfold sp_th; rw [sp_openS_j (by decide) (by decide)]
  refine ⟨?_, ?_, ?_, ?_, ?_, ?_, ?_, fun s q hs hq => ?_, ?_, ?_⟩
  · unfold sp_I1; rw [hn, sp_openS_j (by decide) (by decide)]; exact hI.i1
  · unfold sp_I2; rw [hn, sp_openS_j (by decide) (by decide)]; simp only [hth]; exact hI.i2
  · unfold sp_I3; rw [hn, sp_openS_j (by decide) (by decide), sp_openS_j (by decide) (by decide)]; simp only [hth]; exact hI.i3
  · unfold sp_I4; rw [sp_openS_j (by decide) (by decide), sp_openS_j (by decide) (by decide), sp_openS_j (by decide) (by decide)]; exact hI.i4
  · unfold sp_I5; rw [sp_openS_j (by decide) (by decide), sp_openS_j (by decide) (by decide)]; exact hI.i5
  · unfold sp_I6; rw [sp_openS_j (by decide) (by decide), sp_openS_j (by decide) (by decide), sp_openS_j (by decide) (by decide), sp_openS_j (by decide) (by decide)]; exact hI.i6
  · unfold sp_I7; rw [hn, sp_openS_j (by decide) (by decide)]; simp only [hth]; exact hI.i7
  · rw [hn]
    simp only [hth]
    rw [sp_openS_j (j := 17) (by decide) (by decide), sp_openS_j (j := 19) (by decide) (by decide), sp_openS_j (j := 20) (by decide) (by decide)]
    by_cases z : 12 * s + q = 12 * a + p
    · have e1 : s = a := by omega
      subst e1
      obtain ⟨v, v1, v2⟩ := hI.i7 s (p / 3) ha (by omega)
      rw [z, sp_openS_13, mm_up_s, sp_openS_14]
      exact Or.inr ⟨Or.inl rfl, ha, v, v1, v2⟩
    · rw [sp_openS_x z, sp_openS_x z]
      exact hI.i9 s q hs hq
  · unfold sp_I12; rw [sp_openS_j (by decide) (by decide), sp_openS_j (by decide) (by decide), sp_openS_j (by decide) (by decide), sp_openS_j (by decide) (by decide)]; exact hI.i12
  · unfold sp_I13; rw [sp_openS_j (by decide) (by decide)]; exact hI.i13
theorem sp_J.opn {sg : mm_S} (hJ : sp_J sg) {p a : Nat} (ha4 : a < 4) (hp : p < 12) (h0 : sg 13 (12 * a + p) = 0) : sp_J (sp_openS sg p a) := by
  have hn : sp_n (sp_openS sg p a) = sp_n sg := by unfold sp_n; rw [sp_openS_j (by decide) (by decide)]
  refine ⟨by rw [hn, sp_openS_j (by decide) (by decide)]; exact hJ.1, fun k hk h2 => ?_, by rw [hn, sp_openS_j (by decide) (by decide), sp_openS_j (by decide) (by decide)]; exact hJ.2.2⟩
  rw [sp_openS_j (by decide) (by decide)]
  by_cases z : k = 12 * a + p
  · exact hJ.2.1 k hk (by rw [z, h0]; decide)
  · rw [sp_openS_x z] at h2
    exact hJ.2.1 k hk h2
theorem cr_ok_open {sg ta : mm_S} (hI : sp_I sg) (hok : cr_ok sg ta) {p a : Nat} (ha4 : a < 4) (hp : p < 12) (h0 : sg 13 (12 * a + p) = 0) : cr_ok (sp_openS sg p a) (cr_opT ta (12 * a + p)) := by
  have loc : ∀ k, k ≠ 12 * a + p → sp_loc sg (sp_openS sg p a) k := fun k hk => ⟨sp_openS_j (by decide) (by decide), sp_openS_j (by decide) (by decide), sp_openS_j (by decide) (by decide), sp_openS_j (by decide) (by decide), sp_openS_j (by decide) (by decide), sp_openS_x hk, fun t _ => by
    rw [sp_openS_j (j := 17) (by decide) (by decide), sp_openS_j (j := 18) (by decide) (by decide), sp_openS_j (j := 19) (by decide) (by decide), sp_openS_j (j := 20) (by decide) (by decide), sp_openS_j (j := 21) (by decide) (by decide)]
    exact ⟨rfl, rfl, rfl, rfl, fun _ _ => rfl⟩⟩
  have h17 : ∀ t, t < 5 → sg 17 (5 * (12 * a + p) + t) = 0 ∧ sg 19 (5 * (12 * a + p) + t) = 0 ∧ sg 20 (5 * (12 * a + p) + t) = 0 := by
    rcases hI.i9 a p ha4 hp with ⟨-, h⟩ | ⟨h, -⟩
    · exact h
    · rw [h0] at h; rcases h with h | h <;> exact absurd h (by decide)
  refine ⟨fun g hg => ?_, fun k hk h2 => ?_, fun k hk hk0 => ?_, fun j hj h => ?_, fun j i hj hi h => ?_⟩
  · rw [cr_opT_j (by decide), sp_used_congr (sp_openS_j (by decide) (by decide)) (sp_openS_j (by decide) (by decide)) (sp_openS_j (by decide) (by decide)) (sp_openS_j (by decide) (by decide)) (sp_openS_j (by decide) (by decide)) (sp_openS_j (by decide) (by decide)) (sp_openS_j (by decide) (by decide))]
    exact hok.1 g hg
  · have z : k ≠ 12 * a + p := fun z => by rw [z, sp_openS_13, mm_up_s] at h2; exact absurd h2 (by decide)
    rw [sp_openS_x z] at h2
    rw [cr_opT_x (fun _ => z) (by omega) (by omega) (by omega), sp_due_loc hI hk (loc k z)]
    exact hok.2.1 k hk h2
  · refine cr_K.ok ?_
    by_cases z : k = 12 * a + p
    · rw [sp_prs_n2 (by rw [z, sp_openS_13, mm_up_s]; decide)]
      exact cr_K.nil (by rw [z]; exact cr_opT_2)
    · rw [sp_openS_x z] at hk0
      rw [sp_prs_loc hI hk (loc k z) (sp_openS_x z) (sp_openS_x z)]
      exact (hok.K hk hk0).congr (cr_opT_x (fun _ => z) (by omega) (by omega) (by omega)) (fun i hi => cr_opT_x (by omega) (by omega) (by omega) (by omega))
  · rw [sp_openS_j (by decide) (by decide)] at h ⊢
    rw [cr_opT_x (by omega) (by omega) (fun _ z => h (by rw [show j = 5 * (12 * a + p) + j % 5 by omega]; exact (h17 _ (by omega)).1)) (by omega)]
    exact hok.2.2.2.1 j hj h
  · rw [sp_openS_j (by decide) (by decide)] at h ⊢
    rw [cr_opT_x (by omega) (by omega) (by omega) (fun _ z => ?_)]
    · exact hok.2.2.2.2 j i hj hi h
    · rw [show j = 5 * (12 * a + p) + j % 5 by omega, (h17 _ (by omega)).2.2] at h
      exact absurd ((nI_ltI (a := i) (b := 0) (by omega) (by decide)).mp h) (Nat.not_lt_zero i)
section OPW
variable {C : hm_C} {k n : Nat} {Q : State → Prop} {M F Mb : hm_M} {pc : Nat} {L : List (Option Value)} {st : List Value} {cA : Nat → ClassId} {sg ta : mm_S} {ad : Nat → Nat → Nat}
def cr_opN (k : Nat) (q y : Nat) : Prop := (q = 16 ∧ y = k) ∨ (q = 17 ∧ y = k) ∨ (q = 18 ∧ y = k) ∨ (q = 19 ∧ y / 5 = k) ∨ (q = 20 ∧ y / 5 = k)
theorem hr_open {p a : Nat} (hI : sp_I sg) (hJ : sp_J sg) (h : cr_R cA sg ta ad F M) (hs : cr_isS sg a = true) (hp : p < 12) (h0 : sg 13 (12 * a + p) = 0)
    (hF : ∀ b e, Mb b = some e → F b = some e) (hb : ∀ q y, cr_opN (12 * a + p) q y → Mb (ad q y) = none)
    (f16 : F (ad 16 (12 * a + p)) = some (.inr (0, [.ref (ad 13 (cr_hd sg a (p / 3))), .ref (ad 17 (12 * a + p)), .int 0, .int (-1), .int (-1), .int 0, .ref (ad 18 (12 * a + p)), .int 0])))
    (f17 : F (ad 17 (12 * a + p)) = some (cr_rw cA 7 5 (fun t => if t < 5 then some (ad 19 (5 * (12 * a + p) + t)) else none))) (f18 : F (ad 18 (12 * a + p)) = some (cr_iw cA 0 50 (fun _ => 0)))
    (f19 : ∀ y, y / 5 = 12 * a + p → F (ad 19 y) = some (ca_said (ad 20 y))) (f20 : ∀ y, y / 5 = 12 * a + p → F (ad 20 y) = some (cr_iw cA 0 12 (fun _ => 0)))
    (i19 : ∀ y y', y / 5 = 12 * a + p → y' / 5 = 12 * a + p → ad 19 y = ad 19 y' → y = y') (i20 : ∀ y y', y / 5 = 12 * a + p → y' / 5 = 12 * a + p → ad 20 y = ad 20 y' → y = y')
    {M7 : hm_M} (e7 : M7 = hm_up M (ad 12 a) (cr_rw cA 6 12 (va_up (fun p => if sg 13 (12 * a + p) = 0 then none else some (ad 16 (12 * a + p))) p (some (ad 16 (12 * a + p))))))
    (kk : ∀ M2 : hm_M, cr_R cA (sp_openS sg p a) (cr_opT ta (12 * a + p)) ad Mb M2 → hm_W C k n Q M2 pc L st) : hm_W C k n Q M7 pc L st := by
  subst e7
  obtain ⟨ha1, ha4⟩ := cr_isS_4 hI hs
  have s1 : sp_openS sg p a 1 = sg 1 := sp_openS_j (by decide) (by decide)
  have l12 : cr_cell cA sg ta ad 12 a = some _ := if_pos hs
  have h17 : ∀ t, t < 5 → sg 17 (5 * (12 * a + p) + t) = 0 ∧ sg 19 (5 * (12 * a + p) + t) = 0 ∧ sg 20 (5 * (12 * a + p) + t) = 0 := by
    rcases hI.i9 a p ha4 hp with ⟨-, h⟩ | ⟨h, -⟩
    · exact h
    · rw [h0] at h; rcases h with h | h <;> exact absurd h (by decide)
  have tag : ∀ q y, cr_opN (12 * a + p) q y → ∃ e, F (ad q y) = some e ∧ va_tag e = (if q = 16 then 100 else if q = 17 then 1005 else if q = 18 then 50 else if q = 19 then 102 else 12) := fun q y hN => by
    rcases hN with ⟨rfl, rfl⟩ | ⟨rfl, rfl⟩ | ⟨rfl, rfl⟩ | ⟨rfl, hy⟩ | ⟨rfl, hy⟩
    · exact ⟨_, f16, rfl⟩
    · exact ⟨_, f17, rfl⟩
    · exact ⟨_, f18, rfl⟩
    · exact ⟨_, f19 y hy, rfl⟩
    · exact ⟨_, f20 y hy, rfl⟩
  refine hr_re2 h hF (fun b e he => ?_) (cr_opN (12 * a + p)) (fun q y e he hN => ?_) (fun q y hN => ⟨hb q y hN, ?_⟩) (fun q y q' y' hN hN' hq => ?_) kk
  · rw [hm_up_n (fun z => by rw [z, (h.1 12 a _ l12).2] at he; cases he)]
    exact h.2.2 b e he
  · by_cases w12 : q = 12 ∧ y = a
    · obtain ⟨rfl, rfl⟩ := w12
      refine ⟨_, _, l12, hm_up_s, ?_⟩
      cases cr_ob_e he
      refine va_sm.r (fun v hv => ?_)
      rw [sp_openS_13]
      unfold va_up
      by_cases z : v = p
      · rw [if_pos z, z, mm_up_s, if_neg (by decide)]
      · rw [if_neg z, mm_up_x (by omega)]
    have hpt : cr_pt sg ta (sp_openS sg p a) (cr_opT ta (12 * a + p)) q y := by
      rcases Nat.lt_or_ge 20 q with hq | hq
      · unfold cr_pt
        split <;> first | omega | trivial
      rcases (show q = 0 ∨ q = 1 ∨ q = 2 ∨ q = 3 ∨ q = 4 ∨ q = 5 ∨ q = 6 ∨ q = 7 ∨ q = 8 ∨ q = 9 ∨ q = 10 ∨ q = 11 ∨ q = 12 ∨ q = 13 ∨ q = 14 ∨ q = 15 ∨ q = 16 ∨ q = 17 ∨ q = 18 ∨ q = 19 ∨ q = 20 by omega) with rfl | rfl | rfl | rfl | rfl | rfl | rfl | rfl | rfl | rfl | rfl | rfl | rfl | rfl | rfl | rfl | rfl | rfl | rfl | rfl | rfl
      · exact congrFun s1 0
      · exact congrFun s1 0
      · exact fun i _ => by rw [sp_openS_j (j := 12) (by decide) (by decide)]
      · exact fun _ _ => by rw [cr_opT_j (by decide)]
      · exact fun _ _ => by rw [cr_opT_j (by decide)]
      · trivial
      · exact fun _ _ => by rw [cr_opT_j (by decide)]
      · exact fun _ _ => by rw [cr_opT_j (by decide)]
      · exact ⟨congrFun s1 0, by rw [sp_openS_j (by decide) (by decide)]⟩
      · exact ⟨congrFun s1 0, fun v hv => by rw [sp_openS_j (by decide) (by decide)]⟩
      · exact ⟨congrFun s1 0, fun v hv => by rw [sp_openS_j (by decide) (by decide)]⟩
      · exact ⟨congrFun s1 0, fun v hv => by rw [sp_openS_j (by decide) (by decide)]⟩
      · exact ⟨congrFun s1 0, fun v hv => sp_openS_x (fun z => w12 ⟨rfl, by omega⟩)⟩
      · exact ⟨congrFun s1 0, by rw [sp_openS_j (by decide) (by decide)], by rw [sp_openS_j (by decide) (by decide)], by rw [sp_openS_j (by decide) (by decide)]⟩
      · exact ⟨congrFun s1 0, by rw [sp_openS_j (by decide) (by decide)], fun t' ht' => by rw [sp_openS_j (by decide) (by decide)]⟩
      · exact ⟨congrFun s1 0, by rw [sp_openS_j (by decide) (by decide)], by rw [sp_openS_j (by decide) (by decide)], by rw [sp_openS_j (by decide) (by decide)], by rw [sp_openS_j (by decide) (by decide)]⟩
      · have hy : y ≠ 12 * a + p := fun z => hN (Or.inl ⟨rfl, z⟩)
        exact ⟨congrFun s1 0, sp_openS_x hy, sp_openS_x hy, sp_openS_x hy, sp_openS_x hy, cr_opT_x (fun _ => hy) (by omega) (by omega) (by omega), cr_opT_x (fun _ => hy) (by omega) (by omega) (by omega)⟩
      · have hy : y ≠ 12 * a + p := fun z => hN (Or.inr (Or.inl ⟨rfl, z⟩))
        exact ⟨congrFun s1 0, sp_openS_x hy⟩
      · have hy : y ≠ 12 * a + p := fun z => hN (Or.inr (Or.inr (Or.inl ⟨rfl, z⟩)))
        exact ⟨congrFun s1 0, sp_openS_x hy, fun i hi => cr_opT_x (by omega) (by omega) (by omega) (by omega)⟩
      · have hy : y / 5 ≠ 12 * a + p := fun z => hN (Or.inr (Or.inr (Or.inr (Or.inl ⟨rfl, z⟩))))
        exact ⟨congrFun s1 0, sp_openS_x hy, by rw [sp_openS_j (by decide) (by decide)], by rw [sp_openS_j (by decide) (by decide)], by rw [sp_openS_j (by decide) (by decide)], cr_opT_x (by omega) (by omega) (fun _ => hy) (by omega)⟩
      · have hy : y / 5 ≠ 12 * a + p := fun z => hN (Or.inr (Or.inr (Or.inr (Or.inr ⟨rfl, z⟩))))
        exact ⟨congrFun s1 0, sp_openS_x hy, fun i hi => cr_opT_x (by omega) (by omega) (by omega) (by omega)⟩
    obtain ⟨e2, h2, h3⟩ := hpt.sm he
    refine ⟨e2, e2, h2, ?_, h3⟩
    rw [hm_up_n (cr_at_ne h h2 l12 w12)]
    exact (h.1 _ _ _ h2).1
  · rcases hN with ⟨rfl, rfl⟩ | ⟨rfl, rfl⟩ | ⟨rfl, rfl⟩ | ⟨rfl, hy⟩ | ⟨rfl, hy⟩
    · refine ⟨_, f16, fun e he => ?_⟩
      cases cr_ob_e he
      unfold sp_rMark
      rw [sp_openS_13, sp_openS_14, mm_up_s, if_neg (by decide), if_neg (by decide), cr_opT_1, cr_opT_2, sp_openS_j (j := 16) (by decide) (by decide), hJ.2.1 (12 * a + p) (by omega) (by rw [h0]; decide), show (12 * a + p) / 12 = a by omega]
      exact va_sm.rf
    · refine ⟨_, f17, fun e he => ?_⟩
      cases cr_ob_e he
      exact va_sm.r (fun t ht => if_pos ht)
    · refine ⟨_, f18, fun e he => ?_⟩
      cases cr_ob_e he
      exact va_sm.i (fun i hi => (cr_opT_3 (by omega)).symm)
    · refine ⟨_, f19 y hy, fun e he => ?_⟩
      cases cr_ob_e he
      obtain ⟨a1, a2, a3⟩ := h17 (y % 5) (by omega)
      rw [show 5 * (12 * a + p) + y % 5 = y by omega] at a1 a2 a3
      rw [sp_openS_j (j := 17) (by decide) (by decide), sp_openS_j (j := 19) (by decide) (by decide), sp_openS_j (j := 20) (by decide) (by decide), a1, a2, a3, cr_opT_8 hy]
      exact va_sm.rf
    · refine ⟨_, f20 y hy, fun e he => ?_⟩
      cases cr_ob_e he
      exact va_sm.i (fun i hi => (cr_opT_4 (by omega)).symm)
  · obtain ⟨e, g1, g2⟩ := tag q y hN
    obtain ⟨e', g3, g4⟩ := tag q' y' hN'
    rw [hq, g3] at g1
    cases g1
    rw [g4] at g2
    rcases hN with ⟨rfl, rfl⟩ | ⟨rfl, rfl⟩ | ⟨rfl, rfl⟩ | ⟨rfl, hy⟩ | ⟨rfl, hy⟩ <;> rcases hN' with ⟨rfl, rfl⟩ | ⟨rfl, rfl⟩ | ⟨rfl, rfl⟩ | ⟨rfl, hy'⟩ | ⟨rfl, hy'⟩ <;> first | exact absurd g2 (by decide) | exact ⟨rfl, rfl⟩ | exact ⟨rfl, i19 _ _ hy hy' hq⟩ | exact ⟨rfl, i20 _ _ hy hy' hq⟩
def cr_ad5 (ad : Nat → Nat → Nat) (k q qp qr : Nat) (sa wa : Nat → Nat) : Nat → Nat → Nat := fun j y => if j = 16 ∧ y = k then q else if j = 17 ∧ y = k then qp else if j = 18 ∧ y = k then qr else if j = 19 ∧ y / 5 = k then sa (y % 5) else if j = 20 ∧ y / 5 = k then wa (y % 5) else ad j y
theorem cr_ad5_o {ad : Nat → Nat → Nat} {k q qp qr j y : Nat} {sa wa : Nat → Nat} (h : ¬ cr_opN k j y) : cr_ad5 ad k q qp qr sa wa j y = ad j y := by
  unfold cr_ad5
  rw [if_neg (fun z => h (Or.inl z)), if_neg (fun z => h (Or.inr (Or.inl z))), if_neg (fun z => h (Or.inr (Or.inr (Or.inl z)))), if_neg (fun z => h (Or.inr (Or.inr (Or.inr (Or.inl z))))), if_neg (fun z => h (Or.inr (Or.inr (Or.inr (Or.inr z)))))]
theorem cr_ad5_16 {ad : Nat → Nat → Nat} {k q qp qr : Nat} {sa wa : Nat → Nat} : cr_ad5 ad k q qp qr sa wa 16 k = q := if_pos ⟨rfl, rfl⟩
theorem cr_ad5_17 {ad : Nat → Nat → Nat} {k q qp qr : Nat} {sa wa : Nat → Nat} : cr_ad5 ad k q qp qr sa wa 17 k = qp := by
  unfold cr_ad5
  rw [if_neg (by omega), if_pos ⟨rfl, rfl⟩]
theorem cr_ad5_18 {ad : Nat → Nat → Nat} {k q qp qr : Nat} {sa wa : Nat → Nat} : cr_ad5 ad k q qp qr sa wa 18 k = qr := by
  unfold cr_ad5
  rw [if_neg (by omega), if_neg (by omega), if_pos ⟨rfl, rfl⟩]
theorem cr_ad5_19 {ad : Nat → Nat → Nat} {k q qp qr y : Nat} {sa wa : Nat → Nat} (h : y / 5 = k) : cr_ad5 ad k q qp qr sa wa 19 y = sa (y % 5) := by
  unfold cr_ad5
  rw [if_neg (by omega), if_neg (by omega), if_neg (by omega), if_pos ⟨rfl, h⟩]
theorem cr_ad5_20 {ad : Nat → Nat → Nat} {k q qp qr y : Nat} {sa wa : Nat → Nat} (h : y / 5 = k) : cr_ad5 ad k q qp qr sa wa 20 y = wa (y % 5) := by
  unfold cr_ad5
  rw [if_neg (by omega), if_neg (by omega), if_neg (by omega), if_neg (by omega), if_pos ⟨rfl, h⟩]
end OPW
/-- nothing lies yet where an answer is not there -/
theorem cr_op_dead {cA : Nat → ClassId} {sg ta : mm_S} {ad : Nat → Nat → Nat} {k : Nat} (h0 : sg 13 k = 0) {q y : Nat} {w : va_E} (hw : cr_cell cA sg ta ad q y = some w) : ¬ cr_opN k q y := fun hN => by
  have hd : cr_isK sg k = false := by unfold cr_isK; rw [h0]; exact Bool.and_false _
  rcases hN with ⟨rfl, rfl⟩ | ⟨rfl, rfl⟩ | ⟨rfl, rfl⟩ | ⟨rfl, rfl⟩ | ⟨rfl, rfl⟩
  · have h2 : cr_ob (cr_isK sg y) _ = some w := hw
    rw [hd] at h2
    cases h2
  · have h2 : cr_ob (cr_isK sg y) _ = some w := hw
    rw [hd] at h2
    cases h2
  · have h2 : cr_ob (cr_isK sg y) _ = some w := hw
    rw [hd] at h2
    cases h2
  · have h2 : cr_ob (cr_isK sg (y / 5)) _ = some w := hw
    rw [hd] at h2
    cases h2
  · have h2 : cr_ob (cr_isK sg (y / 5)) _ = some w := hw
    rw [hd] at h2
    cases h2
set_option maxHeartbeats 4000000 in
set_option maxRecDepth 100000 in
theorem c_X5_open (cA : Nat → ClassId) {sg ta : mm_S} {ad : Nat → Nat → Nat} {M0 M : hm_M} (hR : cr_R cA sg ta ad M0 M) (hI : sp_I sg) (hJ : sp_J sg) (hok : cr_ok sg ta) (p s : Int32) : hm_XMet cA yX5_open cX5_open 6 (some .int) r_X5_open [.ref (ad 0 0), .int p, .int s] M (fun v' M' => sp_thOpen sg p s = 0 ∧ v' = some (.int (sg 10 (4 * nN s + nN p / 3))) ∧ ∃ (ta' : mm_S) (ad' : Nat → Nat → Nat), cr_R cA (sp_openS sg (nN p) (nN s)) ta' ad' M0 M' ∧ cr_ok (sp_openS sg (nN p) (nN s)) ta' ∧ ad' 0 0 = ad 0 0) (fun E M' => ((sp_thOpen sg p s = 1 ∧ E = "java/lang/IndexOutOfBoundsException") ∨ (sp_thOpen sg p s = 2 ∧ E = "java/lang/IllegalStateException")) ∧ cr_R cA sg ta ad M0 M') := by
  refine hm_xmet 3 (by decide +kernel) (fun w h => by simp only [List.mem_cons, List.not_mem_nil, or_false] at h; rcases h with rfl | rfl | rfl <;> rfl) rfl (fun C X XE => ?_)
  show hm_W C 0 0 _ M 0 [some (.ref (ad 0 0)), some (.int p), some (.int s), none, none, none] []
  refine hr_iload_n X dX5_open_0 rfl ?_
  refine hr_callSX X XE kC5_153 dX5_open_1 (c_X5_checkPupil cA (M := M) p) rfl rfl rfl (Nat.le_of_ble_eq_true rfl) ⟨⟨(Nat.le_of_ble_eq_true rfl), (Nat.le_of_ble_eq_true rfl)⟩, (Nat.le_of_ble_eq_true rfl), (Nat.le_of_ble_eq_true rfl)⟩ (Nat.le_of_ble_eq_true rfl) (Nat.le_of_ble_eq_true rfl) (fun _ _ h => ⟨(Or.inl ⟨(show sp_thOpen sg p s = 1 by unfold sp_thOpen sp_both; rw [h.1]; rfl), h.2.1⟩), (h.2.2 ▸ hR)⟩) (fun v M1 hp1 => ?_)
  obtain ⟨h1, rfl, rfl⟩ := hp1
  obtain ⟨p, hp, rfl⟩ := sp_in_p h1
  refine hr_aload_n X dX5_open_4 rfl (Or.inr ⟨_, rfl⟩) ?_
  refine hr_iload_n X dX5_open_5 rfl ?_
  refine hr_callVX X XE kC5_49 dX5_open_6 (c_X5_sheetAt cA hR hI s) hR.c0 rfl rfl rfl rfl (Nat.le_of_ble_eq_true rfl) ⟨⟨(Nat.le_of_ble_eq_true rfl), (Nat.le_of_ble_eq_true rfl)⟩, (Nat.le_of_ble_eq_true rfl), (Nat.le_of_ble_eq_true rfl)⟩ (Nat.le_of_ble_eq_true rfl) (Nat.le_of_ble_eq_true rfl) (fun _ _ h => ⟨(Or.inl ⟨(show sp_thOpen sg (nI p) s = 1 by unfold sp_thOpen sp_both; rw [h.1, Bool.and_false]; rfl), h.2.1⟩), (h.2.2 ▸ hR)⟩) (fun v M6 hp6 => ?_)
  obtain ⟨⟨a, ha, hs, rfl, rfl⟩, rfl⟩ := hp6
  obtain ⟨ha1, ha4⟩ := cr_isS_4 hI hs
  have hS1 : sp_isS sg (nI a) = true := by rw [← cr_isS_nat hI ha]; exact hs
  have hb1 : sp_both sg (nI p) (nI a) = true := sb_andT h1 hS1
  have en : nN (nI a) = a := nI_clamp (by omega)
  have en2 : nN (nI p) = p := nI_clamp (by omega)
  obtain ⟨w, w1, w2, w3⟩ := cr_hd_nat hI ha1 (g := p / 3) (by omega)
  have w16 := w1.1
  have hxw := cr_isV_th ha1 w1
  refine hr_astore_n X dX5_open_9 (Nat.le_of_ble_eq_true rfl) (Or.inr ⟨_, rfl⟩) ?_
  refine hr_iload_n X dX5_open_10 rfl ?_
  refine hr_callS X kC5_156 dX5_open_11 (c_X5_classOf cA (M := M) (nI p)) rfl rfl rfl (Nat.le_of_ble_eq_true rfl) ⟨⟨(Nat.le_of_ble_eq_true rfl), (Nat.le_of_ble_eq_true rfl)⟩, (Nat.le_of_ble_eq_true rfl), (Nat.le_of_ble_eq_true rfl)⟩ (fun v M11 hp => ?_)
  obtain ⟨rfl, rfl⟩ := hp
  rw [mm_d3 (by omega)]
  refine hr_istore X dX5_open_14 (Nat.le_of_ble_eq_true rfl) ?_
  refine hr_aload_n X dX5_open_16 rfl (Or.inr ⟨_, rfl⟩) ?_
  refine hr_get X kF5_160 dX5_open_17 (hR.c8 hs) rfl ?_
  refine hr_iload_n X dX5_open_20 rfl ?_
  refine hr_aald 6 X rfl dX5_open_21 (hR.c12 hs) (mm_in rfl (by omega) (by decide)).1 ?_
  rw [nI_clamp (by omega)]
  refine hr_ifnull 35 X dX5_open_22 (by decide) (fun c22 => ?_) (fun a22 c22 => ?_)
  · have h0 : sg 13 (12 * a + p) = 0 := by
      by_cases q : sg 13 (12 * a + p) = 0
      · exact q
      · rw [if_neg q] at c22; cases c22
    refine hr_aload_n X dX5_open_35 rfl (Or.inr ⟨_, rfl⟩) ?_
    refine hr_get X kF5_166 dX5_open_36 (hR.c8 hs) rfl ?_
    refine hr_iload X dX5_open_39 rfl ?_
    refine hr_zald X dX5_open_41 (hR.c11 hs) (mm_in rfl (by omega) (by decide)).1 ?_
    rw [nI_clamp (by omega)]
    refine hr_if_eq 55 X dX5_open_42 (by decide) (fun c42 => ?_) (fun c42 => ?_)
    · have hz : sp_thOpen sg (nI p) (nI a) = 0 := by
        unfold sp_thOpen sp_canO
        rw [hb1, en, en2, decide_eq_true h0, decide_eq_true c42]
        rfl
      refine hr_aload_n X dX5_open_55 rfl (Or.inr ⟨_, rfl⟩) ?_
      refine hr_get X kF5_76 dX5_open_56 (hR.c8 hs) rfl ?_
      refine hr_iload X dX5_open_59 rfl ?_
      refine hr_aald 4 X rfl dX5_open_61 (hR.c10 hs) (mm_in rfl (by omega) (by decide)).1 ?_
      rw [nI_clamp (by omega)]
      refine hr_astore X dX5_open_62 (Nat.le_of_ble_eq_true rfl) (hm_rf _) ?_
      refine hr_aload_n X dX5_open_64 rfl (Or.inr ⟨_, rfl⟩) ?_
      refine hr_get X kF5_160 dX5_open_65 (hR.c8 hs) rfl ?_
      refine hr_iload_n X dX5_open_68 rfl ?_
      refine hr_new [.null, .null, .int 0, .int 0, .int 0, .int 0, .null, .int 0] X kN5_172 dX5_open_69 (by intro j hj; rcases j with _ | _ | _ | _ | _ | _ | _ | _ | j <;> first | rfl | omega) ⟨(Nat.le_of_ble_eq_true rfl), (Nat.le_of_ble_eq_true rfl)⟩ (fun q hq => ?_)
      refine hr_dup X dX5_open_72 rfl ?_
      refine hr_aload X dX5_open_73 rfl (hm_rf _) ?_
      refine hr_callI X kC5_174 dX5_open_75 (c_X0_init cA (b := q) (v := ad 13 (cr_hd sg a (p / 3))) hm_up_s) rfl rfl rfl (Nat.le_of_ble_eq_true rfl) ⟨⟨(Nat.le_of_ble_eq_true rfl), (Nat.le_of_ble_eq_true rfl)⟩, (Nat.le_of_ble_eq_true rfl), (Nat.le_of_ble_eq_true rfl)⟩ (fun v M75 hp75 => ?_)
      obtain ⟨rfl, qp, qr, sa, wa, hN⟩ := hp75
      obtain ⟨n1, n2, n3, n4, n5, n6, n7, n8⟩ := hN
      have grow : ∀ z e, M z = some e → M75 z = some e := fun z e hz => by
        have zq : z ≠ q := fun y => by rw [y, hq] at hz; cases hz
        exact n8 z e ((hm_up_n zq).trans hz) zq
      have hR4 := hR.grow grow
      have nw : ∀ z, hm_up M q (.inr (0, [.null, .null, .int 0, .int 0, .int 0, .int 0, .null, .int 0])) z = none → M z = none := fun z hz => by
        by_cases y : z = q
        · rw [y, hm_up_s] at hz; cases hz
        · rw [hm_up_n y] at hz; exact hz
      have fr : ∀ z, M z = none → cr_gr M M75 M0 z = M75 z := fun z hz => cr_gr_n hz
      have m0 : ∀ z, M z = none → M0 z = none := fun z hz => by
        cases y : M0 z with
        | none => rfl
        | some e => have := hR.2.2 z e y; rw [hz] at this; cases this
      have hNN : ∀ j y, cr_opN (12 * a + p) j y → M ((cr_ad5 ad (12 * a + p) q qp qr sa wa) j y) = none := fun j y hj => by
        rcases hj with ⟨rfl, rfl⟩ | ⟨rfl, rfl⟩ | ⟨rfl, rfl⟩ | ⟨rfl, hy⟩ | ⟨rfl, hy⟩
        · rw [cr_ad5_16]; exact hq
        · rw [cr_ad5_17]; exact nw _ n4
        · rw [cr_ad5_18]; exact nw _ n5
        · rw [cr_ad5_19 hy]; exact nw _ (n6 (y % 5) (by omega)).2.2.1
        · rw [cr_ad5_20 hy]; exact nw _ (n6 (y % 5) (by omega)).2.2.2
      refine hr_ad (cr_ad5 ad (12 * a + p) q qp qr sa wa) hI hR4 (fun j y e he => cr_ad5_o (cr_op_dead h0 he)) (fun M76 hR5 => ?_)
      have o : ∀ j y, j < 16 → (cr_ad5 ad (12 * a + p) q qp qr sa wa) j y = ad j y := fun j y hj => cr_ad5_o (fun z => by unfold cr_opN at z; omega)
      have hc12 := hR5.c12 hs
      rw [o 12 a (by decide)] at hc12
      have hMq : M76 q = _ := hR5.2.2 q _ ((fr q hq).trans n1)
      refine hr_aast 6 0 X rfl rfl dX5_open_78 hc12 hMq (mm_in rfl (by omega) (by decide)).1 ?_
      rw [nI_clamp (by omega)]
      refine hr_open (Mb := M0) hI hJ hR5 hs hp h0 (fun z e hz => ?_) (fun j y hj => m0 _ (hNN j y hj)) ?_ ?_ ?_ (fun y hy => ?_) (fun y hy => ?_) (fun y y' hy hy' hyy => ?_) (fun y y' hy hy' hyy => ?_) (by rw [o 12 a (by decide), cr_ad5_16]; rfl) (fun M78 hR6 => ?_)
      · have : M z ≠ none := fun y => by rw [m0 z y] at hz; cases hz
        cases y : M z with
        | none => exact absurd y this
        | some w => exact (cr_gr_s y).trans hz
      · rw [cr_ad5_16, cr_ad5_17, cr_ad5_18, fr q hq, o 13 _ (by decide)]
        exact n1
      · rw [cr_ad5_17, fr qp (nw _ n4), n2]
        refine congrArg some (congrArg (cr_rw cA 7 5) (funext fun t => ?_))
        by_cases z : t < 5
        · rw [if_pos z, if_pos z, cr_ad5_19 (by omega), show (5 * (12 * a + p) + t) % 5 = t by omega]
        · rw [if_neg z, if_neg z]
      · rw [cr_ad5_18, fr qr (nw _ n5)]
        exact n3
      · rw [cr_ad5_19 hy, cr_ad5_20 hy, fr _ (nw _ (n6 (y % 5) (by omega)).2.2.1)]
        exact (n6 (y % 5) (by omega)).1
      · rw [cr_ad5_20 hy, fr _ (nw _ (n6 (y % 5) (by omega)).2.2.2)]
        exact (n6 (y % 5) (by omega)).2.1
      · rw [cr_ad5_19 hy, cr_ad5_19 hy'] at hyy
        have := (n7 (y % 5) (y' % 5) (by omega) (by omega)).1 hyy
        omega
      · rw [cr_ad5_20 hy, cr_ad5_20 hy'] at hyy
        have := (n7 (y % 5) (y' % 5) (by omega) (by omega)).2 hyy
        omega
      have hx6 : cr_isV (sp_openS sg p a) (cr_hd sg a (p / 3)) = true := by
        rw [cr_sm_V (sg := sg) (by rw [sp_openS_j (by decide) (by decide)]) _ (by rw [sp_openS_j (by decide) (by decide)]), w3]
        exact hxw
      have e13 : (cr_ad5 ad (12 * a + p) q qp qr sa wa) 13 (cr_hd sg a (p / 3)) = ad 13 (cr_hd sg a (p / 3)) := o 13 _ (by decide)
      refine hr_aload X dX5_open_79 rfl (hm_rf _) ?_
      refine hr_callS X kC5_90 dX5_open_81 ((show hm_Met cA yX5_numberOf cX5_numberOf 1 (some .int) r_X5_numberOf [.ref (ad 13 (cr_hd sg a (p / 3)))] M78 _ from e13 ▸ c_X5_numberOf_s cA hR6 (hI.opn ha1 hp h0) (cr_hd sg a (p / 3)) hx6)) rfl rfl rfl (Nat.le_of_ble_eq_true rfl) ⟨⟨(Nat.le_of_ble_eq_true rfl), (Nat.le_of_ble_eq_true rfl)⟩, (Nat.le_of_ble_eq_true rfl), (Nat.le_of_ble_eq_true rfl)⟩ (fun v M81 hp => ?_)
      obtain ⟨rfl, rfl⟩ := hp
      rw [w3, show (16 * a + w) % 16 = w by omega, ← w2]
      exact hr_iretX X dX5_open_84 (Nat.le_of_ble_eq_true rfl) (Nat.le_of_ble_eq_true rfl) ⟨hz, by rw [en, en2], _, (cr_ad5 ad (12 * a + p) q qp qr sa wa), by rw [en, en2]; exact hR6, by rw [en, en2]; exact cr_ok_open hI hok ha4 hp h0, o 0 0 (by decide)⟩
    · have hno : sp_thOpen sg (nI p) (nI a) = 2 := by
        unfold sp_thOpen sp_canO
        rw [hb1, en, en2, decide_eq_false c42, Bool.and_false]
        rfl
      exact hr_throw X XE kT5_37_170_41 dX5_open_45 dX5_open_48 dX5_open_49 dX5_open_51 dX5_open_54 rfl ⟨(Nat.le_of_ble_eq_true rfl), (Nat.le_of_ble_eq_true rfl), (Nat.le_of_ble_eq_true rfl), (Nat.le_of_ble_eq_true rfl)⟩ (Nat.le_of_ble_eq_true rfl) (Nat.le_of_ble_eq_true rfl) ⟨Or.inr ⟨hno, rfl⟩, hR⟩
  · have h0 : ¬ sg 13 (12 * a + p) = 0 := fun q => by rw [if_pos q] at c22; cases c22
    have hno : sp_thOpen sg (nI p) (nI a) = 2 := by
      unfold sp_thOpen sp_canO
      rw [hb1, en, en2, decide_eq_false h0]
      rfl
    exact hr_throw X XE kT5_37_164_41 dX5_open_25 dX5_open_28 dX5_open_29 dX5_open_31 dX5_open_34 rfl ⟨(Nat.le_of_ble_eq_true rfl), (Nat.le_of_ble_eq_true rfl), (Nat.le_of_ble_eq_true rfl), (Nat.le_of_ble_eq_true rfl)⟩ (Nat.le_of_ble_eq_true rfl) (Nat.le_of_ble_eq_true rfl) ⟨Or.inr ⟨hno, rfl⟩, hR⟩
