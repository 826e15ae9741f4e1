/-! a version is laid behind a head: what the state says then -/
/-- nothing of the versions that were there is changed -/
def sp_old (sg sg' : mm_S) : Prop := ∀ s v, s < sp_n sg → sp_th sg s v → sg' 3 (16 * s + v) = sg 3 (16 * s + v) ∧ ∀ t, t < 5 → sg' 6 (sp_e s v t) = sg 6 (sp_e s v t) ∧ sg' 7 (sp_e s v t) = sg 7 (sp_e s v t) ∧ sg' 8 (sp_e s v t) = sg 8 (sp_e s v t) ∧ sg' 9 (sp_e s v t) = sg 9 (sp_e s v t)
theorem sp_telF_old {sg sg' : mm_S} (hI : sp_I sg) (h : sp_old sg sg') {s t : Nat} (hs : s < sp_n sg) (ht : t < 5) : ∀ (f v : Nat), sp_th sg s v → sp_telF sg' s t f v = sp_telF sg s t f v
  | 0, _, _ => rfl
  | f + 1, v, hv => by
    obtain ⟨h3, h6⟩ := h s v hs hv
    unfold sp_telF
    rw [h3, (h6 t ht).1]
    by_cases h4 : sg 6 (sp_e s v t) = 4
    · rw [if_pos h4, if_pos h4]
      rcases (hI.i3 s hs).2 v hv with ⟨-, r, -⟩ | ⟨w, g, -, r, r3, -⟩
      · rw [if_pos r, if_pos r]
      · have w16 := r3.1
        rw [r, if_neg (nI_m1 (by omega)), if_neg (nI_m1 (by omega)), show (nI w).toNatClampNeg = w from nI_clamp (by omega)]
        exact sp_telF_old hI h hs ht f w r3
    · rw [if_neg h4, if_neg h4]
theorem sp_has_old {sg sg' : mm_S} (hI : sp_I sg) (h : sp_old sg sg') {s v t : Nat} (hs : s < sp_n sg) (ht : t < 5) (hv : sp_th sg s v) : sp_has sg' s v t = sp_has sg s v t := by
  unfold sp_has
  rw [show sp_tel sg' s v t = sp_tel sg s v t from sp_telF_old hI h hs ht 16 v hv]
  cases hq : sp_tel sg s v t with
  | none => rfl
  | some u =>
    dsimp only
    rw [((h s u hs (sp_tel_some hI hs hv hq).1).2 t ht).1]
/-- the rows of answers are the same -/
def sp_ans (sg sg' : mm_S) : Prop := ∀ j, 13 ≤ j → j < 22 → sg' j = sg j
theorem sp_due_old {sg sg' : mm_S} (hI : sp_I sg) (h : sp_old sg sg') (ha : sp_ans sg sg') {k : Nat} (hk : k < 48) (h0 : ¬ sg 13 k = 0) : sp_due sg' k = sp_due sg k := by
  obtain ⟨hks, v, hv, hvt⟩ := sp_handed hI hk h0
  have hv16 := hvt.1
  refine sp_is_congr 5 (fun t ht => ?_)
  unfold sp_dueT
  rw [ha 14 (by decide) (by decide), hv, show nN (nI v) = v from nI_clamp (by omega), sp_has_old hI h hks ht hvt]
  cases hu : sp_has sg (k / 12) v t with
  | none => rfl
  | some u =>
    dsimp only
    obtain ⟨h6, h7, h8, h9⟩ := (h _ u hks (sp_has_some hI hks hvt hu).1).2 t ht
    unfold sp_gain sp_com
    rw [h6, h7, h8, h9, ha 17 (by decide) (by decide), ha 18 (by decide) (by decide), ha 19 (by decide) (by decide), ha 20 (by decide) (by decide), ha 21 (by decide) (by decide)]
theorem sp_layL_old {sg sg' : mm_S} (hI : sp_I sg) (h : sp_old sg sg') (ha : sp_ans sg sg') {k : Nat} (hk : k < 48) (h0 : ¬ sg 13 k = 0) : ∀ t, t ≤ 5 → sp_layL sg' k t = sp_layL sg k t
  | 0, _ => rfl
  | t + 1, ht => by
    obtain ⟨hks, v, hv, hvt⟩ := sp_handed hI hk h0
    have hv16 := hvt.1
    show sp_layT sg' k t (sp_layL sg' k t) = sp_layT sg k t (sp_layL sg k t)
    rw [sp_layL_old hI h ha hk h0 t (by omega)]
    have eI : ∀ rl j l i, sp_layI sg' rl j l i = sp_layI sg rl j l i := fun rl j l i => by
      induction i with
      | zero => rfl
      | succ i ih =>
        unfold sp_layI
        rw [ih, show sp_pt sg' j i = sp_pt sg j i by unfold sp_pt; rw [ha 21 (by decide) (by decide)]]
    unfold sp_layT
    rw [ha 14 (by decide) (by decide), hv, show nN (nI v) = v from nI_clamp (by omega), sp_has_old hI h hks (by omega) hvt]
    cases hu : sp_has sg (k / 12) v t with
    | none => rfl
    | some u =>
      dsimp only
      obtain ⟨h6, h7, h8, h9⟩ := (h _ u hks (sp_has_some hI hks hvt hu).1).2 t (by omega)
      rw [h6, h8, ha 20 (by decide) (by decide), eI]
theorem sp_prs_old {sg sg' : mm_S} (hI : sp_I sg) (h : sp_old sg sg') (ha : sp_ans sg sg') {k : Nat} (hk : k < 48) (h0 : ¬ sg 13 k = 0) : sp_prs sg' k = sp_prs sg k := by
  unfold sp_prs
  rw [ha 13 (by decide) (by decide), ha 15 (by decide) (by decide), sp_layL_old hI h ha hk h0 5 (Nat.le_refl _)]
/-- what is kept holds on, where answers and what they rest on are the same and uses are counted -/
theorem cr_ok.old {sg sg' ta ta' : mm_S} (hI : sp_I sg) (hok : cr_ok sg ta) (h : sp_old sg sg') (ha : sp_ans sg sg') (hu : ∀ g, g < 4 → ta' 0 g = sp_used sg' (nI g)) (ht : ∀ j, 1 ≤ j → j ≤ 4 → ta' j = ta j) (h8 : ta' 8 = ta 8) : cr_ok sg' ta' := by
  have e13 := ha 13 (by decide) (by decide)
  refine ⟨hu, fun k hk h2 => ?_, fun k hk h0 => ?_, ?_⟩
  · rw [e13] at h2
    rw [ht 1 (by decide) (by decide), sp_due_old hI h ha hk (by rw [h2]; decide)]
    exact hok.2.1 k hk h2
  · rw [e13] at h0
    rw [ht 2 (by decide) (by decide), ht 3 (by decide) (by decide), sp_prs_old hI h ha hk h0]
    exact hok.2.2.1 k hk h0
  · show cr_o2 sg' ta'
    unfold cr_o2
    rw [ha 17 (by decide) (by decide), ha 18 (by decide) (by decide), ha 20 (by decide) (by decide), ha 21 (by decide) (by decide)]
    exact hok.o2.congr h8 (ht 4 (by decide) (by decide))
section REV
variable {sg : mm_S} {g s t a : Nat} {kind pts rule slack : Int32}
theorem sp_revA_j {j : Nat} (h : ¬ (j = 2 ∨ j = 3 ∨ j = 4 ∨ j = 5 ∨ j = 10 ∨ j = 6 ∨ j = 7 ∨ j = 8 ∨ j = 9)) : sp_revA sg g s t a kind pts rule slack j = sg j := by
  unfold sp_revA
  rw [mm_up_j (by omega), mm_up_j (by omega), mm_up_j (by omega), mm_up_j (by omega), mm_up_j (by omega), mm_up_j (by omega), mm_up_j (by omega), mm_up_j (by omega), mm_up_j (by omega)]
theorem sp_revA_r2 : sp_revA sg g s t a kind pts rule slack 2 = mm_up sg 2 a 1 2 := by
  unfold sp_revA
  rw [mm_up_j (by decide), mm_up_j (by decide), mm_up_j (by decide), mm_up_j (by decide), mm_up_j (by decide), mm_up_j (by decide), mm_up_j (by decide), mm_up_j (by decide)]
theorem sp_revA_r3 : sp_revA sg g s t a kind pts rule slack 3 = mm_up sg 3 a (sg 10 (4 * s + g)) 3 := by
  unfold sp_revA
  rw [mm_up_j (by decide), mm_up_j (by decide), mm_up_j (by decide), mm_up_j (by decide), mm_up_j (by decide), mm_up_j (by decide), mm_up_j (by decide)]
  funext y
  unfold mm_up
  by_cases q : y = a <;> simp [q]
theorem sp_revA_r4 : sp_revA sg g s t a kind pts rule slack 4 = mm_up sg 4 a (nI g) 4 := by
  unfold sp_revA
  rw [mm_up_j (by decide), mm_up_j (by decide), mm_up_j (by decide), mm_up_j (by decide), mm_up_j (by decide), mm_up_j (by decide)]
  funext y
  unfold mm_up
  by_cases q : y = a <;> simp [q]
theorem sp_revA_r5 : sp_revA sg g s t a kind pts rule slack 5 = mm_up sg 5 s (sg 5 s + 1) 5 := by
  unfold sp_revA
  rw [mm_up_j (by decide), mm_up_j (by decide), mm_up_j (by decide), mm_up_j (by decide), mm_up_j (by decide)]
  funext y
  unfold mm_up
  by_cases q : y = s <;> simp [q]
theorem sp_revA_r10 : sp_revA sg g s t a kind pts rule slack 10 = mm_up sg 10 (4 * s + g) (sg 5 s) 10 := by
  unfold sp_revA
  rw [mm_up_j (by decide), mm_up_j (by decide), mm_up_j (by decide), mm_up_j (by decide)]
  funext y
  unfold mm_up
  by_cases q : y = 4 * s + g <;> simp [q]
theorem sp_revA_r6 : sp_revA sg g s t a kind pts rule slack 6 = mm_up sg 6 (5 * a + t) kind 6 := by
  unfold sp_revA
  rw [mm_up_j (by decide), mm_up_j (by decide), mm_up_j (by decide)]
  funext y
  unfold mm_up
  by_cases q : y = 5 * a + t <;> simp [q]
theorem sp_revA_r7 : sp_revA sg g s t a kind pts rule slack 7 = mm_up sg 7 (5 * a + t) pts 7 := by
  unfold sp_revA
  rw [mm_up_j (by decide), mm_up_j (by decide)]
  funext y
  unfold mm_up
  by_cases q : y = 5 * a + t <;> simp [q]
theorem sp_revA_r8 : sp_revA sg g s t a kind pts rule slack 8 = mm_up sg 8 (5 * a + t) rule 8 := by
  unfold sp_revA
  rw [mm_up_j (by decide)]
  funext y
  unfold mm_up
  by_cases q : y = 5 * a + t <;> simp [q]
theorem sp_revA_r9 : sp_revA sg g s t a kind pts rule slack 9 = mm_up sg 9 (5 * a + t) slack 9 := by
  unfold sp_revA
  funext y
  unfold mm_up
  by_cases q : y = 5 * a + t <;> simp [q]
end REV
/-- an entry may be laid -/
def sp_okE (kind pts rule slack : Int32) : Prop := (kind = 0 ∧ sp_in pts 1 10 = true ∧ sp_in rule (-1000) 1000 = true ∧ sp_in slack 0 100 = true) ∨ (kind = 1 ∧ sp_in pts 1 10 = true ∧ sp_in rule 0 31 = true) ∨ (kind = 2 ∧ sp_in pts 1 10 = true ∧ sp_row rule = true) ∨ kind = 3
theorem sp_okE.q {kind pts rule slack : Int32} (h : sp_okE kind pts rule slack) : (∃ q, q ≤ 3 ∧ kind = nI q) ∧ ¬ kind = 4 := by
  rcases h with ⟨rfl, -⟩ | ⟨rfl, -⟩ | ⟨rfl, -⟩ | rfl
  · exact ⟨⟨0, by decide, rfl⟩, by decide⟩
  · exact ⟨⟨1, by decide, rfl⟩, by decide⟩
  · exact ⟨⟨2, by decide, rfl⟩, by decide⟩
  · exact ⟨⟨3, by decide, rfl⟩, by decide⟩
section REV2
variable {sg : mm_S} {g s t m : Nat} {kind pts rule slack : Int32}
theorem sp_rev_old (hI : sp_I sg) (hs : s < sp_n sg) (ht : t < 5) (hm : ∀ v, sp_th sg s v → v < m) (hm16 : m < 16) : sp_old sg (sp_revA sg g s t (16 * s + m) kind pts rule slack) := fun s' v hs' hv => by
  have v16 := hv.1
  have hne : 16 * s' + v ≠ 16 * s + m := fun z => by
    have e1 : s' = s := by omega
    subst e1
    have := hm v hv
    omega
  refine ⟨by rw [sp_revA_r3, mm_up_x hne], fun t' ht' => ?_⟩
  have hne2 : sp_e s' v t' ≠ 5 * (16 * s + m) + t := by unfold sp_e; omega
  rw [sp_revA_r6, sp_revA_r7, sp_revA_r8, sp_revA_r9, mm_up_x hne2, mm_up_x hne2, mm_up_x hne2, mm_up_x hne2]
  exact ⟨rfl, rfl, rfl, rfl⟩
theorem sp_rev_ans : sp_ans sg (sp_revA sg g s t (16 * s + m) kind pts rule slack) := fun j h1 h2 => sp_revA_j (by omega)
theorem sp_rev_th {s' v : Nat} (h : sp_th sg s' v) : sp_th (sp_revA sg g s t (16 * s + m) kind pts rule slack) s' v := by
  refine ⟨h.1, ?_⟩
  rw [sp_revA_r2]
  unfold mm_up
  by_cases q : 16 * s' + v = 16 * s + m
  · rw [if_pos ⟨rfl, q⟩]; decide
  · rw [if_neg (fun z => q z.2)]; exact h.2
theorem sp_rev_n : sp_n (sp_revA sg g s t (16 * s + m) kind pts rule slack) = sp_n sg := by unfold sp_n; rw [sp_revA_j (j := 1) (by decide)]
theorem sp_I.rev (hI : sp_I sg) (hs : s < sp_n sg) (hg : g < 4) (ht : t < 5) (h5 : sg 5 s = nI m) (hm1 : 1 ≤ m) (hm16 : m < 16) (hm : ∀ v, sp_th sg s v → v < m) (hok : sp_okE kind pts rule slack) : sp_I (sp_revA sg g s t (16 * s + m) kind pts rule slack) := by
  have hs4 := cr_n4 hI hs
  have hn2 : sg 2 (16 * s + m) = 0 := by
    by_cases q : sg 2 (16 * s + m) = 0
    · exact q
    · have := hm m ⟨hm16, q⟩; omega
  have hth : ∀ s' v, sp_th (sp_revA sg g s t (16 * s + m) kind pts rule slack) s' v → sp_th sg s' v ∨ (16 * s' + v = 16 * s + m) := fun s' v hv => by
    by_cases q : 16 * s' + v = 16 * s + m
    · exact Or.inr q
    · refine Or.inl ⟨hv.1, ?_⟩
      have h2 := hv.2
      rw [sp_revA_r2, mm_up_x q] at h2
      exact h2
  refine ⟨?_, ?_, ?_, ?_, ?_, ?_, ?_, ?_, ?_, ?_⟩
  · unfold sp_I1
    rw [sp_rev_n, sp_revA_j (j := 1) (by decide)]
    exact hI.i1
  · intro s' hs'
    rw [sp_rev_n] at hs'
    rw [sp_revA_r5]
    by_cases q : s' = s
    · subst q
      refine ⟨m + 1, by omega, by omega, by rw [mm_up_s, h5, nI_1], fun v hv => ?_⟩
      rcases hth s' v hv with w | w
      · have := hm v w; omega
      · omega
    · obtain ⟨m', a1, a2, a3, a4⟩ := hI.i2 s' hs'
      refine ⟨m', a1, a2, by rw [mm_up_x q]; exact a3, fun v hv => ?_⟩
      rcases hth s' v hv with w | w
      · exact a4 v w
      · have := hv.1; omega
  · intro s' hs'
    rw [sp_rev_n] at hs'
    refine ⟨sp_rev_th (hI.i3 s' hs').1, fun v hv => ?_⟩
    rw [sp_revA_r3, sp_revA_r4]
    by_cases w : 16 * s' + v = 16 * s + m
    · have v16 := hv.1
      have e1 : s' = s := by omega
      have e2 : v = m := by omega
      subst e1; subst e2
      obtain ⟨u, b1, b2⟩ := hI.i7 s' g hs' hg
      exact Or.inr ⟨u, g, hm u b2, by rw [mm_up_s, b1], sp_rev_th b2, hg, by rw [mm_up_s]⟩
    · rcases hth s' v hv with z | z
      · rw [mm_up_x w, mm_up_x w]
        rcases (hI.i3 s' hs').2 v z with h | ⟨u, g', c1, c2, c3, c4, c5⟩
        · exact Or.inl h
        · exact Or.inr ⟨u, g', c1, c2, sp_rev_th c3, c4, c5⟩
      · exact absurd z w
  · refine ⟨fun y hy => ?_, ?_⟩
    · rw [sp_revA_r2]
      by_cases q : y = 16 * s + m
      · rw [q, mm_up_s]; exact Or.inr rfl
      · rw [mm_up_x q]; exact hI.i4.1 y hy
    · rw [sp_revA_j (j := 11) (by decide), sp_revA_j (j := 17) (by decide)]
      exact hI.i4.2
  · intro s' v t' hs' hv ht'
    obtain ⟨a1, a2, a3⟩ := hI.i5 s' v t' hs' hv ht'
    rw [sp_revA_r6, sp_revA_r2]
    by_cases w : 16 * s' + v = 16 * s + m
    · have e1 : s' = s := by omega
      have e2 : v = m := by omega
      subst e1; subst e2
      rw [mm_up_s (j := 2)]
      refine ⟨?_, fun z => absurd z (by decide), fun z => by omega⟩
      by_cases q : t' = t
      · subst q
        rw [show sp_e s' v t' = 5 * (16 * s' + v) + t' from rfl, mm_up_s]
        obtain ⟨q, q1, q2⟩ := hok.q.1
        exact ⟨q, by omega, q2⟩
      · rw [mm_up_x (by unfold sp_e; omega)]
        exact a1
    · rw [mm_up_x w, mm_up_x (by unfold sp_e; omega)]
      exact ⟨a1, a2, a3⟩
  · intro e he
    rw [sp_revA_r6, sp_revA_r7, sp_revA_r8, sp_revA_r9]
    by_cases q : e = 5 * (16 * s + m) + t
    · subst q
      rw [mm_up_s, mm_up_s, mm_up_s, mm_up_s]
      rcases hok with ⟨rfl, b⟩ | ⟨rfl, b⟩ | ⟨rfl, b⟩ | rfl
      · exact ⟨fun _ => b, fun z => absurd z (by decide), fun z => absurd z (by decide)⟩
      · exact ⟨fun z => absurd z (by decide), fun _ => b, fun z => absurd z (by decide)⟩
      · exact ⟨fun z => absurd z (by decide), fun z => absurd z (by decide), fun _ => b⟩
      · exact ⟨fun z => absurd z (by decide), fun z => absurd z (by decide), fun z => absurd z (by decide)⟩
    · rw [mm_up_x q, mm_up_x q, mm_up_x q, mm_up_x q]
      exact hI.i6 e he
  · intro s' g' hs' hg'
    rw [sp_rev_n] at hs'
    rw [sp_revA_r10]
    by_cases q : 4 * s' + g' = 4 * s + g
    · have e1 : s' = s := by omega
      subst e1
      rw [q, mm_up_s]
      exact ⟨m, h5, hm16, by rw [sp_revA_r2, mm_up_s]; decide⟩
    · rw [mm_up_x q]
      obtain ⟨v, c1, c2⟩ := hI.i7 s' g' hs' hg'
      exact ⟨v, c1, sp_rev_th c2⟩
  · intro s' p hs' hp
    rw [sp_rev_n, sp_revA_j (j := 13) (by decide), sp_revA_j (j := 14) (by decide), sp_revA_j (j := 17) (by decide), sp_revA_j (j := 19) (by decide), sp_revA_j (j := 20) (by decide)]
    rcases hI.i9 s' p hs' hp with h | ⟨h1, h2, v, h3, h4⟩
    · exact Or.inl h
    · exact Or.inr ⟨h1, h2, v, h3, sp_rev_th h4⟩
  · unfold sp_I12
    rw [sp_revA_j (j := 18) (by decide), sp_revA_j (j := 19) (by decide), sp_revA_j (j := 20) (by decide), sp_revA_j (j := 21) (by decide)]
    exact hI.i12
  · unfold sp_I13
    rw [sp_revA_j (j := 12) (by decide)]
    exact hI.i13
theorem sp_J.rev (hJ : sp_J sg) (hs : s < sp_n sg) (hg : g < 4) (hm16 : m < 16) : sp_J (sp_revA sg g s t (16 * s + m) kind pts rule slack) := by
  refine ⟨fun y hy hn => ?_, ?_, fun s' hn hs' g' hg' => ?_⟩
  · rw [sp_rev_n] at hn
    rw [sp_revA_r2, mm_up_x (by omega)]
    exact hJ.1 y hy hn
  · rw [sp_revA_j (j := 13) (by decide), sp_revA_j (j := 16) (by decide)]
    exact hJ.2.1
  · rw [sp_rev_n] at hn
    rw [sp_revA_r10, sp_revA_j (j := 11) (by decide), mm_up_x (by omega)]
    exact hJ.2.2 s' hn hs' g' hg'
/-- a group uses the entry more -/
theorem sp_used_rev (hI : sp_I sg) (hs : s < sp_n sg) (ht : t < 5) (hm16 : m < 16) (hm : ∀ v, sp_th sg s v → v < m) (g' : Int32) : sp_used (sp_revA sg g s t (16 * s + m) kind pts rule slack) g' = sp_used sg g' + (if nI g = g' then sp_cost (sp_revA sg g s t (16 * s + m) kind pts rule slack) (5 * (16 * s + m) + t) else 0) := by
  have hs4 := cr_n4 hI hs
  have hn2 : sg 2 (16 * s + m) = 0 := by
    by_cases q : sg 2 (16 * s + m) = 0
    · exact q
    · have := hm m ⟨hm16, q⟩; omega
  unfold sp_used
  rw [sp_is_congr (f := sp_usA (sp_revA sg g s t (16 * s + m) kind pts rule slack) g') (g := sp_usA sg g') 48 (fun k _ => by
    unfold sp_usA sp_taken
    rw [sp_is_congr (f := fun t' => sp_tk (sp_revA sg g s t (16 * s + m) kind pts rule slack) (5 * k + t')) (g := fun t => sp_tk sg (5 * k + t)) 5 (fun t' _ => by unfold sp_tk; rw [sp_revA_j (j := 17) (by decide), sp_revA_j (j := 19) (by decide), sp_revA_j (j := 20) (by decide)])])]
  rw [sp_is_one (f := sp_usE sg g') (f' := sp_usE (sp_revA sg g s t (16 * s + m) kind pts rule slack) g') (e := 5 * (16 * s + m) + t) (fun k hk => ?_) 320 (by omega)]
  · rw [Int32.add_assoc, Int32.add_comm (_ - _), ← Int32.add_assoc]
    congr 1
    have e1 : sp_usE sg g' (5 * (16 * s + m) + t) = 0 := by
      unfold sp_usE
      rw [show (5 * (16 * s + m) + t) / 5 = 16 * s + m by omega, if_pos hn2]
    rw [e1, Int32.sub_zero]
    unfold sp_usE
    rw [show (5 * (16 * s + m) + t) / 5 = 16 * s + m by omega, sp_revA_r2, sp_revA_r4, mm_up_s, mm_up_s, if_neg (by decide)]
  · unfold sp_usE
    rw [sp_revA_r2, sp_revA_r4]
    by_cases q : k / 5 = 16 * s + m
    · rw [q, mm_up_s, mm_up_s, if_neg (by decide), if_pos hn2]
      have e4 : sp_cost (sp_revA sg g s t (16 * s + m) kind pts rule slack) k = 0 := by
        refine sp_cost_4 ?_
        rw [sp_revA_r6, mm_up_x hk]
        have := (hI.i5 s m (k % 5) hs4 hm16 (by omega)).2.1 hn2
        rw [show sp_e s m (k % 5) = k by unfold sp_e; omega] at this
        exact this
      rw [e4]
      exact ite_self _
    · rw [mm_up_x q, mm_up_x q]
      have e5 : sp_cost (sp_revA sg g s t (16 * s + m) kind pts rule slack) k = sp_cost sg k := by
        unfold sp_cost
        rw [sp_revA_r6, sp_revA_r8, mm_up_x hk, mm_up_x hk]
      rw [e5]
end REV2
