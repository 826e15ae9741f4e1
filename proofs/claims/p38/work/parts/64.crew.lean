/-! WRITING: the memory seen again as the system's, behind a write; numbers in rows count below the rows' lengths alone -/
def va_sm (e e' : va_E) : Prop := e = e' ∨ (∃ (c : ClassId) (N : Nat) (f f' : Nat → Int32), e = .inl (c, N, .inl f) ∧ e' = .inl (c, N, .inl f') ∧ ∀ i, i < N → f i = f' i) ∨ ∃ (c : ClassId) (N : Nat) (f f' : Nat → Option Nat), e = .inl (c, N, .inr (.inr (.inr (.inr f)))) ∧ e' = .inl (c, N, .inr (.inr (.inr (.inr f')))) ∧ ∀ i, i < N → f i = f' i
theorem va_sm.rf {e : va_E} : va_sm e e := Or.inl rfl
theorem arrV_sm {c : ClassId} {N : Nat} {f f' : Nat → Value} (h : ∀ i, i < N → f i = f' i) : arrV c N f = arrV c N f' := by
  unfold arrV
  rw [show (fun j : Fin N => f j.val) = fun j : Fin N => f' j.val from funext fun j => h j.val j.isLt]
theorem va_sm.at {D : va_G} {cl : List vw_C} {a : Nat} {e e' : va_E} {H : Heap} (h : va_sm e e') (hp : va_at D cl (a, e) H) : va_at D cl (a, e') H := by
  rcases h with rfl | ⟨c, N, f, f', rfl, rfl, h⟩ | ⟨c, N, f, f', rfl, rfl, h⟩
  · exact hp
  · show H[a]? = some (arrV c N (fun j => .int (f' j)))
    rw [← arrV_sm (c := c) (f := fun j => .int (f j)) (fun i hi => by rw [h i hi])]
    exact hp
  · show H[a]? = some (arrV c N (fun j => va_rf (f' j)))
    rw [← arrV_sm (c := c) (f := fun j => va_rf (f j)) (fun i hi => by rw [h i hi])]
    exact hp
theorem va_sm.i {cA : Nat → ClassId} {t N : Nat} {f f' : Nat → Int32} (h : ∀ i, i < N → f i = f' i) : va_sm (cr_iw cA t N f) (cr_iw cA t N f') := Or.inr (Or.inl ⟨_, _, _, _, rfl, rfl, h⟩)
theorem va_sm.r {cA : Nat → ClassId} {t N : Nat} {f f' : Nat → Option Nat} (h : ∀ i, i < N → f i = f' i) : va_sm (cr_rw cA t N f) (cr_rw cA t N f') := Or.inr (Or.inr ⟨_, _, _, _, rfl, rfl, h⟩)
theorem va_sm.ob {b b' : Bool} {x x' : va_E} (hb : b' = b) (h : va_sm x x') {e : va_E} (he : cr_ob b' x' = some e) : ∃ e0, cr_ob b x = some e0 ∧ va_sm e0 e := by
  subst hb
  unfold cr_ob at he ⊢
  split at he
  · next q =>
    cases he
    exact ⟨x, if_pos q, h⟩
  · cases he
section HS
variable {C : hm_C} {k n : Nat} {Q : State → Prop} {M M0 : hm_M} {pc : Nat} {L : List (Option Value)} {st : List Value} {cA : Nat → ClassId}
theorem hr_same {M2 : hm_M} (h : ∀ (a : Nat) (e : va_E), M2 a = some e → ∃ e0, M a = some e0 ∧ va_sm e0 e) (kk : hm_W C k n Q M2 pc L st) : hm_W C k n Q M pc L st := by
  obtain ⟨p, l, e, R, s, m, args, below, meth, c, D, cA', A⟩ := C
  exact fun H locs ls hP hA hS hl => kk H locs ls (fun a e he => by
    obtain ⟨e0, h1, h2⟩ := h a e he
    exact h2.at (hP a e0 h1)) (fun a e he => by
    obtain ⟨e0, h1, -⟩ := h a e he
    exact hA a e0 h1) hS hl
/-- the memory that holds these cells, and M0 -/
noncomputable def cr_M (cell : Nat → Nat → Option va_E) (ad : Nat → Nat → Nat) (M0 : hm_M) : hm_M := fun a => @dite _ (∃ e, ∃ q x, cell q x = some e ∧ ad q x = a) (Classical.propDecidable _) (fun h => some (Classical.choose h)) (fun _ => M0 a)
theorem cr_M_at {cell : Nat → Nat → Option va_E} {ad : Nat → Nat → Nat} {M0 : hm_M} (hi : ∀ q x q' x' e e', cell q x = some e → cell q' x' = some e' → ad q x = ad q' x' → q = q' ∧ x = x') {q x : Nat} {e : va_E} (h : cell q x = some e) : cr_M cell ad M0 (ad q x) = some e := by
  have hex : ∃ e, ∃ q' x', cell q' x' = some e ∧ ad q' x' = ad q x := ⟨e, q, x, h, rfl⟩
  unfold cr_M
  rw [dif_pos hex]
  obtain ⟨q', x', h1, h2⟩ := Classical.choose_spec hex
  obtain ⟨rfl, rfl⟩ := hi _ _ _ _ _ _ h1 h h2
  rw [h] at h1
  exact h1.symm
theorem cr_M_or {cell : Nat → Nat → Option va_E} {ad : Nat → Nat → Nat} {M0 : hm_M} {a : Nat} {e : va_E} (h : cr_M cell ad M0 a = some e) : (∃ q x, cell q x = some e ∧ ad q x = a) ∨ M0 a = some e := by
  unfold cr_M at h
  by_cases hex : ∃ e, ∃ q x, cell q x = some e ∧ ad q x = a
  · rw [dif_pos hex] at h
    have h2 := Classical.choose_spec hex
    rw [Option.some.inj h] at h2
    exact Or.inl h2
  · rw [dif_neg hex] at h
    exact Or.inr h
/-- the memory is seen as the system's in another state, at other places -/
theorem hr_re {sg' ta' : mm_S} {ad' : Nat → Nat → Nat} (hc : ∀ q x e, cr_cell cA sg' ta' ad' q x = some e → ∃ e0, M (ad' q x) = some e0 ∧ va_sm e0 e ∧ M0 (ad' q x) = none)
    (hi : ∀ q x q' x' e e', cr_cell cA sg' ta' ad' q x = some e → cr_cell cA sg' ta' ad' q' x' = some e' → ad' q x = ad' q' x' → q = q' ∧ x = x') (h0 : ∀ a e, M0 a = some e → M a = some e)
    (kk : ∀ M2 : hm_M, cr_R cA sg' ta' ad' M0 M2 → hm_W C k n Q M2 pc L st) : hm_W C k n Q M pc L st := by
  refine hr_same (M2 := cr_M (cr_cell cA sg' ta' ad') ad' M0) (fun a e he => ?_) (kk _ ⟨fun q x e he => ⟨cr_M_at hi he, ?_⟩, hi, fun a e he => ?_⟩)
  · rcases cr_M_or he with ⟨q, x, h1, rfl⟩ | h1
    · obtain ⟨e0, h2, h3, -⟩ := hc q x e h1
      exact ⟨e0, h2, h3⟩
    · exact ⟨e, h0 a e h1, va_sm.rf⟩
  · obtain ⟨-, -, -, h4⟩ := hc q x e he
    exact h4
  · unfold cr_M
    by_cases hex : ∃ e, ∃ q x, cr_cell cA sg' ta' ad' q x = some e ∧ ad' q x = a
    · obtain ⟨e1, q, x, h1, rfl⟩ := hex
      obtain ⟨-, -, -, h4⟩ := hc q x e1 h1
      rw [h4] at he
      cases he
    · rw [dif_neg hex]
      exact he
/-- one cell was overwritten -/
theorem hr_re1 {sg ta sg' ta' : mm_S} {ad : Nat → Nat → Nat} {q0 x0 : Nat} {e0 e1 : va_E} (h : cr_R cA sg ta ad M0 M) (h0 : cr_cell cA sg ta ad q0 x0 = some e0) (h1 : ∀ e, cr_cell cA sg' ta' ad q0 x0 = some e → va_sm e1 e)
    (hc : ∀ q x e, ¬ (q = q0 ∧ x = x0) → cr_cell cA sg' ta' ad q x = some e → ∃ e2, cr_cell cA sg ta ad q x = some e2 ∧ va_sm e2 e)
    (kk : ∀ M2 : hm_M, cr_R cA sg' ta' ad M0 M2 → hm_W C k n Q M2 pc L st) : hm_W C k n Q (hm_up M (ad q0 x0) e1) pc L st := by
  have hp : ∀ q x e, cr_cell cA sg' ta' ad q x = some e → ∃ e', cr_cell cA sg ta ad q x = some e' := fun q x e he => by
    by_cases z : q = q0 ∧ x = x0
    · rw [z.1, z.2]; exact ⟨e0, h0⟩
    · obtain ⟨e2, h2, -⟩ := hc q x e z he
      exact ⟨e2, h2⟩
  refine hr_re (fun q x e he => ?_) (fun q x q' x' e e' he he' ha => ?_) (fun a e ha => ?_) kk
  · by_cases z : q = q0 ∧ x = x0
    · obtain ⟨rfl, rfl⟩ := z
      exact ⟨e1, hm_up_s, h1 e he, (h.1 _ _ _ h0).2⟩
    · obtain ⟨e2, h2, h3⟩ := hc q x e z he
      rw [hm_up_n (fun y => z (h.2.1 _ _ _ _ _ _ h2 h0 y))]
      exact ⟨e2, (h.1 _ _ _ h2).1, h3, (h.1 _ _ _ h2).2⟩
  · obtain ⟨a1, b1⟩ := hp _ _ _ he
    obtain ⟨a2, b2⟩ := hp _ _ _ he'
    exact h.2.1 _ _ _ _ _ _ b1 b2 ha
  · rw [hm_up_n (fun y => by
      have := (h.1 _ _ _ h0).2
      rw [← y, ha] at this
      cases this)]
    exact h.2.2 _ _ ha
end HS
/-- what a cell rests on -/
def cr_dpg : Nat → List Nat
  | 0 => [1] | 1 => [1] | 2 => [12] | 8 => [1, 5] | 9 => [1, 2] | 10 => [1, 10] | 11 => [1, 11] | 12 => [1, 13] | 13 => [1, 2, 3, 4] | 14 => [1, 2, 6] | 15 => [1, 6, 7, 8, 9] | 16 => [1, 13, 14, 15, 16] | 17 => [1, 13] | 18 => [1, 13] | 19 => [1, 13, 17, 19, 20] | 20 => [1, 13] | _ => []
def cr_pt (sg ta sg' ta' : mm_S) : Nat → Nat → Prop
  | 0, _ => sg' 1 0 = sg 1 0
  | 1, _ => sg' 1 0 = sg 1 0
  | 2, _ => ∀ g, g < 4 → sg' 12 g = sg 12 g
  | 3, _ => ∀ g, g < 4 → ta' 0 g = ta 0 g
  | 4, _ => ∀ i, i < 7 → ta' 5 i = ta 5 i
  | 5, _ => True
  | 6, _ => ∀ p, p < 12 → ta' 7 p = ta 7 p
  | 7, p => ∀ i, i < 50 → ta' 6 (50 * p + i) = ta 6 (50 * p + i)
  | 8, s => sg' 1 0 = sg 1 0 ∧ sg' 5 s = sg 5 s
  | 9, s => sg' 1 0 = sg 1 0 ∧ ∀ v, v < 16 → sg' 2 (16 * s + v) = sg 2 (16 * s + v)
  | 10, s => sg' 1 0 = sg 1 0 ∧ ∀ g, g < 4 → sg' 10 (4 * s + g) = sg 10 (4 * s + g)
  | 11, s => sg' 1 0 = sg 1 0 ∧ ∀ g, g < 4 → sg' 11 (4 * s + g) = sg 11 (4 * s + g)
  | 12, s => sg' 1 0 = sg 1 0 ∧ ∀ p, p < 12 → sg' 13 (12 * s + p) = sg 13 (12 * s + p)
  | 13, x => sg' 1 0 = sg 1 0 ∧ sg' 2 x = sg 2 x ∧ sg' 3 x = sg 3 x ∧ sg' 4 x = sg 4 x
  | 14, x => sg' 1 0 = sg 1 0 ∧ sg' 2 x = sg 2 x ∧ ∀ t, t < 5 → sg' 6 (5 * x + t) = sg 6 (5 * x + t)
  | 15, e => sg' 1 0 = sg 1 0 ∧ sg' 6 e = sg 6 e ∧ sg' 7 e = sg 7 e ∧ sg' 8 e = sg 8 e ∧ sg' 9 e = sg 9 e
  | 16, k => sg' 1 0 = sg 1 0 ∧ sg' 13 k = sg 13 k ∧ sg' 14 k = sg 14 k ∧ sg' 15 k = sg 15 k ∧ sg' 16 k = sg 16 k ∧ ta' 1 k = ta 1 k ∧ ta' 2 k = ta 2 k
  | 17, k => sg' 1 0 = sg 1 0 ∧ sg' 13 k = sg 13 k
  | 18, k => sg' 1 0 = sg 1 0 ∧ sg' 13 k = sg 13 k ∧ ∀ i, i < 50 → ta' 3 (50 * k + i) = ta 3 (50 * k + i)
  | 19, j => sg' 1 0 = sg 1 0 ∧ sg' 13 (j / 5) = sg 13 (j / 5) ∧ sg' 17 j = sg 17 j ∧ sg' 19 j = sg 19 j ∧ sg' 20 j = sg 20 j ∧ ta' 8 j = ta 8 j
  | 20, j => sg' 1 0 = sg 1 0 ∧ sg' 13 (j / 5) = sg 13 (j / 5) ∧ ∀ i, i < 12 → ta' 4 (12 * j + i) = ta 4 (12 * j + i)
  | _, _ => True
theorem cr_cell_hi {cA : Nat → ClassId} {sg ta : mm_S} {ad : Nat → Nat → Nat} {q x : Nat} (h : 20 < q) : cr_cell cA sg ta ad q x = none := by
  obtain ⟨r, rfl⟩ := Nat.exists_eq_add_of_lt h
  rw [show 20 + r + 1 = r + 21 by omega]
  rfl
section SM
variable {cA : Nat → ClassId} {sg ta sg' ta' : mm_S} {ad : Nat → Nat → Nat} {x : Nat} {e : va_E}
theorem cr_sm_n (z : sg' 1 0 = sg 1 0) : sp_n sg' = sp_n sg := by unfold sp_n; rw [z]
theorem cr_sm_S (z : sg' 1 0 = sg 1 0) (s : Nat) : cr_isS sg' s = cr_isS sg s := by unfold cr_isS; rw [cr_sm_n z]
theorem cr_sm_V (z : sg' 1 0 = sg 1 0) (y : Nat) (w : sg' 2 y = sg 2 y) : cr_isV sg' y = cr_isV sg y := by unfold cr_isV; rw [cr_sm_n z, w]
theorem cr_sm_E (z : sg' 1 0 = sg 1 0) (y : Nat) (w : sg' 6 y = sg 6 y) : cr_isE sg' y = cr_isE sg y := by unfold cr_isE; rw [cr_sm_n z, w]
theorem cr_sm_K (z : sg' 1 0 = sg 1 0) (y : Nat) (w : sg' 13 y = sg 13 y) : cr_isK sg' y = cr_isK sg y := by unfold cr_isK; rw [cr_sm_n z, w]
theorem cr_sm_0 (h : cr_pt sg ta sg' ta' 0 x) (he : cr_cell cA sg' ta' ad 0 x = some e) : ∃ e0, cr_cell cA sg ta ad 0 x = some e0 ∧ va_sm e0 e := by
  exact va_sm.ob rfl (by rw [h]; exact va_sm.rf) he
theorem cr_sm_1 (h : cr_pt sg ta sg' ta' 1 x) (he : cr_cell cA sg' ta' ad 1 x = some e) : ∃ e0, cr_cell cA sg ta ad 1 x = some e0 ∧ va_sm e0 e := by
  exact va_sm.ob rfl (by rw [show (fun s => if cr_isS sg' s = true then some (ad 8 s) else none) = fun s => if cr_isS sg s = true then some (ad 8 s) else none from funext fun s => by rw [cr_sm_S h]]; exact va_sm.rf) he
theorem cr_sm_2 (h : cr_pt sg ta sg' ta' 2 x) (he : cr_cell cA sg' ta' ad 2 x = some e) : ∃ e0, cr_cell cA sg ta ad 2 x = some e0 ∧ va_sm e0 e := by
  exact va_sm.ob rfl (va_sm.i (fun i hi => (h i hi).symm)) he
theorem cr_sm_3 (h : cr_pt sg ta sg' ta' 3 x) (he : cr_cell cA sg' ta' ad 3 x = some e) : ∃ e0, cr_cell cA sg ta ad 3 x = some e0 ∧ va_sm e0 e := by
  exact va_sm.ob rfl (va_sm.i (fun i hi => (h i hi).symm)) he
theorem cr_sm_4 (h : cr_pt sg ta sg' ta' 4 x) (he : cr_cell cA sg' ta' ad 4 x = some e) : ∃ e0, cr_cell cA sg ta ad 4 x = some e0 ∧ va_sm e0 e := by
  exact va_sm.ob rfl (va_sm.i (fun i hi => (h i hi).symm)) he
theorem cr_sm_5 (h : cr_pt sg ta sg' ta' 5 x) (he : cr_cell cA sg' ta' ad 5 x = some e) : ∃ e0, cr_cell cA sg ta ad 5 x = some e0 ∧ va_sm e0 e := by
  exact va_sm.ob rfl va_sm.rf he
theorem cr_sm_6 (h : cr_pt sg ta sg' ta' 6 x) (he : cr_cell cA sg' ta' ad 6 x = some e) : ∃ e0, cr_cell cA sg ta ad 6 x = some e0 ∧ va_sm e0 e := by
  exact va_sm.ob rfl (va_sm.i (fun i hi => (h i hi).symm)) he
theorem cr_sm_7 (h : cr_pt sg ta sg' ta' 7 x) (he : cr_cell cA sg' ta' ad 7 x = some e) : ∃ e0, cr_cell cA sg ta ad 7 x = some e0 ∧ va_sm e0 e := by
  exact va_sm.ob rfl (va_sm.i (fun i hi => (h i hi).symm)) he
theorem cr_sm_8 (h : cr_pt sg ta sg' ta' 8 x) (he : cr_cell cA sg' ta' ad 8 x = some e) : ∃ e0, cr_cell cA sg ta ad 8 x = some e0 ∧ va_sm e0 e := by
  exact va_sm.ob (cr_sm_S h.1 _) (by rw [h.2]; exact va_sm.rf) he
theorem cr_sm_9 (h : cr_pt sg ta sg' ta' 9 x) (he : cr_cell cA sg' ta' ad 9 x = some e) : ∃ e0, cr_cell cA sg ta ad 9 x = some e0 ∧ va_sm e0 e := by
  exact va_sm.ob (cr_sm_S h.1 _) (va_sm.r (fun i hi => by rw [h.2 i hi])) he
theorem cr_sm_10 (h : cr_pt sg ta sg' ta' 10 x) (he : cr_cell cA sg' ta' ad 10 x = some e) : ∃ e0, cr_cell cA sg ta ad 10 x = some e0 ∧ va_sm e0 e := by
  exact va_sm.ob (cr_sm_S h.1 _) (va_sm.r (fun i hi => by unfold cr_hd; rw [h.2 i hi])) he
theorem cr_sm_11 (h : cr_pt sg ta sg' ta' 11 x) (he : cr_cell cA sg' ta' ad 11 x = some e) : ∃ e0, cr_cell cA sg ta ad 11 x = some e0 ∧ va_sm e0 e := by
  exact va_sm.ob (cr_sm_S h.1 _) (va_sm.i (fun i hi => (h.2 i hi).symm)) he
theorem cr_sm_12 (h : cr_pt sg ta sg' ta' 12 x) (he : cr_cell cA sg' ta' ad 12 x = some e) : ∃ e0, cr_cell cA sg ta ad 12 x = some e0 ∧ va_sm e0 e := by
  exact va_sm.ob (cr_sm_S h.1 _) (va_sm.r (fun i hi => by rw [h.2 i hi])) he
theorem cr_sm_13 (h : cr_pt sg ta sg' ta' 13 x) (he : cr_cell cA sg' ta' ad 13 x = some e) : ∃ e0, cr_cell cA sg ta ad 13 x = some e0 ∧ va_sm e0 e := by
  exact va_sm.ob (cr_sm_V h.1 _ h.2.1) (by unfold cr_up; rw [h.2.2.1, h.2.2.2]; exact va_sm.rf) he
theorem cr_sm_14 (h : cr_pt sg ta sg' ta' 14 x) (he : cr_cell cA sg' ta' ad 14 x = some e) : ∃ e0, cr_cell cA sg ta ad 14 x = some e0 ∧ va_sm e0 e := by
  exact va_sm.ob (cr_sm_V h.1 _ h.2.1) (va_sm.r (fun i hi => by rw [h.2.2 i hi])) he
theorem cr_sm_15 (h : cr_pt sg ta sg' ta' 15 x) (he : cr_cell cA sg' ta' ad 15 x = some e) : ∃ e0, cr_cell cA sg ta ad 15 x = some e0 ∧ va_sm e0 e := by
  exact va_sm.ob (cr_sm_E h.1 _ h.2.1) (by unfold cr_kd; rw [h.2.1, h.2.2.1, h.2.2.2.1, h.2.2.2.2]; exact va_sm.rf) he
theorem cr_sm_16 (h : cr_pt sg ta sg' ta' 16 x) (he : cr_cell cA sg' ta' ad 16 x = some e) : ∃ e0, cr_cell cA sg ta ad 16 x = some e0 ∧ va_sm e0 e := by
  exact va_sm.ob (cr_sm_K h.1 _ h.2.1) (by unfold sp_rMark; rw [h.2.1, h.2.2.1, h.2.2.2.1, h.2.2.2.2.1, h.2.2.2.2.2.1, h.2.2.2.2.2.2]; exact va_sm.rf) he
theorem cr_sm_17 (h : cr_pt sg ta sg' ta' 17 x) (he : cr_cell cA sg' ta' ad 17 x = some e) : ∃ e0, cr_cell cA sg ta ad 17 x = some e0 ∧ va_sm e0 e := by
  exact va_sm.ob (cr_sm_K h.1 _ h.2) va_sm.rf he
theorem cr_sm_18 (h : cr_pt sg ta sg' ta' 18 x) (he : cr_cell cA sg' ta' ad 18 x = some e) : ∃ e0, cr_cell cA sg ta ad 18 x = some e0 ∧ va_sm e0 e := by
  exact va_sm.ob (cr_sm_K h.1 _ h.2.1) (va_sm.i (fun i hi => (h.2.2 i hi).symm)) he
theorem cr_sm_19 (h : cr_pt sg ta sg' ta' 19 x) (he : cr_cell cA sg' ta' ad 19 x = some e) : ∃ e0, cr_cell cA sg ta ad 19 x = some e0 ∧ va_sm e0 e := by
  exact va_sm.ob (cr_sm_K h.1 _ h.2.1) (by rw [h.2.2.1, h.2.2.2.1, h.2.2.2.2.1, h.2.2.2.2.2]; exact va_sm.rf) he
theorem cr_sm_20 (h : cr_pt sg ta sg' ta' 20 x) (he : cr_cell cA sg' ta' ad 20 x = some e) : ∃ e0, cr_cell cA sg ta ad 20 x = some e0 ∧ va_sm e0 e := by
  exact va_sm.ob (cr_sm_K h.1 _ h.2.1) (va_sm.i (fun i hi => (h.2.2 i hi).symm)) he
end SM
theorem cr_pt.sm {cA : Nat → ClassId} {sg ta sg' ta' : mm_S} {ad : Nat → Nat → Nat} {q x : Nat} (h : cr_pt sg ta sg' ta' q x) {e : va_E} (he : cr_cell cA sg' ta' ad q x = some e) : ∃ e0, cr_cell cA sg ta ad q x = some e0 ∧ va_sm e0 e := by
  rcases Nat.lt_or_ge 20 q with hq | hq
  · rw [cr_cell_hi hq] at he; cases he
  rcases (show q = 0 ∨ q = 1 ∨ q = 2 ∨ q = 3 ∨ q = 4 ∨ q = 5 ∨ q = 6 ∨ q = 7 ∨ q = 8 ∨ q = 9 ∨ q = 10 ∨ q = 11 ∨ q = 12 ∨ q = 13 ∨ q = 14 ∨ q = 15 ∨ q = 16 ∨ q = 17 ∨ q = 18 ∨ q = 19 ∨ q = 20 by omega) with rfl | rfl | rfl | rfl | rfl | rfl | rfl | rfl | rfl | rfl | rfl | rfl | rfl | rfl | rfl | rfl | rfl | rfl | rfl | rfl | rfl
  · exact cr_sm_0 h he
  · exact cr_sm_1 h he
  · exact cr_sm_2 h he
  · exact cr_sm_3 h he
  · exact cr_sm_4 h he
  · exact cr_sm_5 h he
  · exact cr_sm_6 h he
  · exact cr_sm_7 h he
  · exact cr_sm_8 h he
  · exact cr_sm_9 h he
  · exact cr_sm_10 h he
  · exact cr_sm_11 h he
  · exact cr_sm_12 h he
  · exact cr_sm_13 h he
  · exact cr_sm_14 h he
  · exact cr_sm_15 h he
  · exact cr_sm_16 h he
  · exact cr_sm_17 h he
  · exact cr_sm_18 h he
  · exact cr_sm_19 h he
  · exact cr_sm_20 h he
theorem cr_pt_j {sg ta sg' ta' : mm_S} {q x : Nat} (hg : ∀ j ∈ cr_dpg q, sg' j = sg j) (ht : ∀ j ∈ cr_dep q, ta' j = ta j) : cr_pt sg ta sg' ta' q x := by
  unfold cr_pt
  split
  · rw [hg 1 (by decide)]
  · rw [hg 1 (by decide)]
  · exact fun _ _ => by rw [hg 12 (by decide)]
  · exact fun _ _ => by rw [ht 0 (by decide)]
  · exact fun _ _ => by rw [ht 5 (by decide)]
  · trivial
  · exact fun _ _ => by rw [ht 7 (by decide)]
  · exact fun _ _ => by rw [ht 6 (by decide)]
  · rw [hg 1 (by decide), hg 5 (by decide)]; exact ⟨rfl, rfl⟩
  · rw [hg 1 (by decide), hg 2 (by decide)]; exact ⟨rfl, fun _ _ => rfl⟩
  · rw [hg 1 (by decide), hg 10 (by decide)]; exact ⟨rfl, fun _ _ => rfl⟩
  · rw [hg 1 (by decide), hg 11 (by decide)]; exact ⟨rfl, fun _ _ => rfl⟩
  · rw [hg 1 (by decide), hg 13 (by decide)]; exact ⟨rfl, fun _ _ => rfl⟩
  · rw [hg 1 (by decide), hg 2 (by decide), hg 3 (by decide), hg 4 (by decide)]; exact ⟨rfl, rfl, rfl, rfl⟩
  · rw [hg 1 (by decide), hg 2 (by decide), hg 6 (by decide)]; exact ⟨rfl, rfl, fun _ _ => rfl⟩
  · rw [hg 1 (by decide), hg 6 (by decide), hg 7 (by decide), hg 8 (by decide), hg 9 (by decide)]; exact ⟨rfl, rfl, rfl, rfl, rfl⟩
  · rw [hg 1 (by decide), hg 13 (by decide), hg 14 (by decide), hg 15 (by decide), hg 16 (by decide), ht 1 (by decide), ht 2 (by decide)]; exact ⟨rfl, rfl, rfl, rfl, rfl, rfl, rfl⟩
  · rw [hg 1 (by decide), hg 13 (by decide)]; exact ⟨rfl, rfl⟩
  · rw [hg 1 (by decide), hg 13 (by decide), ht 3 (by decide)]; exact ⟨rfl, rfl, fun _ _ => rfl⟩
  · rw [hg 1 (by decide), hg 13 (by decide), hg 17 (by decide), hg 19 (by decide), hg 20 (by decide), ht 8 (by decide)]; exact ⟨rfl, rfl, rfl, rfl, rfl, rfl⟩
  · rw [hg 1 (by decide), hg 13 (by decide), ht 4 (by decide)]; exact ⟨rfl, rfl, fun _ _ => rfl⟩
  · trivial
/-- one row of the system's own numbers written: only its own cells -/
theorem cr_one_t {cA : Nat → ClassId} {sg ta ta' : mm_S} {ad : Nat → Nat → Nat} {j0 : Nat} (ht : ∀ j, j ≠ j0 → ta' j = ta j) {q x : Nat} (hq : q ≠ cr_own j0) {e : va_E} (he : cr_cell cA sg ta' ad q x = some e) : ∃ e0, cr_cell cA sg ta ad q x = some e0 ∧ va_sm e0 e :=
  (cr_pt_j (sg := sg) (sg' := sg) (fun _ _ => rfl) (fun j hj => ht j (fun z => hq (by rw [← z]; exact cr_own_of hj)))).sm he
def cr_owg : Nat → Nat
  | 12 => 2 | 5 => 8 | 10 => 10 | 11 => 11 | 3 => 13 | 4 => 13 | 7 => 15 | 8 => 15 | 9 => 15 | 14 => 16 | 15 => 16 | 16 => 16 | 17 => 19 | 19 => 19 | 20 => 19 | _ => 99
theorem cr_owg_of {q j : Nat} (h : j ∈ cr_dpg q) (h1 : j ≠ 1) (h2 : j ≠ 2) (h6 : j ≠ 6) (h13 : j ≠ 13) : q = cr_owg j := by
  unfold cr_dpg at h
  split at h <;> simp at h <;> first | (rcases h with h | h | h | h | h <;> subst h <;> first | rfl | contradiction) | (rcases h with h | h | h | h <;> subst h <;> first | rfl | contradiction) | (rcases h with h | h | h <;> subst h <;> first | rfl | contradiction) | (rcases h with h | h <;> subst h <;> first | rfl | contradiction) | (subst h; first | rfl | contradiction)
/-- one row of the reference's numbers written that only cells of one kind rest on -/
theorem cr_one_g {cA : Nat → ClassId} {sg sg' ta : mm_S} {ad : Nat → Nat → Nat} {j0 : Nat} (hg : ∀ j, j ≠ j0 → sg' j = sg j) (h1 : j0 ≠ 1) (h2 : j0 ≠ 2) (h6 : j0 ≠ 6) (h13 : j0 ≠ 13) {q x : Nat} (hq : q ≠ cr_owg j0) {e : va_E} (he : cr_cell cA sg' ta ad q x = some e) : ∃ e0, cr_cell cA sg ta ad q x = some e0 ∧ va_sm e0 e :=
  (cr_pt_j (ta := ta) (ta' := ta) (fun j hj => hg j (fun z => hq (by rw [z] at hj; exact cr_owg_of hj h1 h2 h6 h13))) (fun _ _ => rfl)).sm he
section HA
variable {C : hm_C} {own : String} {cc : ByteArray} {nL : Nat} {ret : Option FieldType} {nm : String} {rm : Room} {cA : Nat → ClassId} {k n : Nat} {Q : State → Prop} {M : hm_M} {pc : Nat} {L : List (Option Value)} {st : List Value}
/-- a row out of a row of rows -/
theorem hr_aaldA {a N : Nat} {f : Nat → Option Nat} {i : Int32} (X : hm_X C own cc nL ret nm rm cA) (d : decode cc pc = .ok (.aaload, 1)) (hM : M a = some (.inl (cA 8, N, .inr (.inr (.inr (.inr f)))))) (hi : vp_in i N) (kk : hm_W C k n Q M (pc + 1) L (va_rf (f i.toNatClampNeg) :: st)) : hm_W C k n Q M pc L (.int i :: .ref a :: st) := by
  obtain ⟨p, l, e, R, s, m, args, below, meth, c, D, cA', A⟩ := C
  obtain ⟨hx, hb, hr, hml, hown, hts, hlk, hG, hnm, rfl, rfl, hst⟩ := X
  have hlt : i.toNatClampNeg < N := Nat.not_le.mp fun q => hi (Or.inr q)
  exact fun H locs ls hP hA hS hl => W.aald (v := va_rf (f i.toNatClampNeg)) (ty := .array .int) hx hb (hm_one hP hM 0 _ rfl) ((hG.1.2 8 (cA' 8, .array .int) rfl).1 N (fun j => va_rf (f j))) rfl (fun q => by cases q) (by show ¬ (i < 0 ∨ (arrV _ _ _).slots.size ≤ _); rw [arrV_size]; exact hi) (by show (arrV _ _ _).slots[_]? = _; rw [arrV_read _ _ hlt]) rfl rfl d (kk H locs ls hP hA hS hl)
end HA
