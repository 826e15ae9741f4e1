/-! the twins, in pure words: a third sheet, a version of one task of words, two pupils of a group who say the same -/
def tw_v (rule : Int32) (n : Nat) : Int32 := nI 10 * nI (sp_D (sp_rw rule) (fun i => nI (5 + i)) n (sp_len rule)) / nI (sp_len rule)
def tw_c : mm_S := fun _ x => nI (5 + x)
def tw_l (rule : Int32) : List Int32 := sp_layI tw_c rule 0 [] 3
theorem tw_v5 : tw_v (nI 5) 5 = nI 10 := by decide +kernel
theorem tw_v4 : tw_v 269509 5 = nI 10 := by decide +kernel
theorem tw_v30 : tw_v (nI 30) 5 = nI 0 := by decide +kernel
theorem tw_l5 : tw_l (nI 5) = [5319, 6376, 7433] := by decide +kernel
theorem tw_l4 : tw_l 269509 = [7433] := by decide +kernel
theorem tw_r5 : sp_row (nI 5) = true := by decide +kernel
theorem tw_r4 : sp_row 269509 = true := by decide +kernel
theorem tw_r30 : sp_row (nI 30) = true := by decide +kernel
theorem tw_n5 : sp_len (nI 5) = 1 := by decide +kernel
/-- what a pupil has said: the words 5, 6 .. of the fifth task, nothing else -/
def tw_P (sg : mm_S) (k w : Nat) : Prop := sg 14 k = nI 1 ∧ (∀ t, t < 5 → sg 17 (5 * k + t) = 0 ∧ sg 19 (5 * k + t) = 0) ∧ (∀ t, t < 4 → sg 20 (5 * k + t) = 0) ∧ sg 20 (5 * k + 4) = nI w ∧ w ≤ 5 ∧ ∀ i, i < w → sg 21 (12 * (5 * k + 4) + i) = nI (5 + i)
/-- the version and its entry -/
def tw_V (sg : mm_S) (rule : Int32) : Prop := sp_I sg ∧ sp_J sg ∧ sp_n sg = 3 ∧ sg 12 1 = nI 1000 ∧ sg 2 33 = 1 ∧ sg 3 33 = nI 0 ∧ sg 4 33 = nI 1 ∧ (∀ t, t < 4 → sg 6 (sp_e 2 1 t) = 4) ∧ sg 6 (sp_e 2 1 4) = 2 ∧ sg 7 (sp_e 2 1 4) = nI 10 ∧ sg 8 (sp_e 2 1 4) = rule ∧ sg 10 9 = nI 1
def tw_S (sg : mm_S) (rule : Int32) (st : Nat → Int32) (w : Nat → Nat) (mk td cl : Int32) (B : Nat) : Prop := tw_V sg rule ∧ sg 11 9 = cl ∧ (∃ U, sp_used sg (nI 1) = nI U ∧ U ≤ B) ∧ ∀ p, p < 12 → sg 13 (24 + p) = st p ∧ (st p = 2 → sg 15 (24 + p) = mk ∧ sg 16 (24 + p) = td) ∧ (¬ st p = 0 → tw_P sg (24 + p) (w p))
section TW
variable {sg sg' : mm_S} {rule mk td cl : Int32} {st : Nat → Int32} {w : Nat → Nat} {B : Nat}
theorem tw_V.th (h : tw_V sg rule) : sp_th sg 2 1 := ⟨by decide, by show ¬ sg 2 33 = 0; rw [h.2.2.2.2.1]; decide⟩
theorem tw_V.s2 (h : tw_V sg rule) : 2 < sp_n sg := by rw [h.2.2.1]; decide
theorem tw_V.has (h : tw_V sg rule) : sp_has sg 2 1 4 = some 1 := by
  obtain ⟨hI, -, hn, -, -, h3, -, h6, h64, -⟩ := h
  unfold sp_has
  rw [sp_tel_here (by rw [h64]; decide)]
  dsimp only
  rw [if_neg (by rw [h64]; decide)]
theorem tw_V.none (h : tw_V sg rule) {t : Nat} (ht : t < 4) : sp_has sg 2 1 t = none := by
  have hth := h.th
  have h2 := h.s2
  obtain ⟨hI, -, hn, -, -, h3, -, h6, -⟩ := h
  unfold sp_has
  rw [sp_tel_step hI h2 hth (h6 t ht) h3 ((hI.i3 2 h2).1) (by decide), lf_tel0 hI h2 (by omega)]
theorem tw_com {j n : Nat} {r : Int32} (hw : sg 20 j = nI n) (hn : n ≤ 5) (h : ∀ i, i < n → sg 21 (12 * j + i) = nI (5 + i)) : sp_com sg r j = sp_D (sp_rw r) (fun i => nI (5 + i)) n (sp_len r) := by
  unfold sp_com
  rw [hw, show nN (nI n) = n from nI_clamp (by omega), sp_D_congr n (fun i hi => h i hi)]
theorem tw_due (h : tw_V sg rule) {p n : Nat} (hp : p < 12) (hP : tw_P sg (24 + p) n) : sp_due sg (24 + p) = tw_v rule n := by
  obtain ⟨h14, -, -, h20, hn5, h21⟩ := hP
  have hk : (24 + p) / 12 = 2 := by omega
  have zero : ∀ t, t < 4 → sp_dueT sg (24 + p) t = 0 := fun t ht => by
    unfold sp_dueT
    rw [hk, h14, show nN (nI 1) = 1 from rfl, h.none ht]
  have four : sp_dueT sg (24 + p) 4 = tw_v rule n := by
    unfold sp_dueT
    rw [hk, h14, show nN (nI 1) = 1 from rfl, h.has]
    obtain ⟨-, -, -, -, -, -, -, -, h6, h7, h8, -⟩ := h
    dsimp only
    unfold sp_gain
    rw [h6, if_neg (by decide), if_neg (by decide), h7, h8, tw_com h20 hn5 h21]
    rfl
  show sp_is (sp_dueT sg (24 + p)) 4 + sp_dueT sg (24 + p) 4 = _
  rw [sp_is_zero 4 zero, four, Int32.zero_add]
theorem tw_pt {j : Nat} {n : Nat} (h : ∀ i, i < n → sg 21 (12 * j + i) = nI (5 + i)) {i : Nat} (hi : i + 2 < n) : sp_pt sg j i = sp_pt tw_c 0 i := by
  unfold sp_pt
  rw [h i (by omega), show 12 * j + i + 1 = 12 * j + (i + 1) from rfl, h (i + 1) (by omega), show 12 * j + i + 2 = 12 * j + (i + 2) from rfl, h (i + 2) (by omega)]
  show _ = sp_pr (nI (5 + (12 * 0 + i))) (nI (5 + (12 * 0 + i + 1))) (nI (5 + (12 * 0 + i + 2)))
  rw [show 12 * 0 + i = i by omega]
theorem tw_layI {j j' : Nat} {sg9 : mm_S} {r : Int32} {l : List Int32} : ∀ n, (∀ i, i < n → sp_pt sg j i = sp_pt sg9 j' i) → sp_layI sg r j l n = sp_layI sg9 r j' l n
  | 0, _ => rfl
  | n + 1, h => by
    unfold sp_layI
    rw [tw_layI n (fun i hi => h i (by omega)), h n (by omega)]
theorem tw_prs (h : tw_V sg rule) {p : Nat} (hp : p < 12) (hP : tw_P sg (24 + p) 5) : sp_prs sg (24 + p) = if sg 13 (24 + p) = 2 ∧ 0 < sg 15 (24 + p) then tw_l rule else [] := by
  obtain ⟨h14, -, -, h20, hn5, h21⟩ := hP
  have hk : (24 + p) / 12 = 2 := by omega
  have zero : ∀ t l, t < 4 → sp_layT sg (24 + p) t l = l := fun t l ht => by
    unfold sp_layT
    rw [hk, h14, show nN (nI 1) = 1 from rfl, h.none ht]
  have four : sp_layT sg (24 + p) 4 [] = tw_l rule := by
    unfold sp_layT
    rw [hk, h14, show nN (nI 1) = 1 from rfl, h.has]
    obtain ⟨-, -, -, -, -, -, -, -, h6, h7, h8, -⟩ := h
    dsimp only
    rw [h6, if_pos rfl, h8, h20, show nN (nI 5) - 2 = 3 from rfl]
    exact tw_layI 3 (fun i hi => tw_pt h21 (by omega))
  unfold sp_prs
  have e : sp_layL sg (24 + p) 5 = tw_l rule := by
    show sp_layT sg (24 + p) 4 (sp_layT sg (24 + p) 3 (sp_layT sg (24 + p) 2 (sp_layT sg (24 + p) 1 (sp_layT sg (24 + p) 0 [])))) = _
    rw [zero 0 _ (by decide), zero 1 _ (by decide), zero 2 _ (by decide), zero 3 _ (by decide), four]
  rw [e]
/-- all prints of the sheet -/
theorem tw_S.prs (h : tw_S sg rule st w mk td cl B) (hw : ∀ p, p < 12 → st p = 2 → w p = 5) {p : Nat} (hp : p < 12) : sp_prs sg (24 + p) = if st p = 2 ∧ 0 < mk then tw_l rule else [] := by
  obtain ⟨hV, -, -, hA⟩ := h
  obtain ⟨a, b, c⟩ := hA p hp
  by_cases z : st p = 2
  · have hP := c (by rw [z]; decide)
    rw [hw p hp z] at hP
    rw [tw_prs hV hp hP, a, (b z).1]
  · unfold sp_prs
    rw [if_neg (fun q => z (a.symm.trans q.1)), if_neg (fun q => z q.1)]
theorem tw_alk_0 {a b : Nat} (h : sp_prs sg a = [] ∨ sp_prs sg b = []) : sp_alk sg a b = 0 := by
  unfold sp_alk sp_alike
  rw [if_pos]
  unfold sp_lst
  rcases h with h | h
  · rw [h]
    split
    · rfl
    · rename_i q
      have : (sp_prs sg b).length = 0 := by
        rw [List.length_nil] at q
        omega
      rw [this]
      rfl
  · rw [h]
    split
    · rename_i q
      exact absurd q (Nat.not_lt_zero _)
    · rfl
theorem tw_pk (h : ∀ p, p < 12 → p ≠ 4 → p ≠ 5 → sp_prs sg (24 + p) = []) {k : Nat} (hk : k < 144) (h53 : k ≠ 53) : sp_pk sg 2 k = false := by
  unfold sp_pk
  by_cases z : k / 12 < k % 12
  · have e : sp_alk sg (12 * 2 + k / 12) (12 * 2 + k % 12) = 0 := by
      refine tw_alk_0 ?_
      by_cases y : k / 12 = 4
      · exact Or.inr (h (k % 12) (by omega) (by omega) (by omega))
      · by_cases x : k / 12 = 5
        · exact Or.inr (h (k % 12) (by omega) (by omega) (by omega))
        · exact Or.inl (h (k / 12) (by omega) y x)
    unfold sp_pairB
    rw [e, show decide ((0 : Int32) / 1000 < 2) = true by decide, Bool.not_true, Bool.false_and, Bool.and_false]
  · rw [decide_eq_false z, Bool.false_and]
theorem tw_prN (h : ∀ p, p < 12 → p ≠ 4 → p ≠ 5 → sp_prs sg (24 + p) = []) : sp_prN sg 2 144 = if sp_pairB sg 28 29 = true then 1 else 0 := by
  unfold sp_prN
  rw [sp_is_one (f := fun _ => (0 : Int32)) (f' := fun k => if sp_pk sg 2 k = true ∧ k < 144 then 1 else 0) (e := 53) (fun k hk => ?_) 144 (by decide) |> fun e => (sp_is_congr 144 (fun k hk => ?_)).trans e]
  · rw [sp_is_zero 144 (fun _ _ => rfl), Int32.zero_add, Int32.sub_eq_add_neg]
    show (if sp_pk sg 2 53 = true ∧ 53 < 144 then (1 : Int32) else 0) + -0 = _
    rw [show (-0 : Int32) = 0 from by decide, Int32.add_zero]
    have e : sp_pk sg 2 53 = sp_pairB sg 28 29 := by
      unfold sp_pk
      exact Bool.true_and _
    rw [e]
    by_cases z : sp_pairB sg 28 29 = true
    · rw [if_pos z, if_pos ⟨z, by decide⟩]
    · rw [if_neg z, if_neg (fun q => z q.1)]
  · by_cases z : sp_pk sg 2 k = true
    · rw [if_pos z, if_pos ⟨z, hk⟩]
    · rw [if_neg z, if_neg (fun q => z q.1)]
  · by_cases z : k < 144
    · rw [if_neg (fun q => by rw [tw_pk h z hk] at q; exact absurd q.1 (by decide))]
    · rw [if_neg (fun q => z q.2)]
theorem tw_pn53 (h : ∀ p, p < 12 → p ≠ 4 → p ≠ 5 → sp_prs sg (24 + p) = []) : lf_pn sg 2 53 = 0 := by
  rcases Nat.eq_zero_or_pos (lf_pn sg 2 53) with q | q
  · exact q
  · obtain ⟨j, h1, h2, -⟩ := lh_pair (sg := sg) 2 (p := 0) 53 (by decide) q
    rw [tw_pk h (by omega) (by omega)] at h2
    cases h2
theorem tw_wp (h : ∀ p, p < 12 → p ≠ 4 → p ≠ 5 → sp_prs sg (24 + p) = []) {pr : Int32} (h4 : pr ∈ sp_prs sg 28) (h5 : pr ∈ sp_prs sg 29) : sp_wp sg 2 pr 12 = nI 48 := by
  have no : ∀ p, p < 12 → p ≠ 4 → p ≠ 5 → ¬ pr ∈ sp_prs sg (12 * 2 + p) := fun p a b c q => by
    rw [show 12 * 2 + p = 24 + p from rfl, h p a b c] at q
    exact absurd q List.not_mem_nil
  show ((((((((((((((0 : Int32) ||| (if pr ∈ sp_prs sg (12 * 2 + 0) then 1 <<< (nI 0 &&& 31) else 0)) ||| (if pr ∈ sp_prs sg (12 * 2 + 1) then 1 <<< (nI 1 &&& 31) else 0)) ||| (if pr ∈ sp_prs sg (12 * 2 + 2) then 1 <<< (nI 2 &&& 31) else 0)) ||| (if pr ∈ sp_prs sg (12 * 2 + 3) then 1 <<< (nI 3 &&& 31) else 0)) ||| (if pr ∈ sp_prs sg 28 then 1 <<< (nI 4 &&& 31) else 0)) ||| (if pr ∈ sp_prs sg 29 then 1 <<< (nI 5 &&& 31) else 0)) ||| (if pr ∈ sp_prs sg (12 * 2 + 6) then 1 <<< (nI 6 &&& 31) else 0)) ||| (if pr ∈ sp_prs sg (12 * 2 + 7) then 1 <<< (nI 7 &&& 31) else 0)) ||| (if pr ∈ sp_prs sg (12 * 2 + 8) then 1 <<< (nI 8 &&& 31) else 0)) ||| (if pr ∈ sp_prs sg (12 * 2 + 9) then 1 <<< (nI 9 &&& 31) else 0)) ||| (if pr ∈ sp_prs sg (12 * 2 + 10) then 1 <<< (nI 10 &&& 31) else 0)) ||| (if pr ∈ sp_prs sg (12 * 2 + 11) then 1 <<< (nI 11 &&& 31) else 0))) = nI 48
  rw [if_neg (no 0 (by decide) (by decide) (by decide)), if_neg (no 1 (by decide) (by decide) (by decide)), if_neg (no 2 (by decide) (by decide) (by decide)), if_neg (no 3 (by decide) (by decide) (by decide)), if_pos h4, if_pos h5, if_neg (no 6 (by decide) (by decide) (by decide)), if_neg (no 7 (by decide) (by decide) (by decide)), if_neg (no 8 (by decide) (by decide) (by decide)), if_neg (no 9 (by decide) (by decide) (by decide)), if_neg (no 10 (by decide) (by decide) (by decide)), if_neg (no 11 (by decide) (by decide) (by decide))]
  decide
theorem tw_fits {g : Nat} (h12 : sg 12 1 = nI 1000) {U : Nat} (hU : sp_used sg (nI 1) = nI U) (hU2 : U ≤ 900) {d : Int32} (hd : -100 ≤ d.toInt ∧ d.toInt ≤ 100) (hg : g = 1) : sp_fits sg g d = true := by
  subst hg
  unfold sp_fits
  rw [Bool.or_eq_true, decide_eq_true_eq, decide_eq_true_eq, h12, hU]
  right
  rw [Int32.le_iff_toInt_le, Int32.toInt_add, nI_toInt (by omega), nI_toInt (by decide), sl_bmod (by omega) (by omega)]
  omega
theorem tw_use {U : Nat} {x d : Int32} (hx : ∃ N, x = nI N ∧ N ≤ 5280) (h : x = nI U + d) (hU : U ≤ 900) (hd : -100 ≤ d.toInt ∧ d.toInt ≤ 6) : ∃ W, x = nI W ∧ W ≤ U + 6 := by
  obtain ⟨N, e, hN⟩ := hx
  rw [e] at h
  have := le_eq h (by omega) hN (by omega)
  exact ⟨N, e, by omega⟩
end TW
