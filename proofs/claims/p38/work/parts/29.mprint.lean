/-! fingerprints, in pure words -/
def sp_irF (rule pr : Int32) : Nat → Bool
  | 0 => false
  | n + 1 => sp_irF rule pr n || decide (sp_pr (sp_wa rule (nI n)) (sp_wa rule (nI (n + 1))) (sp_wa rule (nI (n + 2))) = pr)
def sp_inR (rule pr : Int32) : Bool := sp_irF rule pr (sp_len rule - 2)
def sp_el (f : Nat → Int32) (x : Int32) : Nat → Bool
  | 0 => false
  | n + 1 => sp_el f x n || decide (f n = x)
def sp_pt (sg : mm_S) (j i : Nat) : Int32 := sp_pr (sg 21 (12 * j + i)) (sg 21 (12 * j + i + 1)) (sg 21 (12 * j + i + 2))
def sp_ad (l : List Int32) (x : Int32) : List Int32 := if x ∈ l then l else l ++ [x]
def sp_layI (sg : mm_S) (rule : Int32) (j : Nat) (l : List Int32) : Nat → List Int32
  | 0 => l
  | i + 1 => if sp_inR rule (sp_pt sg j i) = true then sp_layI sg rule j l i else sp_ad (sp_layI sg rule j l i) (sp_pt sg j i)
def sp_layT (sg : mm_S) (k t : Nat) (l : List Int32) : List Int32 := match sp_has sg (k / 12) (nN (sg 14 k)) t with
  | none => l
  | some u => if sg 6 (sp_e (k / 12) u t) = 2 then sp_layI sg (sg 8 (sp_e (k / 12) u t)) (5 * k + t) l (nN (sg 20 (5 * k + t)) - 2) else l
def sp_layL (sg : mm_S) (k : Nat) : Nat → List Int32
  | 0 => []
  | t + 1 => sp_layT sg k t (sp_layL sg k t)
/-- an answer's fingerprints, each once, as they were said; none if it isn't in the index -/
def sp_prs (sg : mm_S) (k : Nat) : List Int32 := if sg 13 k = 2 ∧ 0 < sg 15 k then sp_layL sg k 5 else []
theorem sp_ad_len (l : List Int32) (x : Int32) : (sp_ad l x).length ≤ l.length + 1 := by
  unfold sp_ad
  split
  · omega
  · simp
theorem sp_layI_len (sg : mm_S) (rule : Int32) (j : Nat) (l : List Int32) : ∀ i, (sp_layI sg rule j l i).length ≤ l.length + i
  | 0 => Nat.le_refl _
  | i + 1 => by
    unfold sp_layI
    have h := sp_layI_len sg rule j l i
    split
    · omega
    · have := sp_ad_len (sp_layI sg rule j l i) (sp_pt sg j i)
      omega
theorem sp_layL_len {sg : mm_S} (hI : sp_I sg) {k : Nat} (hk : k < 48) : ∀ t, t ≤ 5 → (sp_layL sg k t).length ≤ 10 * t
  | 0, _ => Nat.le_refl _
  | t + 1, ht => by
    have h := sp_layL_len hI hk t (by omega)
    show (sp_layT sg k t (sp_layL sg k t)).length ≤ _
    unfold sp_layT
    cases sp_has sg (k / 12) (nN (sg 14 k)) t with
    | none => dsimp only; omega
    | some u =>
      dsimp only
      split
      · obtain ⟨-, -, ⟨w, hw, he⟩, -⟩ := hI.i12 (5 * k + t) (by omega)
        have h2 := sp_layI_len sg (sg 8 (sp_e (k / 12) u t)) (5 * k + t) (sp_layL sg k t) (nN (sg 20 (5 * k + t)) - 2)
        rw [he, show nN (nI w) = w from nI_clamp (by omega)] at h2 ⊢
        omega
      · omega
/-- the rows to work in hold the list -/
def mm_pl (ta : mm_S) (l : List Int32) : Prop := ta 25 0 = nI l.length ∧ ∀ i, i < l.length → ta 24 i = l.getD i 0
theorem sp_el_mem {f : Nat → Int32} {l : List Int32} {x : Int32} (h : ∀ i, i < l.length → f i = l.getD i 0) : sp_el f x l.length = decide (x ∈ l) := by
  have key : ∀ n, n ≤ l.length → (sp_el f x n = true ↔ ∃ i, i < n ∧ l.getD i 0 = x) := by
    intro n
    induction n with
    | zero =>
      intro _
      constructor
      · intro q; cases q
      · rintro ⟨i, hi, -⟩; exact absurd hi (Nat.not_lt_zero i)
    | succ n ih =>
      intro hn
      show (sp_el f x n || decide (f n = x)) = true ↔ _
      rw [Bool.or_eq_true, decide_eq_true_eq, ih (by omega), h n (by omega)]
      constructor
      · rintro (⟨i, hi, e⟩ | e)
        · exact ⟨i, by omega, e⟩
        · exact ⟨n, by omega, e⟩
      · rintro ⟨i, hi, e⟩
        by_cases q : i = n
        · subst q; exact Or.inr e
        · exact Or.inl ⟨i, by omega, e⟩
  have h2 := key l.length (Nat.le_refl _)
  have h3 : (∃ i, i < l.length ∧ l.getD i 0 = x) ↔ x ∈ l := by
    rw [List.mem_iff_getElem]
    constructor
    · rintro ⟨i, hi, e⟩
      exact ⟨i, hi, by rw [← e, List.getD_eq_getElem?_getD, List.getElem?_eq_getElem hi]; rfl⟩
    · rintro ⟨i, hi, e⟩
      exact ⟨i, hi, by rw [← e, List.getD_eq_getElem?_getD, List.getElem?_eq_getElem hi]; rfl⟩
  cases hb : sp_el f x l.length with
  | true => exact (decide_eq_true (h3.mp (h2.mp hb))).symm
  | false => exact (decide_eq_false (fun q => by rw [h2.mpr (h3.mpr q)] at hb; cases hb)).symm
theorem mm_pl.add {ta ta' : mm_S} {l : List Int32} {x : Int32} (h : mm_pl ta l) (h1 : ta' 25 0 = nI (l.length + 1)) (h2 : ta' 24 l.length = x) (h3 : ∀ i, i < l.length → ta' 24 i = ta 24 i) : mm_pl ta' (l ++ [x]) := by
  refine ⟨by rw [h1]; simp, fun i hi => ?_⟩
  rw [List.length_append, List.length_singleton] at hi
  by_cases e : i < l.length
  · rw [h3 i e, h.2 i e, List.getD_eq_getElem?_getD, List.getD_eq_getElem?_getD, List.getElem?_append_left e]
  · have e2 : i = l.length := by omega
    subst e2
    rw [h2, List.getD_eq_getElem?_getD, List.getElem?_append_right (Nat.le_refl _), Nat.sub_self]
    rfl
/-- how many both have; both numbers in one -/
def sp_cmn (l1 l2 : List Int32) (n : Nat) : Int32 := sp_is (fun i => if l1.getD i 0 ∈ l2 then 1 else 0) n
def sp_lst (l1 l2 : List Int32) : Nat := if l1.length < l2.length then l1.length else l2.length
def sp_alike (l1 l2 : List Int32) : Int32 := if nI (sp_lst l1 l2) = 0 then 0 else 1000 * sp_cmn l1 l2 l1.length + 100 * sp_cmn l1 l2 l1.length / nI (sp_lst l1 l2)
def sp_alk (sg : mm_S) (a b : Nat) : Int32 := sp_alike (sp_prs sg a) (sp_prs sg b)
def sp_m1000 (x : Int32) : Int32 := x - x / 1000 * 1000
def sp_pairB (sg : mm_S) (a b : Nat) : Bool := !decide (sp_alk sg a b / 1000 < 2) && !decide (sp_m1000 (sp_alk sg a b) < 60)
def sp_wp (sg : mm_S) (s : Nat) (pr : Int32) : Nat → Int32
  | 0 => 0
  | k + 1 => sp_wp sg s pr k ||| (if pr ∈ sp_prs sg (12 * s + k) then 1 <<< (nI k &&& 31) else 0)
def sp_pk (sg : mm_S) (s k : Nat) : Bool := decide (k / 12 < k % 12) && sp_pairB sg (12 * s + k / 12) (12 * s + k % 12)
def sp_prN (sg : mm_S) (s n : Nat) : Int32 := sp_is (fun k => if sp_pk sg s k = true then 1 else 0) n
def sp_pa (sg : mm_S) (s : Nat) (place : Int32) : Nat → Int32 × Int32
  | 0 => (place, -1)
  | k + 1 => if (sp_pa sg s place k).2 = -1 then (if sp_pk sg s k = true then ((sp_pa sg s place k).1 + -1, if (sp_pa sg s place k).1 = 0 then nI (100 * (k / 12) + k % 12) else -1) else sp_pa sg s place k) else sp_pa sg s place k
theorem sp_pa_stay (sg : mm_S) (s : Nat) (place : Int32) {k : Nat} (h : ¬ (sp_pa sg s place k).2 = -1) : ∀ d, sp_pa sg s place (k + d) = sp_pa sg s place k
  | 0 => rfl
  | d + 1 => by
    show sp_pa sg s place (k + d + 1) = _
    rw [sp_pa, sp_pa_stay sg s place h d, if_neg h]
def sp_paR (sg : mm_S) (s place : Int32) : Int32 := if (sp_isS sg s && !decide (place < 0)) = true then (sp_pa sg (nN s) place 144).2 else -1
def sp_like (sg : mm_S) (s p q : Int32) : Int32 := if p = q then 0 else sp_m1000 (sp_alk sg (sp_k p s) (sp_k q s))
theorem sp_prs_len {sg : mm_S} (hI : sp_I sg) {k : Nat} (hk : k < 48) : (sp_prs sg k).length ≤ 50 := by
  unfold sp_prs
  split
  · exact sp_layL_len hI hk 5 (Nat.le_refl _)
  · exact Nat.zero_le _
