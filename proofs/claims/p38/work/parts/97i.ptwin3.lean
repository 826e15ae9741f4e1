/-! the twins: what is asked of them -/
def tw_s (a c : Int32) : Nat → Int32 := fun q => if q = 4 then a else if q = 5 then c else 0
def tw_w (a c : Nat) : Nat → Nat := fun q => if q = 4 then a else if q = 5 then c else 0
section TY
variable {sg : mm_S} {rule mk td cl : Int32} {st st' : Nat → Int32} {w w' : Nat → Nat} {B : Nat}
theorem tw_S.eq (h : tw_S sg rule st w mk td cl B) (h1 : ∀ p, p < 12 → st p = st' p) (h2 : ∀ p, p < 12 → w p = w' p) : tw_S sg rule st' w' mk td cl B := by
  obtain ⟨a, b, c, d⟩ := h
  refine ⟨a, b, c, fun p hp => ?_⟩
  rw [← h1 p hp, ← h2 p hp]
  exact d p hp
theorem tw_clSj {sg1 : mm_S} {b j : Nat} (hj : ¬ (j = 13 ∨ j = 17 ∨ j = 18 ∨ j = 19 ∨ j = 20)) : ∀ n, sp_clS sg1 b n j = sg1 j
  | 0 => rfl
  | n + 1 => by
    unfold sp_clS
    split
    · exact (sp_fgT_j hj 5).trans (tw_clSj hj n)
    · exact tw_clSj hj n
def tw_pb (l4 l5 : List Int32) : Bool := !decide (sp_alike l4 l5 / 1000 < 2) && !decide (sp_m1000 (sp_alike l4 l5) < 60)
theorem tw_pbE {l4 l5 : List Int32} (e4 : sp_prs sg 28 = l4) (e5 : sp_prs sg 29 = l5) : sp_pairB sg 28 29 = tw_pb l4 l5 := by
  unfold sp_pairB tw_pb sp_alk
  rw [e4, e5]
/-- the prints of the two, and of no other -/
theorem tw_lists (h : tw_S sg rule (tw_s 2 2) (tw_w 5 5) mk td cl B) (hm : 0 < mk) : sp_prs sg 28 = tw_l rule ∧ sp_prs sg 29 = tw_l rule ∧ ∀ p, p < 12 → p ≠ 4 → p ≠ 5 → sp_prs sg (24 + p) = [] := by
  have hw : ∀ p, p < 12 → tw_s 2 2 p = 2 → tw_w 5 5 p = 5 := by decide
  refine ⟨?_, ?_, fun p hp h4 h5 => ?_⟩
  · have := h.prs hw (p := 4) (by decide)
    rw [if_pos ⟨by decide, hm⟩] at this
    exact this
  · have := h.prs hw (p := 5) (by decide)
    rw [if_pos ⟨by decide, hm⟩] at this
    exact this
  · rw [h.prs hw hp, if_neg]
    intro q
    have := q.1
    unfold tw_s at this
    rw [if_neg h4, if_neg h5] at this
    exact absurd this (by decide)
theorem tw_lists1 (h : tw_S sg rule (tw_s 2 1) (tw_w 5 5) mk td cl B) : sp_prs sg 29 = [] ∧ ∀ p, p < 12 → p ≠ 4 → p ≠ 5 → sp_prs sg (24 + p) = [] := by
  have hw : ∀ p, p < 12 → tw_s 2 1 p = 2 → tw_w 5 5 p = 5 := by decide
  refine ⟨?_, fun p hp h4 h5 => ?_⟩
  · have := h.prs hw (p := 5) (by decide)
    rw [if_neg (fun q => absurd q.1 (by decide))] at this
    exact this
  · rw [h.prs hw hp, if_neg]
    intro q
    have := q.1
    unfold tw_s at this
    rw [if_neg h4, if_neg h5] at this
    exact absurd this (by decide)
theorem tw_lists0 (h : tw_S sg rule (tw_s 2 2) (tw_w 5 5) mk td cl B) (hm : ¬ 0 < mk) {p : Nat} (hp : p < 12) : sp_prs sg (24 + p) = [] := by
  have hw : ∀ p, p < 12 → tw_s 2 2 p = 2 → tw_w 5 5 p = 5 := by decide
  rw [h.prs hw hp, if_neg (fun q => hm q.2)]
theorem tw_pairs {l4 l5 : List Int32} (e4 : sp_prs sg 28 = l4) (e5 : sp_prs sg 29 = l5) (h : ∀ p, p < 12 → p ≠ 4 → p ≠ 5 → sp_prs sg (24 + p) = []) : sp_prN sg (nN (nI 2)) 144 = if tw_pb l4 l5 = true then 1 else 0 := by
  rw [show nN (nI 2) = 2 from rfl, tw_prN h, tw_pbE e4 e5]
theorem tw_pb0 {l : List Int32} : tw_pb l [] = false := by
  have e : sp_alike l [] = 0 := by
    unfold sp_alike
    rw [if_pos]
    unfold sp_lst
    split
    · rename_i q; exact absurd q (Nat.not_lt_zero _)
    · rfl
  unfold tw_pb
  rw [e]
  rfl
theorem tw_pb5 : tw_pb (tw_l (nI 5)) (tw_l (nI 5)) = true := by rw [tw_l5]; decide +kernel
theorem tw_pb4 : tw_pb (tw_l 269509) (tw_l 269509) = false := by rw [tw_l4]; decide +kernel
theorem tw_k4 : sp_k (nI 4) (nI 2) = 28 := lf_kN (a := 2) (by decide) (by decide)
theorem tw_k5 : sp_k (nI 5) (nI 2) = 29 := lf_kN (a := 2) (by decide) (by decide)
theorem tw_like : sp_like sg (nI 2) (nI 4) (nI 5) = sp_m1000 (sp_alike (sp_prs sg 28) (sp_prs sg 29)) := by
  unfold sp_like
  rw [if_neg (by decide), tw_k4, tw_k5]
  rfl
theorem tw_a5 : sp_m1000 (sp_alike (tw_l (nI 5)) (tw_l (nI 5))) = nI 100 := by rw [tw_l5]; decide +kernel
theorem tw_a4 : sp_m1000 (sp_alike (tw_l 269509) (tw_l 269509)) = nI 100 := by rw [tw_l4]; decide +kernel
theorem tw_a0 : sp_m1000 (sp_alike [] []) = 0 := by decide
theorem tw_at (hV : tw_V sg rule) (e : sp_pairB sg 28 29 = true) (h : ∀ p, p < 12 → p ≠ 4 → p ≠ 5 → sp_prs sg (24 + p) = []) : sp_paR sg (nI 2) (nI 0) = nI (100 * (53 / 12) + 53 % 12) := by
  refine lh_paR hV.1 hV.s2 (by decide) ?_ (tw_pn53 h)
  unfold sp_pk
  exact (Bool.true_and _).trans e
end TY
