/-! THE SYSTEM'S MEMORY, by keys: a kind and a place. sg: the reference's numbers; ta: numbers of the system's own (0 uses, 1 due marks, 2 counts of prints, 3 prints, 4 words, 5 lengths, 6 threes, 7 their counts, 8 numbers said) -/
def cr_ob (b : Bool) (e : va_E) : Option va_E := if b = true then some e else none
def cr_rw (cA : Nat → ClassId) (t N : Nat) (f : Nat → Option Nat) : va_E := .inl (cA t, N, .inr (.inr (.inr (.inr f))))
def cr_iw (cA : Nat → ClassId) (t N : Nat) (f : Nat → Int32) : va_E := .inl (cA t, N, .inl f)
/-- the version's place of a sheet's head; of a version's parent -/
def cr_hd (sg : mm_S) (s g : Nat) : Nat := 16 * s + nN (sg 10 (4 * s + g))
def cr_up (sg : mm_S) (x : Nat) : Option Nat := if sg 3 x = -1 then none else some (16 * (x / 16) + nN (sg 3 x))
def cr_isS (sg : mm_S) (s : Nat) : Bool := decide (s < sp_n sg)
def cr_isV (sg : mm_S) (x : Nat) : Bool := decide (x / 16 < sp_n sg) && !decide (sg 2 x = 0)
def cr_isE (sg : mm_S) (e : Nat) : Bool := decide (e / 5 / 16 < sp_n sg) && !decide (sg 6 e = 4)
def cr_isK (sg : mm_S) (k : Nat) : Bool := decide (k / 12 < sp_n sg) && !decide (sg 13 k = 0)
def cr_kd (sg : mm_S) (e : Nat) : Int32 := if sg 6 e = 3 then -1 else sg 6 e
def cr_cell (cA : Nat → ClassId) (sg ta : mm_S) (ad : Nat → Nat → Nat) : Nat → Nat → Option va_E
  | 0, x => cr_ob (decide (x = 0)) (.inr (5, [.ref (ad 1 0), .int (sg 1 0), .ref (ad 2 0), .ref (ad 3 0), .ref (ad 4 0), .ref (ad 5 0), .ref (ad 6 0)]))
  | 1, x => cr_ob (decide (x = 0)) (cr_rw cA 3 4 (fun s => if cr_isS sg s = true then some (ad 8 s) else none))
  | 2, x => cr_ob (decide (x = 0)) (cr_iw cA 0 4 (sg 12))
  | 3, x => cr_ob (decide (x = 0)) (cr_iw cA 0 4 (ta 0))
  | 4, x => cr_ob (decide (x = 0)) (cr_iw cA 0 7 (ta 5))
  | 5, x => cr_ob (decide (x = 0)) (cr_rw cA 8 12 (fun p => some (ad 7 p)))
  | 6, x => cr_ob (decide (x = 0)) (cr_iw cA 0 12 (ta 7))
  | 7, p => cr_ob (decide (p < 12)) (cr_iw cA 0 50 (fun i => ta 6 (50 * p + i)))
  | 8, s => cr_ob (cr_isS sg s) (.inr (3, [.ref (ad 9 s), .int (sg 5 s), .ref (ad 10 s), .ref (ad 11 s), .ref (ad 12 s)]))
  | 9, s => cr_ob (cr_isS sg s) (cr_rw cA 4 16 (fun v => if sg 2 (16 * s + v) = 0 then none else some (ad 13 (16 * s + v))))
  | 10, s => cr_ob (cr_isS sg s) (cr_rw cA 4 4 (fun g => some (ad 13 (cr_hd sg s g))))
  | 11, s => cr_ob (cr_isS sg s) (cr_iw cA 1 4 (fun g => sg 11 (4 * s + g)))
  | 12, s => cr_ob (cr_isS sg s) (cr_rw cA 6 12 (fun p => if sg 13 (12 * s + p) = 0 then none else some (ad 16 (12 * s + p))))
  | 13, x => cr_ob (cr_isV sg x) (.inr (4, [.int (nI (x % 16)), .int (sg 4 x), va_rf ((cr_up sg x).map (ad 13)), .ref (ad 14 x)]))
  | 14, x => cr_ob (cr_isV sg x) (cr_rw cA 5 5 (fun t => if sg 6 (5 * x + t) = 4 then none else some (ad 15 (5 * x + t))))
  | 15, e => cr_ob (cr_isE sg e) (.inr (1, [.int (cr_kd sg e), .int (sg 7 e), .int (sg 8 e), .int (sg 9 e)]))
  | 16, k => cr_ob (cr_isK sg k) (.inr (0, [.ref (ad 13 (16 * (k / 12) + nN (sg 14 k))), .ref (ad 17 k), .int (if sg 13 k = 2 then 1 else 0), .int (sp_rMark sg k), .int (ta 1 k), .int (sg 16 k), .ref (ad 18 k), .int (ta 2 k)]))
  | 17, k => cr_ob (cr_isK sg k) (cr_rw cA 7 5 (fun t => some (ad 19 (5 * k + t))))
  | 18, k => cr_ob (cr_isK sg k) (cr_iw cA 0 50 (fun i => ta 3 (50 * k + i)))
  | 19, j => cr_ob (cr_isK sg (j / 5)) (.inr (2, [.int (sg 17 j), .int (ta 8 j), .int (sg 19 j), .ref (ad 20 j), .int (sg 20 j)]))
  | 20, j => cr_ob (cr_isK sg (j / 5)) (cr_iw cA 0 12 (fun i => ta 4 (12 * j + i)))
  | _, _ => none
/-- the memory M holds the system in this state; all of M0 lies apart from it -/
def cr_R (cA : Nat → ClassId) (sg ta : mm_S) (ad : Nat → Nat → Nat) (M0 M : hm_M) : Prop :=
  (∀ q x e, cr_cell cA sg ta ad q x = some e → M (ad q x) = some e ∧ M0 (ad q x) = none) ∧
  (∀ q x q' x' e e', cr_cell cA sg ta ad q x = some e → cr_cell cA sg ta ad q' x' = some e' → ad q x = ad q' x' → q = q' ∧ x = x') ∧
  ∀ a e, M0 a = some e → M a = some e
theorem cr_R.at {cA : Nat → ClassId} {sg ta : mm_S} {ad : Nat → Nat → Nat} {M0 M : hm_M} (h : cr_R cA sg ta ad M0 M) {q x : Nat} {e : va_E} (hc : cr_cell cA sg ta ad q x = some e) : M (ad q x) = some e := (h.1 q x e hc).1
/-- one place is written -/
theorem cr_R.set {cA : Nat → ClassId} {sg ta sg' ta' : mm_S} {ad : Nat → Nat → Nat} {M0 M : hm_M} (h : cr_R cA sg ta ad M0 M) {q0 x0 : Nat} {e0 e1 : va_E} (h0 : cr_cell cA sg ta ad q0 x0 = some e0) (h1 : cr_cell cA sg' ta' ad q0 x0 = some e1)
    (hc : ∀ q x, ¬ (q = q0 ∧ x = x0) → cr_cell cA sg' ta' ad q x = cr_cell cA sg ta ad q x) : cr_R cA sg' ta' ad M0 (hm_up M (ad q0 x0) e1) := by
  have hp : ∀ q x e, cr_cell cA sg' ta' ad q x = some e → ∃ e', cr_cell cA sg ta ad q x = some e' := fun q x e he => by
    by_cases z : q = q0 ∧ x = x0
    · rw [z.1, z.2]; exact ⟨e0, h0⟩
    · rw [hc q x z] at he; exact ⟨e, he⟩
  refine ⟨fun q x e he => ?_, fun q x q' x' e e' he he' ha => ?_, fun a e ha => ?_⟩
  · by_cases z : q = q0 ∧ x = x0
    · rw [z.1, z.2, h1] at he
      rw [z.1, z.2, hm_up_s]
      exact ⟨he, (h.1 _ _ _ h0).2⟩
    · rw [hc q x z] at he
      rw [hm_up_n (fun y => z (h.2.1 _ _ _ _ _ _ he h0 y))]
      exact h.1 _ _ _ he
  · obtain ⟨a1, b1⟩ := hp _ _ _ he
    obtain ⟨a2, b2⟩ := hp _ _ _ he'
    exact h.2.1 _ _ _ _ _ _ b1 b2 ha
  · rw [hm_up_n (fun y => by
      have := (h.1 _ _ _ h0).2
      rw [← y, ha] at this
      cases this)]
    exact h.2.2 _ _ ha
/-- places that are no longer reached -/
theorem cr_R.sub {cA : Nat → ClassId} {sg ta sg' ta' : mm_S} {ad : Nat → Nat → Nat} {M0 M : hm_M} (h : cr_R cA sg ta ad M0 M) (hc : ∀ q x e, cr_cell cA sg' ta' ad q x = some e → cr_cell cA sg ta ad q x = some e) : cr_R cA sg' ta' ad M0 M :=
  ⟨fun q x e he => h.1 q x e (hc q x e he), fun q x q' x' e e' he he' => h.2.1 q x q' x' e e' (hc _ _ _ he) (hc _ _ _ he'), h.2.2⟩
/-- what the system keeps of its own is what the reference tells -/
def cr_ok (sg ta : mm_S) : Prop :=
  (∀ g, g < 4 → ta 0 g = sp_used sg (nI g)) ∧
  (∀ k, k < 48 → sg 13 k = 2 → ta 1 k = sp_due sg k) ∧
  (∀ k, k < 48 → ¬ sg 13 k = 0 → ∃ l : List Int32, l.Pairwise (fun a b => a < b) ∧ l.length ≤ 50 ∧ ta 2 k = nI l.length ∧ (∀ i x, l[i]? = some x → ta 3 (50 * k + i) = x) ∧ ∀ x, x ∈ l ↔ x ∈ sp_prs sg k) ∧
  (∀ j, j < 240 → ¬ sg 17 j = 0 → ta 8 j = sg 18 j) ∧
  ∀ j i, j < 240 → i < 12 → nI i < sg 20 j → ta 4 (12 * j + i) = sg 21 (12 * j + i)
