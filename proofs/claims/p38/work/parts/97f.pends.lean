/-! what a fold leaves as it was, and what it frees -/
section LE
variable {sg : mm_S} {a v : Nat} {to : Option Nat}
theorem le_d {x1 y1 x2 y2 : Nat} {p q : Nat} (hp : p ≤ 30) (hq : q ≤ 30) : ((if x1 = y1 then nI p else 0) + (if x2 = y2 then -nI q else 0) : Int32).toInt = ((if x1 = y1 then p else 0 : Nat) : Int) - ((if x2 = y2 then q else 0 : Nat) : Int) := by
  have n1 : (nI p).toInt = p := nI_toInt (by omega)
  have n2 : (-nI q : Int32).toInt = -(q : Int) := by rw [Int32.toInt_neg, nI_toInt (by omega), sl_bmod (by omega) (by omega)]
  have zero : (0 : Int32).toInt = 0 := by decide
  rw [Int32.toInt_add]
  split <;> split <;> simp only [n1, n2, zero] <;> rw [sl_bmod (by omega) (by omega)] <;> omega
theorem le_eq {U W : Nat} {d : Int32} (h : nI W = nI U + d) (hU : U ≤ 5280) (hW : W ≤ 5280) (hd : -100 ≤ d.toInt ∧ d.toInt ≤ 100) : (W : Int) = U + d.toInt := by
  have := congrArg Int32.toInt h
  rw [Int32.toInt_add, nI_toInt (by omega), nI_toInt (by omega), sl_bmod (by omega) (by omega)] at this
  exact this
theorem le_g (g0 : Nat) (h0 : g0 < 4) (p : Nat) : (if 0 = g0 then p else 0) + (if 1 = g0 then p else 0) + (if 2 = g0 then p else 0) + (if 3 = g0 then p else 0) = p := by
  rcases (show g0 = 0 ∨ g0 = 1 ∨ g0 = 2 ∨ g0 = 3 by omega) with rfl | rfl | rfl | rfl <;> simp
theorem le_used (hI : sp_I sg) (fd : sp_fd sg a v to) {U W : Nat → Nat} (hU : ∀ g, g < 4 → sp_used sg (nI g) = nI (U g) ∧ U g ≤ 5280) (hW : ∀ g, g < 4 → sp_used (sp_fdF sg a v to) (nI g) = nI (W g) ∧ W g ≤ 5280) {l : Nat} (hl : sp_pass sg (16 * a + v) to false = nI l) (hl30 : l ≤ 30) : U 0 + U 1 + U 2 + U 3 = W 0 + W 1 + W 2 + W 3 + l := by
  obtain ⟨p0, e0, b0⟩ := sp_pass_N sg (16 * a + v) none false
  obtain ⟨p1, e1, b1⟩ := sp_pass_N sg (16 * a + v) to true
  have hs := sp_pass_sum sg (16 * a + v) to
  rw [e0, e1, hl, nI_add] at hs
  have hp : p0 = p1 + l := (nI_eq (by omega) (by omega)).mp hs
  have hown : ∃ g0, g0 < 4 ∧ sg 4 (16 * a + v) = nI g0 := by
    rcases (hI.i3 a fd.1).2 v fd.2.1 with ⟨h, -⟩ | ⟨u, g, -, -, -, h1, h2⟩
    · exact absurd h fd.2.2.1
    · exact ⟨g, h1, h2⟩
  obtain ⟨g0, hg0, o0⟩ := hown
  have own : ∀ g, g < 4 → ((sg 4 (16 * a + v) = nI g) ↔ g = g0) := fun g hg => by
    rw [o0]
    exact ⟨fun q => ((nI_eq (by omega) (by omega)).mp q).symm, fun q => by rw [q]⟩
  have k0 := le_g g0 hg0 p0
  cases to with
  | none =>
    have hp1 : p1 = 0 := by
      have : sp_pass sg (16 * a + v) none true = 0 := sp_is_zero 5 (fun k _ => if_neg (by show ¬ false = true; decide))
      rw [this] at e1
      exact ((nI_eq (a := 0) (by decide) (by omega)).mp e1).symm
    have key : ∀ g, g < 4 → (W g : Int) = U g - ((if g = g0 then p0 else 0 : Nat) : Int) := fun g hg => by
      have h := sp_used_fold hI fd (nI g)
      rw [(hU g hg).1, (hW g hg).1, e0] at h
      have h' : nI (W g) = nI (U g) + ((if (0 : Nat) = 1 then nI 0 else 0) + (if g = g0 then -nI p0 else 0)) := by
        rw [h, if_neg (show ¬ (0 : Nat) = 1 by decide)]
        show nI (U g) + ((0 : Int32) + _) = _
        congr 2
        by_cases z : g = g0
        · rw [if_pos z, if_pos ((own g hg).mpr z)]
        · rw [if_neg z, if_neg (fun q => z ((own g hg).mp q))]
      have d := le_d (x1 := 0) (y1 := 1) (x2 := g) (y2 := g0) (p := 0) (q := p0) (by omega) b0
      have := le_eq h' (hU g hg).2 (hW g hg).2 (by rw [d]; split <;> split <;> omega)
      rw [this, d, if_neg (show ¬ (0 : Nat) = 1 by decide)]
      omega
    have := key 0 (by omega)
    have := key 1 (by omega)
    have := key 2 (by omega)
    have := key 3 (by omega)
    omega
  | some y =>
    obtain ⟨c, rfl, hc, hpar, hvc⟩ := fd.2.2.2.2.2.2 y rfl
    have hown1 : ∃ g1, g1 < 4 ∧ sg 4 (16 * a + c) = nI g1 := by
      rcases (hI.i3 a fd.1).2 c hc with ⟨h, -⟩ | ⟨u, g, -, -, -, h1, h2⟩
      · omega
      · exact ⟨g, h1, h2⟩
    obtain ⟨g1, hg1, o1⟩ := hown1
    have own1 : ∀ g, g < 4 → ((sg 4 (16 * a + c) = nI g) ↔ g = g1) := fun g hg => by
      rw [o1]
      exact ⟨fun q => ((nI_eq (by omega) (by omega)).mp q).symm, fun q => by rw [q]⟩
    have k1 := le_g g1 hg1 p1
    have key : ∀ g, g < 4 → (W g : Int) = U g + ((if g = g1 then p1 else 0 : Nat) : Int) - ((if g = g0 then p0 else 0 : Nat) : Int) := fun g hg => by
      have h := sp_used_fold hI fd (nI g)
      rw [(hU g hg).1, (hW g hg).1, e0] at h
      have h' : nI (W g) = nI (U g) + ((if g = g1 then nI p1 else 0) + (if g = g0 then -nI p0 else 0)) := by
        rw [h]
        show nI (U g) + ((if sg 4 (16 * a + c) = nI g then sp_pass sg (16 * a + v) (some (16 * a + c)) true else 0) + _) = _
        rw [e1]
        congr 2
        · by_cases z : g = g1
          · rw [if_pos z, if_pos ((own1 g hg).mpr z)]
          · rw [if_neg z, if_neg (fun q => z ((own1 g hg).mp q))]
        · by_cases z : g = g0
          · rw [if_pos z, if_pos ((own g hg).mpr z)]
          · rw [if_neg z, if_neg (fun q => z ((own g hg).mp q))]
      have d := le_d (x1 := g) (y1 := g1) (x2 := g) (y2 := g0) b1 b0
      have := le_eq h' (hU g hg).2 (hW g hg).2 (by rw [d]; split <;> split <;> omega)
      rw [this, d]
      omega
    have := key 0 (by omega)
    have := key 1 (by omega)
    have := key 2 (by omega)
    have := key 3 (by omega)
    omega
theorem le_vers (fd : sp_fd sg a v to) : sp_vers (sp_fdF sg a v to) a = sp_vers sg a - nI 1 := by
  have h16 := fd.2.1.1
  unfold sp_vers
  rw [sp_is_one (f := fun w => if sg 2 (16 * a + w) = 0 then (0 : Int32) else 1) (f' := fun w => if sp_fdF sg a v to 2 (16 * a + w) = 0 then (0 : Int32) else 1) (e := v) (fun w hw => by
    rw [sp_fdF_2, mm_up_x (by omega)]) 16 h16]
  rw [sp_fdF_2, mm_up_s, if_pos rfl, if_neg fd.2.1.2, Int32.sub_eq_add_neg, Int32.sub_eq_add_neg, Int32.zero_add]
  rfl
theorem le_kind (hI : sp_I sg) (fd : sp_fd sg a v to) {s w t : Nat} (hs : s < sp_n sg) (ht : t < 5) (hw : sp_th sg s w) (hne : 16 * s + w ≠ 16 * a + v) : sp_kind (sp_fdF sg a v to) s w t = sp_kind sg s w t ∧ sp_ptT (sp_fdF sg a v to) s w t = sp_ptT sg s w t := by
  unfold sp_kind sp_ptT
  rw [sp_has_fold hI fd hs ht hw hne]
  cases q : sp_has sg s w t with
  | none => exact ⟨rfl, rfl⟩
  | some u =>
    have q2 : sp_tel sg s w t = some u := by
      unfold sp_has at q
      cases z : sp_tel sg s w t with
      | none => rw [z] at q; cases q
      | some x =>
        rw [z] at q
        dsimp only at q
        split at q
        · cases q
        · exact q
    exact ⟨sp_ent_fold hI fd hs ht hw hne q2 (Or.inl rfl), sp_ent_fold hI fd hs ht hw hne q2 (Or.inr (Or.inl rfl))⟩
/-- a fold that isn't refused: all that is asked of it -/
theorem le_fold (hI : sp_I sg) (hJ : sp_J sg) {k : Nat} (ha : a < sp_n sg) (hk16 : k < 16) (h : sp_thFold sg (nI a) (nI k) = 0) : ∃ (sg' : mm_S) (U W : Nat → Nat) (l : Nat), sp_foldS sg (nN (nI a)) (nN (nI k)) = sg' ∧ sp_I sg' ∧ sp_J sg' ∧ sg' 5 = sg 5 ∧ sg' 11 = sg 11 ∧ sg' 10 = sg 10 ∧ sp_n sg' = sp_n sg ∧ (∀ g, g < 4 → sp_used sg (nI g) = nI (U g) ∧ U g ≤ 5280) ∧ (∀ g, g < 4 → sp_used sg' (nI g) = nI (W g) ∧ W g ≤ 5280) ∧ sp_pass sg (16 * nN (nI a) + nN (nI k)) (sp_toO sg (nN (nI a)) (nN (nI k))) false = nI l ∧ l ≤ 30 ∧ U 0 + U 1 + U 2 + U 3 = W 0 + W 1 + W 2 + W 3 + l ∧ sp_vers sg' a = sp_vers sg a - nI 1 ∧ sp_isV sg' (nI a) (nI k) = false ∧ (∀ g w, g < 4 → sg 10 (4 * a + g) = nI w → sp_th sg a w → sp_th sg' a w ∧ (∀ t, t < 5 → sp_kind sg' a w t = sp_kind sg a w t) ∧ sp_pts sg' a w = sp_pts sg a w) ∧ ∀ q, q < 48 → sp_rDue sg' q = sp_rDue sg q := by
  obtain ⟨hI', hJ'⟩ := lp_fold hI hJ h
  have h4 := hI.i1.2
  have eA : nN (nI a) = a := nI_clamp (by omega)
  have eK : nN (nI k) = k := nI_clamp (by omega)
  rw [eA, eK] at hI' hJ' ⊢
  have hV : sp_isV sg (nI a) (nI k) = true := by
    unfold sp_thFold at h
    refine Classical.byContradiction (fun q => ?_)
    rw [if_neg q] at h
    exact absurd h (by decide)
  have hth : sp_th sg a k := by
    obtain ⟨a', b', -, h1, h2, h3, h5⟩ := sp_isV_nat hI hV
    have hb := h5.1
    have e1 := (nI_eq (by omega) (by omega)).mp h2
    have e2 := (nI_eq (by omega) (by omega)).mp h3
    rw [e1, e2]
    exact h5
  have hn : sp_need sg a k = false := by
    unfold sp_thFold at h
    rw [if_pos hV, eA, eK] at h
    unfold sp_cFold at h
    cases z : sp_need sg a k with
    | false => rfl
    | true => rw [z, Bool.not_true, Bool.false_and] at h; exact absurd h (by decide)
  have fd := sp_fd_of hI ha hth hn
  obtain ⟨l, hl, hl30⟩ := sp_pass_N sg (16 * a + k) (sp_toO sg a k) false
  have hU : ∀ g : Nat, ∃ N, sp_used sg (nI g) = nI N ∧ N ≤ 5280 := fun g => lk_used hI (nI g)
  have hW : ∀ g : Nat, ∃ N, sp_used (sp_fdF sg a k (sp_toO sg a k)) (nI g) = nI N ∧ N ≤ 5280 := fun g => lk_used hI' (nI g)
  refine ⟨sp_fdF sg a k (sp_toO sg a k), fun g => Classical.choose (hU g), fun g => Classical.choose (hW g), l, rfl, hI', hJ', sp_fdF_j (by decide), sp_fdF_j (by decide), sp_fdF_j (by decide), sp_fdF_n, fun g _ => Classical.choose_spec (hU g), fun g _ => Classical.choose_spec (hW g), hl, hl30, le_used hI fd (fun g _ => Classical.choose_spec (hU g)) (fun g _ => Classical.choose_spec (hW g)) hl hl30, le_vers fd, ?_, fun g w hg hw hwt => ?_, fun q hq => ?_⟩
  · refine lh_isVf (sg := sp_fdF sg a k (sp_toO sg a k)) hI' (by rw [sp_fdF_n]; exact ha) hk16 (fun q => ?_)
    exact (sp_fdF_th.mp q).2 rfl
  · have hne : 16 * a + w ≠ 16 * a + k := fun z => by
      refine fd.2.2.2.1 g hg ?_
      rw [hw, show w = k by omega]
    exact ⟨sp_fdF_th.mpr ⟨hwt, hne⟩, fun t ht => (le_kind hI fd ha ht hwt hne).1, sp_is_congr 5 (fun t ht => (le_kind hI fd ha ht hwt hne).2)⟩
  · unfold sp_rDue
    rw [sp_fdF_j (by decide)]
    by_cases z : sg 13 q = 0
    · rw [if_pos z, if_pos z]
    · rw [if_neg z, if_neg z]
      exact sp_due_fold hI fd hq z
/-- states that are alike for what the last check asks -/
def le_R (G : mm_S → Prop) (sg sg' : mm_S) : Prop := sp_I sg' ∧ sp_J sg' ∧ G sg' ∧ sg' 5 = sg 5 ∧ sg' 11 = sg 11 ∧ sp_n sg' = sp_n sg
end LE
