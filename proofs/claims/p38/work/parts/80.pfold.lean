/-! folding: what the state says then -/
section FD
variable {sg : mm_S} {f : Nat} {to : Option Nat}
theorem sp_cpO_j {k j : Nat} (h : ¬ (j = 6 ∨ j = 7 ∨ j = 8 ∨ j = 9)) : sp_cpO sg f to k j = sg j := by
  unfold sp_cpO
  cases to with
  | none => rfl
  | some t =>
    dsimp only
    split
    · unfold sp_cp
      rw [mm_up_j (by omega), mm_up_j (by omega), mm_up_j (by omega), mm_up_j (by omega)]
    · rfl
theorem sp_fdS_j {j : Nat} (h : ¬ (j = 6 ∨ j = 7 ∨ j = 8 ∨ j = 9)) : ∀ n, sp_fdS sg f to n j = sg j
  | 0 => rfl
  | n + 1 => by
    unfold sp_fdS
    rw [mm_up_j (by omega), sp_cpO_j h, sp_fdS_j h n]
/-- one entry copied, where there is none -/
theorem sp_cpO_v {k j y : Nat} (h : j = 6 ∨ j = 7 ∨ j = 8 ∨ j = 9) : sp_cpO sg f to k j y = if to = some (y / 5) ∧ y % 5 = k ∧ k < 5 ∧ sg 6 y = 4 then sg j (5 * f + k) else if ∃ t, to = some t ∧ y = 5 * t + k ∧ sg 6 y = 4 then sg j (5 * f + k) else sg j y := by
  unfold sp_cpO
  cases to with
  | none =>
    dsimp only
    rw [if_neg (fun z => by cases z.1), if_neg (fun z => by obtain ⟨t, ht, -⟩ := z; cases ht)]
  | some t =>
    dsimp only
    by_cases z : y = 5 * t + k
    · subst z
      by_cases w : sg 6 (5 * t + k) = 4
      · rw [if_pos w, if_pos (c := ∃ t', some t = some t' ∧ 5 * t + k = 5 * t' + k ∧ sg 6 (5 * t + k) = 4) ⟨t, rfl, rfl, w⟩, ite_self]
        unfold sp_cp
        rcases h with rfl | rfl | rfl | rfl <;> simp [mm_up]
      · rw [if_neg w, if_neg (fun q => w q.2.2.2), if_neg (fun q => by obtain ⟨t', -, -, q3⟩ := q; exact w q3)]
    · have e : (if sg 6 (5 * t + k) = 4 then sp_cp sg f t k else sg) j y = sg j y := by
        split
        · unfold sp_cp
          rw [mm_up_xj z, mm_up_xj z, mm_up_xj z, mm_up_xj z]
        · rfl
      rw [e, if_neg (fun q => z (by have h1 := Option.some.inj q.1; omega)), if_neg (fun q => by obtain ⟨t', h1, h2, -⟩ := q; cases h1; exact z h2)]
theorem sp_cpO_w {k j y : Nat} (h : j = 6 ∨ j = 7 ∨ j = 8 ∨ j = 9) (hk : k < 5) : sp_cpO sg f to k j y = if to = some (y / 5) ∧ y % 5 = k ∧ sg 6 y = 4 then sg j (5 * f + k) else sg j y := by
  rw [sp_cpO_v h]
  by_cases z : to = some (y / 5) ∧ y % 5 = k ∧ sg 6 y = 4
  · rw [if_pos z, if_pos ⟨z.1, z.2.1, hk, z.2.2⟩]
  · rw [if_neg z, if_neg (fun q => z ⟨q.1, q.2.1, q.2.2.2⟩), if_neg (fun q => by
      obtain ⟨t, h1, h2, h3⟩ := q
      exact z ⟨by rw [h1, h2]; congr 1; omega, by omega, h3⟩)]
theorem sp_fdS_v (hne : to ≠ some f) : ∀ n, n ≤ 5 → (∀ y, sp_fdS sg f to n 6 y = if y / 5 = f ∧ y % 5 < n then 4 else if to = some (y / 5) ∧ y % 5 < n ∧ sg 6 y = 4 then sg 6 (5 * f + y % 5) else sg 6 y) ∧ ∀ j y, j = 7 ∨ j = 8 ∨ j = 9 → sp_fdS sg f to n j y = if to = some (y / 5) ∧ y % 5 < n ∧ sg 6 y = 4 then sg j (5 * f + y % 5) else sg j y
  | 0, _ => ⟨fun y => by rw [if_neg (fun z => absurd z.2 (Nat.not_lt_zero _)), if_neg (fun z => absurd z.2.1 (Nat.not_lt_zero _))]; rfl, fun j y _ => by rw [if_neg (fun z => absurd z.2.1 (Nat.not_lt_zero _))]; rfl⟩
  | n + 1, hn => by
    obtain ⟨h6, hj⟩ := sp_fdS_v hne n (by omega)
    have o6 : sp_fdS sg f to n 6 (5 * f + n) = sg 6 (5 * f + n) := by
      rw [h6, if_neg (by omega), if_neg (by omega)]
    have oj : ∀ j, j = 7 ∨ j = 8 ∨ j = 9 → sp_fdS sg f to n j (5 * f + n) = sg j (5 * f + n) := fun j h => by
      rw [hj j _ h, if_neg (by omega)]
    have t6 : ∀ y, y % 5 = n → y / 5 ≠ f → sp_fdS sg f to n 6 y = sg 6 y := fun y h1 h2 => by
      rw [h6, if_neg (by omega), if_neg (by omega)]
    constructor
    · intro y
      show mm_up (sp_cpO (sp_fdS sg f to n) f to n) 6 (5 * f + n) 4 6 y = _
      by_cases z : y = 5 * f + n
      · rw [z, mm_up_s, if_pos ⟨by omega, by omega⟩]
      · rw [mm_up_x z, sp_cpO_w (Or.inl rfl) (by omega), o6]
        by_cases w : y % 5 = n
        · have hf : y / 5 ≠ f := by omega
          rw [t6 y w hf, if_neg (show ¬ (y / 5 = f ∧ y % 5 < n + 1) by omega)]
          by_cases x : to = some (y / 5) ∧ sg 6 y = 4
          · rw [if_pos ⟨x.1, w, x.2⟩, if_pos ⟨x.1, by omega, x.2⟩, w]
          · rw [if_neg (fun q => x ⟨q.1, q.2.2⟩), if_neg (fun q => x ⟨q.1, q.2.2⟩)]
        · rw [if_neg (fun q => w q.2.1), h6]
          by_cases x : y / 5 = f ∧ y % 5 < n
          · rw [if_pos x, if_pos ⟨x.1, by omega⟩]
          · rw [if_neg x, if_neg (show ¬ (y / 5 = f ∧ y % 5 < n + 1) by omega)]
            by_cases u : to = some (y / 5) ∧ y % 5 < n ∧ sg 6 y = 4
            · rw [if_pos u, if_pos ⟨u.1, by omega, u.2.2⟩]
            · rw [if_neg u, if_neg (fun q => u ⟨q.1, by omega, q.2.2⟩)]
    · intro j y h
      show mm_up (sp_cpO (sp_fdS sg f to n) f to n) 6 (5 * f + n) 4 j y = _
      rw [mm_up_j (by omega), sp_cpO_w (by omega) (by omega), oj j h]
      by_cases w : y % 5 = n
      · by_cases x : to = some (y / 5) ∧ sg 6 y = 4
        · have hf : y / 5 ≠ f := fun q => hne (by rw [← q]; exact x.1)
          rw [t6 y w hf, if_pos ⟨x.1, w, x.2⟩, if_pos ⟨x.1, by omega, x.2⟩, w]
        · have e1 : ¬ (to = some (y / 5) ∧ y % 5 = n ∧ sp_fdS sg f to n 6 y = 4) := fun q => by
            have hf : y / 5 ≠ f := fun z => hne (by rw [← z]; exact q.1)
            rw [t6 y w hf] at q
            exact x ⟨q.1, q.2.2⟩
          rw [if_neg e1, hj j y h, if_neg (by omega), if_neg (fun q => x ⟨q.1, q.2.2⟩)]
      · rw [if_neg (fun q => w q.2.1), hj j y h]
        by_cases u : to = some (y / 5) ∧ y % 5 < n ∧ sg 6 y = 4
        · rw [if_pos u, if_pos ⟨u.1, by omega, u.2.2⟩]
        · rw [if_neg u, if_neg (fun q => u ⟨q.1, by omega, q.2.2⟩)]
end FD
/-- a version that may be folded, and which it goes into -/
def sp_fd (sg : mm_S) (a v : Nat) (to : Option Nat) : Prop := a < sp_n sg ∧ sp_th sg a v ∧ v ≠ 0 ∧ (∀ g, g < 4 → ¬ sg 10 (4 * a + g) = nI v) ∧ (∀ p, p < 12 → ¬ sg 13 (12 * a + p) = 0 → ¬ sg 14 (12 * a + p) = nI v) ∧ (∀ w, sp_th sg a w → sg 3 (16 * a + w) = nI v → to = some (16 * a + w)) ∧ ∀ y, to = some y → ∃ c, y = 16 * a + c ∧ sp_th sg a c ∧ sg 3 (16 * a + c) = nI v ∧ v < c
theorem ca_hd2_no {sg : mm_S} {s v : Nat} : ∀ n, ca_hd2 sg s v n = false → ∀ g, g < n → ¬ sg 10 (4 * s + g) = nI v
  | 0, _, g, hg => absurd hg (Nat.not_lt_zero g)
  | n + 1, h, g, hg => by
    have h2 : (ca_hd2 sg s v n || decide (sg 10 (4 * s + n) = nI v)) = false := h
    rw [Bool.or_eq_false_iff] at h2
    by_cases z : g = n
    · rw [z]; exact of_decide_eq_false h2.2
    · exact ca_hd2_no n h2.1 g (by omega)
theorem ca_td_no {sg : mm_S} {s v : Nat} : ∀ n, ca_td sg s v n = false → ∀ p, p < n → ¬ sg 13 (12 * s + p) = 0 → ¬ sg 14 (12 * s + p) = nI v
  | 0, _, p, hp => absurd hp (Nat.not_lt_zero p)
  | n + 1, h, p, hp => by
    have h2 : (ca_td sg s v n || (!decide (sg 13 (12 * s + n) = 0) && decide (sg 14 (12 * s + n) = nI v))) = false := h
    rw [Bool.or_eq_false_iff] at h2
    by_cases z : p = n
    · rw [z]
      intro h0 h1
      rw [decide_eq_false h0, decide_eq_true h1] at h2
      exact absurd h2.2 (by decide)
    · exact ca_td_no n h2.1 p (by omega)
theorem sp_fd_of {sg : mm_S} (hI : sp_I sg) {a v : Nat} (ha : a < sp_n sg) (hv : sp_th sg a v) (h : sp_need sg a v = false) : sp_fd sg a v (sp_toO sg a v) := by
  have hv16 := hv.1
  unfold sp_need at h
  rw [Bool.or_eq_false_iff, sp_ndA_td, Bool.or_eq_false_iff, sp_ndH_hd, Bool.or_eq_false_iff] at h
  obtain ⟨⟨⟨h0, h1⟩, h2⟩, h3⟩ := h
  have h3 := of_decide_eq_false h3
  refine ⟨ha, hv, fun z => of_decide_eq_false h0 (by rw [z]; rfl), ca_hd2_no 4 h1, ca_td_no 12 h2, fun w hw hp => ?_, fun y hy => ?_⟩
  · have w16 := hw.1
    have hch : sp_isCh sg a v w = true := by rw [sp_isCh_th hI ha hv16 hw]; exact decide_eq_true hp
    have e0 : sp_ch sg a v w = -1 := by
      by_cases z : sp_ch sg a v w = -1
      · exact z
      · have e1 : sp_ch sg a v (w + 1) = -2 := by rw [sp_ch, if_pos hch, if_neg z]
        rcases sp_ch_mono (sg := sg) (s := a) (v := v) (k := w + 1) (by rw [e1]; decide) (16 - (w + 1)) with q | q
        · rw [show w + 1 + (16 - (w + 1)) = 16 by omega, e1] at q; exact absurd q h3
        · rw [show w + 1 + (16 - (w + 1)) = 16 by omega] at q; exact absurd q h3
    have e1 : sp_ch sg a v (w + 1) = nI w := by rw [sp_ch, if_pos hch, if_pos e0]
    unfold sp_toO sp_chO
    rcases sp_ch_mono (sg := sg) (s := a) (v := v) (k := w + 1) (by rw [e1]; exact nI_m1 (by omega)) (16 - (w + 1)) with q | q
    · rw [show w + 1 + (16 - (w + 1)) = 16 by omega, e1] at q
      rw [q, if_neg (nI_m1 (by omega)), if_neg (nI_m2 (by omega)), show nN (nI w) = w from nI_clamp (by omega)]
      rfl
    · rw [show w + 1 + (16 - (w + 1)) = 16 by omega] at q; exact absurd q h3
  · unfold sp_toO at hy
    cases hq : sp_chO sg a v with
    | none => rw [hq] at hy; cases hy
    | some c =>
      rw [hq] at hy
      have h1 : ¬ sp_ch sg a v 16 = -1 := fun z => by unfold sp_chO at hq; rw [if_pos z] at hq; cases hq
      obtain ⟨c2, c1, -, c3, c4⟩ := sp_ch_one h1 h3
      have e2 : c2 = c := Option.some.inj (c4.symm.trans hq)
      subst e2
      obtain ⟨t1, -⟩ := sp_isCh_own hI ha hv16 c1 c3
      have hp : sg 3 (16 * a + c2) = nI v := by rw [sp_isCh_th hI ha hv16 t1] at c3; exact of_decide_eq_true c3
      refine ⟨c2, (Option.some.inj hy).symm, t1, hp, ?_⟩
      rcases (hI.i3 a ha).2 c2 t1 with ⟨-, r, -⟩ | ⟨u, g, r1, r2, r3, -⟩
      · rw [r] at hp; exact absurd hp.symm (nI_m1 (by omega))
      · have u16 := r3.1
        rw [r2] at hp
        have := (nI_eq (by omega) (by omega)).mp hp
        omega
/-- the state behind a fold -/
def sp_fdF (sg : mm_S) (a v : Nat) (to : Option Nat) : mm_S := mm_up (sp_par (sp_fdS sg (16 * a + v) to 5) (16 * a + v) to) 2 (16 * a + v) 0
section FD2
variable {sg : mm_S} {a v : Nat} {to : Option Nat}
theorem sp_fdF_j {j : Nat} (h : ¬ (j = 2 ∨ j = 3 ∨ j = 6 ∨ j = 7 ∨ j = 8 ∨ j = 9)) : sp_fdF sg a v to j = sg j := by
  unfold sp_fdF sp_par
  rw [mm_up_j (by omega)]
  cases to with
  | none => exact sp_fdS_j (by omega) 5
  | some t =>
    dsimp only
    rw [mm_up_j (by omega)]
    exact sp_fdS_j (by omega) 5
theorem sp_par_n {sg' : mm_S} {f : Nat} {j : Nat} (h : j ≠ 3) : sp_par sg' f to j = sg' j := by
  unfold sp_par
  cases to with
  | none => rfl
  | some t => exact mm_up_j h
theorem sp_fdF_2 : sp_fdF sg a v to 2 = mm_up sg 2 (16 * a + v) 0 2 := by
  unfold sp_fdF
  funext y
  unfold mm_up
  rw [sp_par_n (by decide), sp_fdS_j (by decide)]
theorem sp_fdF_3 (y : Nat) : sp_fdF sg a v to 3 y = if to = some y then sg 3 (16 * a + v) else sg 3 y := by
  unfold sp_fdF sp_par
  rw [mm_up_j (by decide)]
  cases to with
  | none => rw [if_neg (fun z => by cases z)]; exact congrFun (sp_fdS_j (by decide) 5) y
  | some t =>
    dsimp only
    by_cases z : y = t
    · rw [z, mm_up_s, if_pos rfl, sp_fdS_j (by decide)]
    · rw [mm_up_x z, if_neg (fun q => z (Option.some.inj q).symm), sp_fdS_j (by decide)]
theorem sp_fdF_6 (hne : to ≠ some (16 * a + v)) (y : Nat) : sp_fdF sg a v to 6 y = if y / 5 = 16 * a + v then 4 else if to = some (y / 5) ∧ sg 6 y = 4 then sg 6 (5 * (16 * a + v) + y % 5) else sg 6 y := by
  unfold sp_fdF
  rw [mm_up_j (by decide), sp_par_n (by decide), (sp_fdS_v hne 5 (Nat.le_refl _)).1]
  by_cases z : y / 5 = 16 * a + v
  · rw [if_pos z, if_pos ⟨z, by omega⟩]
  · rw [if_neg z, if_neg (fun q => z q.1)]
    by_cases w : to = some (y / 5) ∧ sg 6 y = 4
    · rw [if_pos w, if_pos ⟨w.1, by omega, w.2⟩]
    · rw [if_neg w, if_neg (fun q => w ⟨q.1, q.2.2⟩)]
theorem sp_fdF_r (hne : to ≠ some (16 * a + v)) {j : Nat} (h : j = 7 ∨ j = 8 ∨ j = 9) (y : Nat) : sp_fdF sg a v to j y = if to = some (y / 5) ∧ sg 6 y = 4 then sg j (5 * (16 * a + v) + y % 5) else sg j y := by
  unfold sp_fdF
  rw [mm_up_j (by omega), sp_par_n (by omega), (sp_fdS_v hne 5 (Nat.le_refl _)).2 j y h]
  by_cases w : to = some (y / 5) ∧ sg 6 y = 4
  · rw [if_pos w, if_pos ⟨w.1, by omega, w.2⟩]
  · rw [if_neg w, if_neg (fun q => w ⟨q.1, q.2.2⟩)]
theorem sp_fd.ne (h : sp_fd sg a v to) : to ≠ some (16 * a + v) := fun z => by
  obtain ⟨c, h1, -, -, h4⟩ := h.2.2.2.2.2.2 _ z
  omega
theorem sp_fdF_n : sp_n (sp_fdF sg a v to) = sp_n sg := by unfold sp_n; rw [sp_fdF_j (by decide)]
theorem sp_fdF_th {s w : Nat} : sp_th (sp_fdF sg a v to) s w ↔ sp_th sg s w ∧ 16 * s + w ≠ 16 * a + v := by
  unfold sp_th
  rw [sp_fdF_2]
  by_cases z : 16 * s + w = 16 * a + v
  · rw [z, mm_up_s]
    exact ⟨fun q => absurd rfl q.2, fun q => absurd rfl q.2⟩
  · rw [mm_up_x z]
    exact ⟨fun q => ⟨q, z⟩, fun q => q.1⟩
theorem sp_I.fold (hI : sp_I sg) (h : sp_fd sg a v to) : sp_I (sp_fdF sg a v to) := by
  have hne := h.ne
  obtain ⟨ha, hv, hv0, hh, ht, hc, hc2⟩ := h
  have ha4 := cr_n4 hI ha
  have hv16 := hv.1
  refine ⟨?_, fun s hs => ?_, fun s hs => ?_, ?_, fun s w t hs hw htt => ?_, fun e he => ?_, fun s g hs hg => ?_, fun s p hs hp => ?_, ?_, ?_⟩
  · unfold sp_I1; rw [sp_fdF_n, sp_fdF_j (by decide)]; exact hI.i1
  · rw [sp_fdF_n] at hs
    rw [sp_fdF_j (by decide)]
    obtain ⟨m, m1, m2, m3, m4⟩ := hI.i2 s hs
    exact ⟨m, m1, m2, m3, fun w hw => m4 w (sp_fdF_th.mp hw).1⟩
  · rw [sp_fdF_n] at hs
    refine ⟨sp_fdF_th.mpr ⟨(hI.i3 s hs).1, by omega⟩, fun w hw => ?_⟩
    obtain ⟨w1, w2⟩ := sp_fdF_th.mp hw
    have w16 := w1.1
    rw [sp_fdF_3, sp_fdF_j (j := 4) (by decide)]
    by_cases z : to = some (16 * s + w)
    · rw [if_pos z]
      obtain ⟨c, e1, e2, e3, e4⟩ := hc2 _ z
      have c16 := e2.1
      have es : s = a := by omega
      have ec : w = c := by omega
      subst es; subst ec
      rcases (hI.i3 s ha).2 v hv with ⟨q, -⟩ | ⟨u, g, q1, q2, q3, q4, q5⟩
      · exact absurd q hv0
      · have u16 := q3.1
        rcases (hI.i3 s ha).2 w w1 with ⟨q, -⟩ | ⟨u', g', r1, r2, r3, r4, r5⟩
        · omega
        · exact Or.inr ⟨u, g', by omega, q2, sp_fdF_th.mpr ⟨q3, by omega⟩, r4, r5⟩
    · rw [if_neg z]
      rcases (hI.i3 s hs).2 w w1 with q | ⟨u, g, q1, q2, q3, q4, q5⟩
      · exact Or.inl q
      · refine Or.inr ⟨u, g, q1, q2, sp_fdF_th.mpr ⟨q3, fun y => ?_⟩, q4, q5⟩
        have u16 := q3.1
        have es : s = a := by omega
        have eu : u = v := by omega
        subst es; subst eu
        exact z (hc w w1 q2)
  · refine ⟨fun y hy => ?_, ?_⟩
    · rw [sp_fdF_2]
      by_cases z : y = 16 * a + v
      · rw [z, mm_up_s]; exact Or.inl rfl
      · rw [mm_up_x z]; exact hI.i4.1 y hy
    · rw [sp_fdF_j (j := 11) (by decide), sp_fdF_j (j := 17) (by decide)]
      exact hI.i4.2
  · obtain ⟨a1, a2, a3⟩ := hI.i5 s w t hs hw htt
    have e5 : sp_e s w t / 5 = 16 * s + w := by unfold sp_e; omega
    have em : sp_e s w t % 5 = t := by unfold sp_e; omega
    rw [sp_fdF_6 hne, sp_fdF_2, e5, em]
    by_cases z : 16 * s + w = 16 * a + v
    · rw [if_pos z]
      exact ⟨⟨4, by decide, rfl⟩, fun _ => rfl, fun _ => rfl⟩
    · rw [if_neg z, mm_up_x z]
      by_cases y : to = some (16 * s + w) ∧ sg 6 (sp_e s w t) = 4
      · rw [if_pos y]
        obtain ⟨c, e1, e2, e3, e4⟩ := hc2 _ y.1
        have c16 := e2.1
        have es : s = a := by omega
        have ec : w = c := by omega
        subst es; subst ec
        obtain ⟨b1, b2, b3⟩ := hI.i5 s v t ha4 hv16 htt
        exact ⟨b1, fun q => absurd q e2.2, fun q => by omega⟩
      · rw [if_neg y]
        exact ⟨a1, a2, a3⟩
  · rw [sp_fdF_6 hne, sp_fdF_r hne (Or.inl rfl), sp_fdF_r hne (by omega), sp_fdF_r hne (by omega)]
    by_cases z : e / 5 = 16 * a + v
    · rw [if_pos z]
      exact ⟨fun q => absurd q (by decide), fun q => absurd q (by decide), fun q => absurd q (by decide)⟩
    · rw [if_neg z]
      by_cases y : to = some (e / 5) ∧ sg 6 e = 4
      · rw [if_pos y, if_pos y, if_pos y, if_pos y]
        exact hI.i6 _ (by omega)
      · rw [if_neg y, if_neg y, if_neg y, if_neg y]
        exact hI.i6 e he
  · rw [sp_fdF_n] at hs
    rw [sp_fdF_j (by decide)]
    obtain ⟨w, w1, w2⟩ := hI.i7 s g hs hg
    have w16 := w2.1
    refine ⟨w, w1, sp_fdF_th.mpr ⟨w2, fun y => ?_⟩⟩
    have es : s = a := by omega
    have ew : w = v := by omega
    subst es; subst ew
    exact hh g hg w1
  · rw [sp_fdF_n, sp_fdF_j (j := 13) (by decide), sp_fdF_j (j := 14) (by decide), sp_fdF_j (j := 17) (by decide), sp_fdF_j (j := 19) (by decide), sp_fdF_j (j := 20) (by decide)]
    rcases hI.i9 s p hs hp with q | ⟨q1, q2, w, w1, w2⟩
    · exact Or.inl q
    · have w16 := w2.1
      refine Or.inr ⟨q1, q2, w, w1, sp_fdF_th.mpr ⟨w2, fun y => ?_⟩⟩
      have es : s = a := by omega
      have ew : w = v := by omega
      subst es; subst ew
      exact ht p hp (by rcases q1 with q | q <;> rw [q] <;> decide) w1
  · unfold sp_I12; rw [sp_fdF_j (by decide), sp_fdF_j (by decide), sp_fdF_j (by decide), sp_fdF_j (by decide)]; exact hI.i12
  · unfold sp_I13; rw [sp_fdF_j (by decide)]; exact hI.i13
theorem sp_J.fold (hJ : sp_J sg) (ha : a < sp_n sg) (hv : v < 16) : sp_J (sp_fdF sg a v to) := by
  unfold sp_J
  rw [sp_fdF_n, sp_fdF_j (j := 13) (by decide), sp_fdF_j (j := 16) (by decide), sp_fdF_j (j := 10) (by decide), sp_fdF_j (j := 11) (by decide)]
  refine ⟨fun y hy hn => ?_, hJ.2⟩
  rw [sp_fdF_2, mm_up_x (by omega)]
  exact hJ.1 y hy hn
/-- who tells a task: the one folded into, where it was the folded one -/
def ca_mv (a v : Nat) (to : Option Nat) (s u : Nat) : Nat := if s = a ∧ u = v then (match to with | some y => y - 16 * a | none => u) else u
theorem sp_tel_fold (hI : sp_I sg) (h : sp_fd sg a v to) {s t : Nat} (hs : s < sp_n sg) (ht : t < 5) : ∀ (n w : Nat), w < n → sp_th sg s w → 16 * s + w ≠ 16 * a + v → sp_tel (sp_fdF sg a v to) s w t = (sp_tel sg s w t).map (ca_mv a v to s) := by
  intro n
  induction n with
  | zero => intro w hw; exact absurd hw (Nat.not_lt_zero w)
  | succ n ih =>
    intro w hw hth hne
    have hI' := hI.fold h
    have hto := h.ne
    have hs' : s < sp_n (sp_fdF sg a v to) := by rw [sp_fdF_n]; exact hs
    have hth' : sp_th (sp_fdF sg a v to) s w := sp_fdF_th.mpr ⟨hth, hne⟩
    have ha := h.1
    have hv := h.2.1
    have hv0 := h.2.2.1
    have hc := h.2.2.2.2.2.1
    have hc2 := h.2.2.2.2.2.2
    have w16 := hth.1
    have v16 := hv.1
    have e5 : sp_e s w t / 5 = 16 * s + w := by unfold sp_e; omega
    have em : sp_e s w t % 5 = t := by unfold sp_e; omega
    have f6 : sp_fdF sg a v to 6 (sp_e s w t) = if to = some (16 * s + w) ∧ sg 6 (sp_e s w t) = 4 then sg 6 (5 * (16 * a + v) + t) else sg 6 (sp_e s w t) := by
      rw [sp_fdF_6 hto, e5, em, if_neg hne]
    by_cases h4 : sg 6 (sp_e s w t) = 4
    · by_cases hm : to = some (16 * s + w)
      · obtain ⟨c, d1, d2, d3, d4⟩ := hc2 _ hm
        have c16 := d2.1
        have es : s = a := by omega
        have ec : w = c := by omega
        subst es; subst ec
        have hold : sp_tel sg s w t = sp_tel sg s v t := sp_tel_step hI hs hth h4 d3 hv d4
        rw [if_pos ⟨hm, h4⟩] at f6
        by_cases hv4 : sg 6 (sp_e s v t) = 4
        · have f4 : sp_fdF sg s v to 6 (sp_e s w t) = 4 := f6.trans hv4
          rcases (hI.i3 s ha).2 v hv with ⟨q, -⟩ | ⟨u, g, q1, q2, q3, -⟩
          · exact absurd q hv0
          · have u16 := q3.1
            have hu' : 16 * s + u ≠ 16 * s + v := by omega
            rw [hold, sp_tel_step hI hs hv hv4 q2 q3 q1]
            rw [sp_tel_step hI' hs' hth' f4 (by rw [sp_fdF_3, if_pos hm]; exact q2) (sp_fdF_th.mpr ⟨q3, hu'⟩) (by omega)]
            exact ih u (by omega) q3 hu'
        · rw [hold, sp_tel_here hv4, sp_tel_here (fun z => hv4 (f6.symm.trans z))]
          show some w = some (ca_mv s v to s v)
          unfold ca_mv
          rw [if_pos ⟨rfl, rfl⟩, hm]
          dsimp only
          congr 1
          omega
      · rw [if_neg (fun q => hm q.1)] at f6
        have f4 := f6.trans h4
        rcases (hI.i3 s hs).2 w hth with ⟨-, q, -⟩ | ⟨u, g, q1, q2, q3, -⟩
        · rw [sp_tel_root h4 q, sp_tel_root f4 (by rw [sp_fdF_3, if_neg hm]; exact q)]
          rfl
        · have u16 := q3.1
          have hu' : 16 * s + u ≠ 16 * a + v := fun y => by
            have es : s = a := by omega
            have eu : u = v := by omega
            subst es; subst eu
            exact hm (hc w hth q2)
          rw [sp_tel_step hI hs hth h4 q2 q3 q1, sp_tel_step hI' hs' hth' f4 (by rw [sp_fdF_3, if_neg hm]; exact q2) (sp_fdF_th.mpr ⟨q3, hu'⟩) q1]
          exact ih u (by omega) q3 hu'
    · rw [if_neg (fun q => h4 q.2)] at f6
      rw [sp_tel_here h4, sp_tel_here (fun z => h4 (f6.symm.trans z))]
      show some w = some (ca_mv a v to s w)
      unfold ca_mv
      rw [if_neg (fun q => hne (by rw [q.1, q.2]))]
end FD2
