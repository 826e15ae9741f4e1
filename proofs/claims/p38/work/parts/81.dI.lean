/-! folding: marks, prints and uses then; the memory then -/
section FD3
variable {sg : mm_S} {a v : Nat} {to : Option Nat}
theorem sp_tel_via (hI : sp_I sg) (h : sp_fd sg a v to) {t : Nat} (ht : t < 5) : ∀ (n w : Nat), w < n → sp_th sg a w → w ≠ v → sp_tel sg a w t = some v → ∃ c, to = some (16 * a + c) ∧ sg 6 (sp_e a c t) = 4
  | 0, w, hw, _, _, _ => absurd hw (Nat.not_lt_zero w)
  | n + 1, w, hw, hth, hne, hq => by
    by_cases h4 : sg 6 (sp_e a w t) = 4
    · rcases (hI.i3 a h.1).2 w hth with ⟨-, q, -⟩ | ⟨u, g, q1, q2, q3, -⟩
      · rw [sp_tel_root h4 q] at hq; cases hq
      · by_cases z : u = v
        · exact ⟨w, h.2.2.2.2.2.1 w hth (by rw [q2, z]), h4⟩
        · rw [sp_tel_step hI h.1 hth h4 q2 q3 q1] at hq
          exact sp_tel_via hI h ht n u (by omega) q3 z hq
    · rw [sp_tel_here h4] at hq
      exact absurd (Option.some.inj hq) hne
theorem sp_ent_fold (hI : sp_I sg) (h : sp_fd sg a v to) {s w u t : Nat} (hs : s < sp_n sg) (ht : t < 5) (hw : sp_th sg s w) (hne : 16 * s + w ≠ 16 * a + v) (hq : sp_tel sg s w t = some u) {j : Nat} (hj : j = 6 ∨ j = 7 ∨ j = 8 ∨ j = 9) : sp_fdF sg a v to j (sp_e s (ca_mv a v to s u) t) = sg j (sp_e s u t) := by
  obtain ⟨u1, -, u3⟩ := sp_tel_some hI hs hw hq
  have u16 := u1.1
  have w16 := hw.1
  have v16 := h.2.1.1
  by_cases z : s = a ∧ u = v
  · obtain ⟨rfl, rfl⟩ := z
    obtain ⟨c, c1, c2⟩ := sp_tel_via hI h ht (w + 1) w (Nat.lt_succ_self w) hw (fun q => hne (by rw [q])) hq
    obtain ⟨c', d1, d2, d3, d4⟩ := h.2.2.2.2.2.2 _ c1
    have c16 := d2.1
    have ec : c = c' := by omega
    have em : ca_mv s u to s u = c := by
      unfold ca_mv
      rw [if_pos ⟨rfl, rfl⟩, c1]
      dsimp only
      omega
    have e5 : sp_e s c t / 5 = 16 * s + c := by unfold sp_e; omega
    have e6 : sp_e s c t % 5 = t := by unfold sp_e; omega
    rw [em]
    rcases (show j = 6 ∨ (j = 7 ∨ j = 8 ∨ j = 9) by omega) with rfl | hj
    · rw [sp_fdF_6 h.ne, e5, e6, if_neg (by omega), if_pos ⟨c1, c2⟩]
      rfl
    · rw [sp_fdF_r h.ne hj, e5, e6, if_pos ⟨c1, c2⟩]
      rfl
  · have em : ca_mv a v to s u = u := if_neg z
    have e5 : sp_e s u t / 5 = 16 * s + u := by unfold sp_e; omega
    rw [em]
    rcases (show j = 6 ∨ (j = 7 ∨ j = 8 ∨ j = 9) by omega) with rfl | hj
    · rw [sp_fdF_6 h.ne, e5, if_neg (fun q => z (by omega)), if_neg (fun q => u3 q.2)]
    · rw [sp_fdF_r h.ne hj, if_neg (fun q => u3 q.2)]
theorem sp_has_fold (hI : sp_I sg) (h : sp_fd sg a v to) {s w t : Nat} (hs : s < sp_n sg) (ht : t < 5) (hw : sp_th sg s w) (hne : 16 * s + w ≠ 16 * a + v) : sp_has (sp_fdF sg a v to) s w t = (sp_has sg s w t).map (ca_mv a v to s) := by
  unfold sp_has
  rw [sp_tel_fold hI h hs ht (w + 1) w (Nat.lt_succ_self w) hw hne]
  cases hq : sp_tel sg s w t with
  | none => rfl
  | some u =>
    dsimp only [Option.map]
    rw [sp_ent_fold hI h hs ht hw hne hq (Or.inl rfl)]
    by_cases z : sg 6 (sp_e s u t) = 3
    · rw [if_pos z, if_pos z]
    · rw [if_neg z, if_neg z]
theorem sp_fd.tied (hI : sp_I sg) (h : sp_fd sg a v to) {k w : Nat} (hk : k < 48) (h0 : ¬ sg 13 k = 0) (hw : sg 14 k = nI w) (hth : sp_th sg (k / 12) w) : 16 * (k / 12) + w ≠ 16 * a + v := fun z => by
  have w16 := hth.1
  have v16 := h.2.1.1
  have e1 : k / 12 = a := by omega
  have e2 : w = v := by omega
  have := h.2.2.2.2.1 (k % 12) (by omega)
  rw [show 12 * a + k % 12 = k by omega] at this
  exact this h0 (by rw [hw, e2])
theorem sp_due_fold (hI : sp_I sg) (h : sp_fd sg a v to) {k : Nat} (hk : k < 48) (h0 : ¬ sg 13 k = 0) : sp_due (sp_fdF sg a v to) k = sp_due sg k := by
  obtain ⟨hks, w, hw, hth⟩ := sp_handed hI hk h0
  have hw16 := hth.1
  have hne := h.tied hI hk h0 hw hth
  refine sp_is_congr 5 (fun t ht => ?_)
  unfold sp_dueT
  rw [sp_fdF_j (j := 14) (by decide), hw, show nN (nI w) = w from nI_clamp (by omega), sp_has_fold hI h hks ht hth hne]
  cases hu : sp_has sg (k / 12) w t with
  | none => rfl
  | some u =>
    dsimp only [Option.map]
    have ht2 := sp_has_tel hu
    unfold sp_gain sp_com
    rw [sp_ent_fold hI h hks ht hth hne ht2 (Or.inl rfl), sp_ent_fold hI h hks ht hth hne ht2 (j := 7) (by omega), sp_ent_fold hI h hks ht hth hne ht2 (j := 8) (by omega), sp_ent_fold hI h hks ht hth hne ht2 (j := 9) (by omega), sp_fdF_j (j := 17) (by decide), sp_fdF_j (j := 18) (by decide), sp_fdF_j (j := 19) (by decide), sp_fdF_j (j := 20) (by decide), sp_fdF_j (j := 21) (by decide)]
theorem sp_layL_fold (hI : sp_I sg) (h : sp_fd sg a v to) {k : Nat} (hk : k < 48) (h0 : ¬ sg 13 k = 0) : ∀ t, t ≤ 5 → sp_layL (sp_fdF sg a v to) k t = sp_layL sg k t
  | 0, _ => rfl
  | t + 1, ht => by
    obtain ⟨hks, w, hw, hth⟩ := sp_handed hI hk h0
    have hw16 := hth.1
    have hne := h.tied hI hk h0 hw hth
    show sp_layT (sp_fdF sg a v to) k t (sp_layL (sp_fdF sg a v to) k t) = sp_layT sg k t (sp_layL sg k t)
    rw [sp_layL_fold hI h hk h0 t (by omega)]
    have eI : ∀ rl j l i, sp_layI (sp_fdF sg a v to) rl j l i = sp_layI sg rl j l i := fun rl j l i => by
      induction i with
      | zero => rfl
      | succ i ih =>
        unfold sp_layI
        rw [ih, show sp_pt (sp_fdF sg a v to) j i = sp_pt sg j i by unfold sp_pt; rw [sp_fdF_j (j := 21) (by decide)]]
    unfold sp_layT
    rw [sp_fdF_j (j := 14) (by decide), hw, show nN (nI w) = w from nI_clamp (by omega), sp_has_fold hI h hks (by omega) hth hne]
    cases hu : sp_has sg (k / 12) w t with
    | none => rfl
    | some u =>
      dsimp only [Option.map]
      have ht2 := sp_has_tel hu
      rw [sp_ent_fold hI h hks (by omega) hth hne ht2 (Or.inl rfl), sp_ent_fold hI h hks (by omega) hth hne ht2 (j := 8) (by omega), sp_fdF_j (j := 20) (by decide), eI]
theorem cr_ok_fold {ta ta' : mm_S} (hI : sp_I sg) (hok : cr_ok sg ta) (h : sp_fd sg a v to) (hu : ∀ g, g < 4 → ta' 0 g = sp_used (sp_fdF sg a v to) (nI g)) (ht : ∀ j, j ≠ 0 → ta' j = ta j) : cr_ok (sp_fdF sg a v to) ta' := by
  have e13 : sp_fdF sg a v to 13 = sg 13 := sp_fdF_j (by decide)
  refine ⟨hu, fun k hk h2 => ?_, fun k hk h0 => ?_, ?_⟩
  · rw [e13] at h2
    rw [ht 1 (by decide), sp_due_fold hI h hk (by rw [h2]; decide)]
    exact hok.2.1 k hk h2
  · rw [e13] at h0
    refine cr_K.ok ?_
    rw [show sp_prs (sp_fdF sg a v to) k = sp_prs sg k by unfold sp_prs; rw [e13, sp_fdF_j (j := 15) (by decide), sp_layL_fold hI h hk h0 5 (Nat.le_refl _)]]
    exact (hok.K hk h0).congr (by rw [ht 2 (by decide)]) (fun i _ => by rw [ht 3 (by decide)])
  · show cr_o2 (sp_fdF sg a v to) ta'
    unfold cr_o2
    rw [sp_fdF_j (j := 17) (by decide), sp_fdF_j (j := 18) (by decide), sp_fdF_j (j := 20) (by decide), sp_fdF_j (j := 21) (by decide)]
    exact hok.o2.congr (ht 8 (by decide)) (ht 4 (by decide))
/-- what a version takes for a group -/
def cr_bk (sg : mm_S) (g : Int32) (y : Nat) : Int32 := if sg 2 y = 0 then 0 else if sg 4 y = g then sp_pass sg y none false else 0
theorem cr_bk_sum (sg : mm_S) (g : Int32) : sp_is (sp_usE sg g) 320 = sp_is (cr_bk sg g) 64 := by
  rw [show (320 : Nat) = 5 * 64 from rfl, sp_is_mul]
  refine sp_is_congr 64 (fun y _ => ?_)
  unfold cr_bk
  rw [sp_pass_all]
  have e : ∀ t, t < 5 → sp_usE sg g (5 * y + t) = if sg 2 y = 0 then 0 else if sg 4 y = g then sp_cost sg (5 * y + t) else 0 := fun t ht => by
    unfold sp_usE
    rw [show (5 * y + t) / 5 = y by omega]
  rw [sp_is_congr 5 e]
  by_cases h2 : sg 2 y = 0
  · rw [if_pos h2]
    exact sp_is_zero 5 (fun t _ => if_pos h2)
  · rw [if_neg h2]
    by_cases h4 : sg 4 y = g
    · rw [if_pos h4]
      exact sp_is_congr 5 (fun t _ => by rw [if_neg h2, if_pos h4])
    · rw [if_neg h4]
      exact sp_is_zero 5 (fun t _ => by rw [if_neg h2, if_neg h4])
theorem sp_pass_sum (sg : mm_S) (f : Nat) (to : Option Nat) : sp_pass sg f none false = sp_pass sg f to true + sp_pass sg f to false := by
  unfold sp_pass
  rw [← sp_is_sum]
  refine sp_is_congr 5 (fun k _ => ?_)
  cases h : sp_goes sg to k with
  | true => rw [if_pos (show sp_goes sg none k = false from rfl), if_pos rfl, if_neg (by decide), Int32.add_zero]
  | false => rw [if_pos (show sp_goes sg none k = false from rfl), if_neg (by decide), if_pos rfl, Int32.zero_add]
/-- what the one folded into takes on, for a group -/
def cr_mvd (sg : mm_S) (x : Nat) (g : Int32) : Option Nat → Int32
  | none => 0
  | some y => if sg 4 y = g then sp_pass sg x (some y) true else 0
theorem sp_used_fold (hI : sp_I sg) (h : sp_fd sg a v to) (g : Int32) : sp_used (sp_fdF sg a v to) g = sp_used sg g + (cr_mvd sg (16 * a + v) g to + (if sg 4 (16 * a + v) = g then -sp_pass sg (16 * a + v) none false else 0)) := by
  have hne := h.ne
  have ha4 := cr_n4 hI h.1
  have v16 := h.2.1.1
  have hX : 16 * a + v < 64 := by omega
  have h2X := h.2.1.2
  unfold sp_used
  rw [sp_is_congr (f := sp_usA (sp_fdF sg a v to) g) (g := sp_usA sg g) 48 (fun k _ => by
    unfold sp_usA sp_taken
    rw [sp_is_congr (f := fun t => sp_tk (sp_fdF sg a v to) (5 * k + t)) (g := fun t => sp_tk sg (5 * k + t)) 5 (fun t _ => by unfold sp_tk; rw [sp_fdF_j (j := 17) (by decide), sp_fdF_j (j := 19) (by decide), sp_fdF_j (j := 20) (by decide)])])]
  rw [cr_bk_sum, cr_bk_sum, Int32.add_assoc, Int32.add_comm (sp_is (sp_usA sg g) 48), ← Int32.add_assoc]
  refine congrArg (fun x => x + sp_is (sp_usA sg g) 48) ?_
  have eX : cr_bk (sp_fdF sg a v to) g (16 * a + v) = 0 := by
    unfold cr_bk
    rw [sp_fdF_2, mm_up_s, if_pos rfl]
  have bX : cr_bk sg g (16 * a + v) = if sg 4 (16 * a + v) = g then sp_pass sg (16 * a + v) none false else 0 := if_neg h2X
  have same : ∀ y, y ≠ 16 * a + v → to ≠ some y → cr_bk (sp_fdF sg a v to) g y = cr_bk sg g y := fun y h1 h2 => by
    unfold cr_bk
    rw [sp_fdF_2, mm_up_x h1, sp_fdF_j (j := 4) (by decide), sp_pass_all, sp_pass_all]
    rw [sp_is_congr (f := fun t => sp_cost (sp_fdF sg a v to) (5 * y + t)) (g := fun t => sp_cost sg (5 * y + t)) 5 (fun t ht => by
      have e5 : (5 * y + t) / 5 = y := by omega
      have hn : ¬ (to = some y ∧ sg 6 (5 * y + t) = 4) := fun q => h2 q.1
      have f6 : sp_fdF sg a v to 6 (5 * y + t) = sg 6 (5 * y + t) := by rw [sp_fdF_6 hne, e5, if_neg h1, if_neg hn]
      have f8 : sp_fdF sg a v to 8 (5 * y + t) = sg 8 (5 * y + t) := by rw [sp_fdF_r hne (j := 8) (by omega), e5, if_neg hn]
      unfold sp_cost
      rw [f6, f8])]
  cases to with
  | none =>
    dsimp only [cr_mvd]
    rw [Int32.zero_add, sp_is_one (f := cr_bk sg g) (f' := cr_bk (sp_fdF sg a v none) g) (e := 16 * a + v) (fun y hy => same y hy (by intro q; cases q)) 64 hX, eX, bX, Int32.zero_sub]
    by_cases z : sg 4 (16 * a + v) = g
    · rw [if_pos z, if_pos z]
    · rw [if_neg z, if_neg z]; rfl
  | some y =>
    dsimp only [cr_mvd]
    obtain ⟨c, c1, c2, c3, c4⟩ := h.2.2.2.2.2.2 y rfl
    have c16 := c2.1
    have hY : y < 64 := by omega
    have hXY : 16 * a + v ≠ y := by omega
    have eY : cr_bk (sp_fdF sg a v (some y)) g y = cr_bk sg g y + (if sg 4 y = g then sp_pass sg (16 * a + v) (some y) true else 0) := by
      have h2Y : ¬ sg 2 y = 0 := by rw [c1]; exact c2.2
      unfold cr_bk
      rw [sp_fdF_2, mm_up_x hXY.symm, sp_fdF_j (j := 4) (by decide), if_neg h2Y, if_neg h2Y]
      by_cases z : sg 4 y = g
      · rw [if_pos z, if_pos z, if_pos z, sp_pass_all, sp_pass_all]
        unfold sp_pass
        rw [← sp_is_sum]
        refine sp_is_congr 5 (fun t ht => ?_)
        have e5 : (5 * y + t) / 5 = y := by omega
        have e6 : (5 * y + t) % 5 = t := by omega
        by_cases w : sg 6 (5 * y + t) = 4
        · rw [show sp_goes sg (some y) t = true from decide_eq_true w, if_pos rfl, sp_cost_4 w, Int32.zero_add]
          unfold sp_cost
          have f6 : sp_fdF sg a v (some y) 6 (5 * y + t) = sg 6 (5 * (16 * a + v) + t) := by rw [sp_fdF_6 hne, e5, e6, if_neg hXY.symm, if_pos (show some y = some y ∧ sg 6 (5 * y + t) = 4 from ⟨rfl, w⟩)]
          have f8 : sp_fdF sg a v (some y) 8 (5 * y + t) = sg 8 (5 * (16 * a + v) + t) := by rw [sp_fdF_r hne (j := 8) (by omega), e5, e6, if_pos (show some y = some y ∧ sg 6 (5 * y + t) = 4 from ⟨rfl, w⟩)]
          rw [f6, f8]
        · rw [show sp_goes sg (some y) t = false from decide_eq_false w, if_neg (by decide), Int32.add_zero]
          unfold sp_cost
          have f6 : sp_fdF sg a v (some y) 6 (5 * y + t) = sg 6 (5 * y + t) := by rw [sp_fdF_6 hne, e5, if_neg hXY.symm, if_neg (show ¬ (some y = some y ∧ sg 6 (5 * y + t) = 4) from fun q => w q.2)]
          have f8 : sp_fdF sg a v (some y) 8 (5 * y + t) = sg 8 (5 * y + t) := by rw [sp_fdF_r hne (j := 8) (by omega), e5, if_neg (show ¬ (some y = some y ∧ sg 6 (5 * y + t) = 4) from fun q => w q.2)]
          rw [f6, f8]
      · rw [if_neg z, if_neg z, if_neg z, Int32.add_zero]
    rw [sp_is_one (f := fun x => if x = 16 * a + v then 0 else cr_bk sg g x) (f' := cr_bk (sp_fdF sg a v (some y)) g) (e := y) (fun x hx => ?_) 64 hY]
    · rw [sp_is_one (f := cr_bk sg g) (f' := fun x => if x = 16 * a + v then 0 else cr_bk sg g x) (e := 16 * a + v) (fun x hx => if_neg hx) 64 hX]
      rw [if_pos rfl, if_neg hXY.symm, eY, bX, Int32.zero_sub, Int32.add_comm (cr_bk sg g y), Int32.add_sub_cancel, Int32.add_assoc]
      congr 1
      rw [Int32.add_comm]
      congr 1
      by_cases z : sg 4 (16 * a + v) = g
      · rw [if_pos z, if_pos z]
      · rw [if_neg z, if_neg z]; rfl
    · by_cases z : x = 16 * a + v
      · rw [if_pos z, z, eX]
      · rw [if_neg z, same x z (fun q => hx (Option.some.inj q).symm)]
/-- small numbers -/
def ca_cN (sg : mm_S) (e : Nat) : Nat := if sg 6 e = 4 then 0 else if sg 6 e = 0 then 2 else if sg 6 e = 2 then sp_len (sg 8 e) else 1
theorem ca_cN_is (sg : mm_S) (e : Nat) : sp_cost sg e = nI (ca_cN sg e) ∧ ca_cN sg e ≤ 6 := by
  unfold sp_cost ca_cN
  have := sp_len_le (sg 8 e)
  split
  · exact ⟨rfl, by omega⟩
  · split
    · exact ⟨rfl, by omega⟩
    · split
      · exact ⟨rfl, this⟩
      · exact ⟨rfl, by omega⟩
theorem ca_sumN {F : Nat → Int32} {G : Nat → Nat} (h : ∀ k, F k = nI (G k) ∧ G k ≤ 6) : ∀ n, ∃ N, sp_is F n = nI N ∧ N ≤ 6 * n
  | 0 => ⟨0, rfl, Nat.le_refl 0⟩
  | n + 1 => by
    obtain ⟨N, h1, h2⟩ := ca_sumN h n
    exact ⟨N + G n, by rw [sp_is, h1, (h n).1, nI_add], by have := (h n).2; omega⟩
theorem sp_pass_N (sg : mm_S) (f : Nat) (to : Option Nat) (b : Bool) : ∃ N, sp_pass sg f to b = nI N ∧ N ≤ 30 := ca_sumN (G := fun k => if sp_goes sg to k = b then ca_cN sg (5 * f + k) else 0) (fun k => by
  by_cases z : sp_goes sg to k = b
  · rw [if_pos z, if_pos z]; exact ca_cN_is sg _
  · rw [if_neg z, if_neg z]; exact ⟨rfl, by omega⟩) 5
theorem sp_moved_le (sg : mm_S) (f : Nat) (to : Option Nat) : sp_pass sg f to true - sp_pass sg f none false ≤ 0 := by
  obtain ⟨m, m1, m2⟩ := sp_pass_N sg f to true
  obtain ⟨r, r1, r2⟩ := sp_pass_N sg f to false
  rw [sp_pass_sum sg f to, m1, r1, nI_add, Int32.le_iff_toInt_le, Int32.toInt_sub, nI_toInt (by omega), nI_toInt (by omega), sl_bmod (by omega) (by omega)]
  show _ ≤ (0 : Int)
  omega
end FD3
theorem cr_cell_ad {cA : Nat → ClassId} {sg ta : mm_S} {ad ad' : Nat → Nat → Nat} (e : ∀ q, q ≠ 15 → ad' q = ad q) {q y : Nat} (hq : q ≠ 14) : cr_cell cA sg ta ad' q y = cr_cell cA sg ta ad q y := by
  unfold cr_cell
  rw [e 1 (by decide), e 2 (by decide), e 3 (by decide), e 4 (by decide), e 5 (by decide), e 6 (by decide), e 7 (by decide), e 8 (by decide), e 9 (by decide), e 10 (by decide), e 11 (by decide), e 12 (by decide), e 13 (by decide), e 14 (by decide), e 16 (by decide), e 17 (by decide), e 18 (by decide), e 19 (by decide), e 20 (by decide)]
  split <;> first | rfl | exact absurd rfl hq
section FDW
variable {C : hm_C} {k n : Nat} {Q : State → Prop} {M M0 : hm_M} {pc : Nat} {L : List (Option Value)} {st : List Value} {cA : Nat → ClassId} {sg ta ta' : mm_S} {ad : Nat → Nat → Nat} {a v : Nat} {to : Option Nat}
def cr_adF (sg : mm_S) (ad : Nat → Nat → Nat) (x : Nat) (to : Option Nat) : Nat → Nat → Nat := fun q z => if q = 15 ∧ to = some (z / 5) ∧ sg 6 z = 4 then ad 15 (5 * x + z % 5) else ad q z
def cr_kaF (sg : mm_S) (x : Nat) (to : Option Nat) (q z : Nat) : Nat := if q = 15 ∧ to = some (z / 5) ∧ sg 6 z = 4 then 5 * x + z % 5 else z
theorem cr_adF_ka {q z x : Nat} : cr_adF sg ad x to q z = ad q (cr_kaF sg x to q z) := by
  unfold cr_adF cr_kaF
  by_cases h : q = 15 ∧ to = some (z / 5) ∧ sg 6 z = 4
  · rw [if_pos h, if_pos h, h.1]
  · rw [if_neg h, if_neg h]
def cr_row (sg : mm_S) (ad : Nat → Nat → Nat) (y : Nat) : Nat → Option Nat := fun t => if sg 6 (5 * y + t) = 4 then none else some (ad 15 (5 * y + t))
theorem hr_fold (hI : sp_I sg) (hfd : sp_fd sg a v to) (h : cr_R cA sg ta ad M0 M) (ht : ∀ j, j ≠ 0 → ta' j = ta j) {M7 : hm_M}
    (m3 : M7 (ad 3 0) = some (cr_iw cA 0 4 (ta' 0))) (m9 : M7 (ad 9 a) = some (cr_rw cA 4 16 (va_up (fun w => if sg 2 (16 * a + w) = 0 then none else some (ad 13 (16 * a + w))) v none)))
    (m14 : ∀ y, to = some y → M7 (ad 14 y) = some (cr_rw cA 5 5 (fun t => if t < 5 ∧ cr_row sg ad y t = none then cr_row sg ad (16 * a + v) t else cr_row sg ad y t)) ∧ M7 (ad 13 y) = some (.inr (4, [.int (nI (y % 16)), .int (sg 4 y), va_rf ((cr_up sg (16 * a + v)).map (ad 13)), .ref (ad 14 y)])))
    (mo : ∀ q z e, cr_cell cA sg ta ad q z = some e → ¬ (q = 3 ∧ z = 0) → ¬ (q = 9 ∧ z = a) → (∀ y, to = some y → ¬ (q = 14 ∧ z = y) ∧ ¬ (q = 13 ∧ z = y)) → M7 (ad q z) = some e) (mf : ∀ b e, M0 b = some e → M7 b = some e)
    (kk : ∀ M2 : hm_M, cr_R cA (sp_fdF sg a v to) ta' (cr_adF sg ad (16 * a + v) to) M0 M2 → hm_W C k n Q M2 pc L st) : hm_W C k n Q M7 pc L st := by
  have hne := hfd.ne
  have hs := hfd.1
  have ha4 := cr_n4 hI hs
  have hth := hfd.2.1
  have v16 := hth.1
  have e1 : sp_fdF sg a v to 1 = sg 1 := sp_fdF_j (by decide)
  have adn : ∀ q, q ≠ 15 → cr_adF sg ad (16 * a + v) to q = ad q := fun q hq => funext fun z => if_neg (fun w => hq w.1)
  have hS : ∀ z, cr_isS (sp_fdF sg a v to) z = cr_isS sg z := fun z => cr_sm_S (congrFun e1 0) z
  have hK : ∀ z, cr_isK (sp_fdF sg a v to) z = cr_isK sg z := fun z => cr_sm_K (congrFun e1 0) z (by rw [sp_fdF_j (by decide)])
  have hV : ∀ z, cr_isV (sp_fdF sg a v to) z = true → z ≠ 16 * a + v ∧ cr_isV sg z = true := fun z hz => by
    unfold cr_isV sp_n at hz
    rw [e1, sp_fdF_2] at hz
    by_cases w : z = 16 * a + v
    · rw [w, mm_up_s] at hz
      rw [Bool.and_eq_true] at hz
      exact absurd hz.2 (by decide)
    · rw [mm_up_x w] at hz
      exact ⟨w, hz⟩
  -- an entry that lies then
  have hE : ∀ z, cr_isE (sp_fdF sg a v to) z = true → z / 5 ≠ 16 * a + v ∧ cr_isE sg (cr_kaF sg (16 * a + v) to 15 z) = true ∧ ∀ j, j = 6 ∨ j = 7 ∨ j = 8 ∨ j = 9 → sp_fdF sg a v to j z = sg j (cr_kaF sg (16 * a + v) to 15 z) := fun z hz => by
    unfold cr_isE sp_n at hz
    rw [e1, sp_fdF_6 hne, Bool.and_eq_true, decide_eq_true_eq, Bool.not_eq_true', decide_eq_false_iff_not] at hz
    have w : z / 5 ≠ 16 * a + v := fun w => hz.2 (if_pos w)
    rw [if_neg w] at hz
    by_cases c : to = some (z / 5) ∧ sg 6 z = 4
    · have ek : cr_kaF sg (16 * a + v) to 15 z = 5 * (16 * a + v) + z % 5 := if_pos ⟨rfl, c⟩
      rw [if_pos c] at hz
      refine ⟨w, ?_, fun j hj => ?_⟩
      · rw [ek]
        unfold cr_isE
        rw [show (5 * (16 * a + v) + z % 5) / 5 / 16 = a by omega, decide_eq_true hs, decide_eq_false hz.2]
        rfl
      · rw [ek]
        rcases (show j = 6 ∨ (j = 7 ∨ j = 8 ∨ j = 9) by omega) with rfl | hj
        · rw [sp_fdF_6 hne, if_neg w, if_pos c]
        · rw [sp_fdF_r hne hj, if_pos c]
    · have ek : cr_kaF sg (16 * a + v) to 15 z = z := if_neg (fun q => c q.2)
      rw [if_neg c] at hz
      refine ⟨w, ?_, fun j hj => ?_⟩
      · rw [ek]
        unfold cr_isE sp_n
        rw [decide_eq_true hz.1, decide_eq_false hz.2]
        rfl
      · rw [ek]
        rcases (show j = 6 ∨ (j = 7 ∨ j = 8 ∨ j = 9) by omega) with rfl | hj
        · rw [sp_fdF_6 hne, if_neg w, if_neg c]
        · rw [sp_fdF_r hne hj, if_neg c]
  -- what lies then lay before
  have key : ∀ q z e, cr_cell cA (sp_fdF sg a v to) ta' (cr_adF sg ad (16 * a + v) to) q z = some e → ∃ e2, cr_cell cA sg ta ad q (cr_kaF sg (16 * a + v) to q z) = some e2 := fun q z e he => by
    rcases Nat.lt_or_ge 20 q with hq | hq
    · rw [cr_cell_hi hq] at he; cases he
    by_cases q15 : q = 15
    · subst q15
      have hz : cr_isE (sp_fdF sg a v to) z = true := by
        by_cases w : cr_isE (sp_fdF sg a v to) z = true
        · exact w
        · have h2 : cr_ob (cr_isE (sp_fdF sg a v to) z) _ = some e := he
          unfold cr_ob at h2
          rw [if_neg w] at h2
          cases h2
      exact ⟨_, if_pos (hE z hz).2.1⟩
    have ek : cr_kaF sg (16 * a + v) to q z = z := if_neg (fun w => q15 w.1)
    rw [ek]
    have gd : ∀ (b b' : Bool) (y y' : va_E), cr_ob b y = some e → (b = true → b' = true) → ∃ e2, cr_ob b' y' = some e2 := fun b b' y y' hb hbb => by
      unfold cr_ob at hb
      split at hb
      · next w => exact ⟨y', if_pos (hbb w)⟩
      · cases hb
    rcases (show q = 0 ∨ q = 1 ∨ q = 2 ∨ q = 3 ∨ q = 4 ∨ q = 5 ∨ q = 6 ∨ q = 7 ∨ q = 8 ∨ q = 9 ∨ q = 10 ∨ q = 11 ∨ q = 12 ∨ q = 13 ∨ q = 14 ∨ q = 15 ∨ q = 16 ∨ q = 17 ∨ q = 18 ∨ q = 19 ∨ q = 20 by omega) with rfl | rfl | rfl | rfl | rfl | rfl | rfl | rfl | rfl | rfl | rfl | rfl | rfl | rfl | rfl | rfl | rfl | rfl | rfl | rfl | rfl
    · exact gd _ _ _ _ he id
    · exact gd _ _ _ _ he id
    · exact gd _ _ _ _ he id
    · exact gd _ _ _ _ he id
    · exact gd _ _ _ _ he id
    · exact gd _ _ _ _ he id
    · exact gd _ _ _ _ he id
    · exact gd _ _ _ _ he id
    · exact gd _ _ _ _ he (fun w => by rw [← hS]; exact w)
    · exact gd _ _ _ _ he (fun w => by rw [← hS]; exact w)
    · exact gd _ _ _ _ he (fun w => by rw [← hS]; exact w)
    · exact gd _ _ _ _ he (fun w => by rw [← hS]; exact w)
    · exact gd _ _ _ _ he (fun w => by rw [← hS]; exact w)
    · exact gd _ _ _ _ he (fun w => (hV z w).2)
    · exact gd _ _ _ _ he (fun w => (hV z w).2)
    · exact absurd rfl q15
    · exact gd _ _ _ _ he (fun w => by rw [← hK]; exact w)
    · exact gd _ _ _ _ he (fun w => by rw [← hK]; exact w)
    · exact gd _ _ _ _ he (fun w => by rw [← hK]; exact w)
    · exact gd _ _ _ _ he (fun w => by rw [← hK]; exact w)
    · exact gd _ _ _ _ he (fun w => by rw [← hK]; exact w)
  refine hr_re (fun q z e he => ?_) (fun q z q' z' e e' he he' hq => ?_) mf kk
  · obtain ⟨e2, h2⟩ := key q z e he
    rw [cr_adF_ka]
    refine Exists.elim (?_ : ∃ e0, M7 (ad q (cr_kaF sg (16 * a + v) to q z)) = some e0 ∧ va_sm e0 e) (fun e0 x => ⟨e0, x.1, x.2, (h.1 _ _ _ h2).2⟩)
    by_cases q15 : q = 15
    · subst q15
      have hz : cr_isE (sp_fdF sg a v to) z = true := by
        by_cases w : cr_isE (sp_fdF sg a v to) z = true
        · exact w
        · have h3 : cr_ob (cr_isE (sp_fdF sg a v to) z) _ = some e := he
          unfold cr_ob at h3
          rw [if_neg w] at h3
          cases h3
      obtain ⟨x1, x2, x3⟩ := hE z hz
      refine ⟨_, mo 15 _ _ (if_pos x2) (by omega) (by omega) (fun y _ => ⟨by omega, by omega⟩), ?_⟩
      cases cr_ob_e he
      unfold cr_kd
      rw [x3 6 (by omega), x3 7 (by omega), x3 8 (by omega), x3 9 (by omega)]
      exact va_sm.rf
    have ek : cr_kaF sg (16 * a + v) to q z = z := if_neg (fun w => q15 w.1)
    rw [ek] at h2 ⊢
    by_cases q3 : q = 3 ∧ z = 0
    · obtain ⟨rfl, rfl⟩ := q3
      refine ⟨_, m3, ?_⟩
      cases cr_ob_e he
      exact va_sm.rf
    by_cases q9 : q = 9 ∧ z = a
    · obtain ⟨rfl, rfl⟩ := q9
      refine ⟨_, m9, ?_⟩
      cases cr_ob_e he
      refine va_sm.r (fun w hw => ?_)
      rw [sp_fdF_2, adn 13 (by decide)]
      unfold va_up
      by_cases x : w = v
      · rw [if_pos x, x, mm_up_s, if_pos rfl]
      · rw [if_neg x, mm_up_x (by omega)]
    by_cases q14 : q = 14
    · subst q14
      have hz : cr_isV (sp_fdF sg a v to) z = true := by
        by_cases w : cr_isV (sp_fdF sg a v to) z = true
        · exact w
        · have h3 : cr_ob (cr_isV (sp_fdF sg a v to) z) _ = some e := he
          unfold cr_ob at h3
          rw [if_neg w] at h3
          cases h3
      obtain ⟨zX, zV⟩ := hV z hz
      by_cases w : to = some z
      · refine ⟨_, (m14 z w).1, ?_⟩
        cases cr_ob_e he
        refine va_sm.r (fun t htt => ?_)
        have f5 : (5 * z + t) / 5 = z := by omega
        have f6 : (5 * z + t) % 5 = t := by omega
        rw [sp_fdF_6 hne, f5, f6, if_neg zX]
        unfold cr_row cr_adF
        rw [f5, f6]
        by_cases x : sg 6 (5 * z + t) = 4
        · rw [if_pos x, if_pos (show t < 5 ∧ (none : Option Nat) = none from ⟨htt, rfl⟩), if_pos (show to = some z ∧ sg 6 (5 * z + t) = 4 from ⟨w, x⟩), if_pos (show (15 : Nat) = 15 ∧ to = some z ∧ sg 6 (5 * z + t) = 4 from ⟨rfl, w, x⟩)]
        · rw [if_neg x, if_neg (show ¬ (t < 5 ∧ some (ad 15 (5 * z + t)) = none) from fun y => by cases y.2), if_neg (show ¬ (to = some z ∧ sg 6 (5 * z + t) = 4) from fun y => x y.2), if_neg x, if_neg (show ¬ ((15 : Nat) = 15 ∧ to = some z ∧ sg 6 (5 * z + t) = 4) from fun y => x y.2.2)]
      · refine ⟨_, mo 14 z _ (if_pos zV) (by omega) (by omega) (fun y hy => ⟨fun x => w (by rw [x.2]; exact hy), by omega⟩), ?_⟩
        cases cr_ob_e he
        refine va_sm.r (fun t htt => ?_)
        have f5 : (5 * z + t) / 5 = z := by omega
        rw [sp_fdF_6 hne, f5, if_neg zX, if_neg (show ¬ (to = some z ∧ sg 6 (5 * z + t) = 4) from fun y => w y.1)]
        unfold cr_adF
        rw [f5, if_neg (show ¬ ((15 : Nat) = 15 ∧ to = some z ∧ sg 6 (5 * z + t) = 4) from fun y => w y.2.1)]
    by_cases q13 : q = 13 ∧ to = some z
    · obtain ⟨rfl, w⟩ := q13
      refine ⟨_, (m14 z w).2, ?_⟩
      cases cr_ob_e he
      obtain ⟨c, d1, d2, d3, d4⟩ := hfd.2.2.2.2.2.2 z w
      have c16 := d2.1
      unfold cr_up
      rw [sp_fdF_3, if_pos w, sp_fdF_j (j := 4) (by decide), adn 13 (by decide), adn 14 (by decide), show z / 16 = (16 * a + v) / 16 by omega]
      exact va_sm.rf
    have hpt : cr_pt sg ta (sp_fdF sg a v to) ta' q z := by
      rcases Nat.lt_or_ge 20 q with hq | hq
      · rw [cr_cell_hi hq] at he; cases he
      rcases (show q = 0 ∨ q = 1 ∨ q = 2 ∨ q = 3 ∨ q = 4 ∨ q = 5 ∨ q = 6 ∨ q = 7 ∨ q = 8 ∨ q = 9 ∨ q = 10 ∨ q = 11 ∨ q = 12 ∨ q = 13 ∨ q = 14 ∨ q = 15 ∨ q = 16 ∨ q = 17 ∨ q = 18 ∨ q = 19 ∨ q = 20 by omega) with rfl | rfl | rfl | rfl | rfl | rfl | rfl | rfl | rfl | rfl | rfl | rfl | rfl | rfl | rfl | rfl | rfl | rfl | rfl | rfl | rfl
      · exact congrFun e1 0
      · exact congrFun e1 0
      · exact fun i _ => by rw [sp_fdF_j (j := 12) (by decide)]
      · exfalso
        have h3 : cr_ob (decide (z = 0)) _ = some e := he
        rw [decide_eq_false (fun w => q3 ⟨rfl, w⟩)] at h3
        cases h3
      · exact fun _ _ => by rw [ht 5 (by decide)]
      · trivial
      · exact fun _ _ => by rw [ht 7 (by decide)]
      · exact fun _ _ => by rw [ht 6 (by decide)]
      · exact ⟨congrFun e1 0, by rw [sp_fdF_j (by decide)]⟩
      · exact ⟨congrFun e1 0, fun w hw => by rw [sp_fdF_2, mm_up_x (fun x => q9 ⟨rfl, by omega⟩)]⟩
      · exact ⟨congrFun e1 0, fun w hw => by rw [sp_fdF_j (by decide)]⟩
      · exact ⟨congrFun e1 0, fun w hw => by rw [sp_fdF_j (by decide)]⟩
      · exact ⟨congrFun e1 0, fun w hw => by rw [sp_fdF_j (by decide)]⟩
      · have hz : cr_isV (sp_fdF sg a v to) z = true := by
          by_cases w : cr_isV (sp_fdF sg a v to) z = true
          · exact w
          · have h3 : cr_ob (cr_isV (sp_fdF sg a v to) z) _ = some e := he
            unfold cr_ob at h3
            rw [if_neg w] at h3
            cases h3
        exact ⟨congrFun e1 0, by rw [sp_fdF_2, mm_up_x (hV z hz).1], by rw [sp_fdF_3, if_neg (fun x => q13 ⟨rfl, x⟩)], by rw [sp_fdF_j (by decide)]⟩
      · exact absurd rfl q14
      · exact absurd rfl q15
      · exact ⟨congrFun e1 0, by rw [sp_fdF_j (by decide)], by rw [sp_fdF_j (by decide)], by rw [sp_fdF_j (by decide)], by rw [sp_fdF_j (by decide)], by rw [ht 1 (by decide)], by rw [ht 2 (by decide)]⟩
      · exact ⟨congrFun e1 0, by rw [sp_fdF_j (by decide)]⟩
      · exact ⟨congrFun e1 0, by rw [sp_fdF_j (by decide)], fun _ _ => by rw [ht 3 (by decide)]⟩
      · exact ⟨congrFun e1 0, by rw [sp_fdF_j (by decide)], by rw [sp_fdF_j (by decide)], by rw [sp_fdF_j (by decide)], by rw [sp_fdF_j (by decide)], by rw [ht 8 (by decide)]⟩
      · exact ⟨congrFun e1 0, by rw [sp_fdF_j (by decide)], fun _ _ => by rw [ht 4 (by decide)]⟩
    obtain ⟨e3, h3, h4⟩ := hpt.sm he
    rw [cr_cell_ad adn q14] at h3
    exact ⟨e3, mo q z e3 h3 q3 q9 (fun y hy => ⟨fun x => q14 x.1, fun x => q13 ⟨x.1, by rw [x.2]; exact hy⟩⟩), h4⟩
  · obtain ⟨e2, h2⟩ := key q z e he
    obtain ⟨e3, h3⟩ := key q' z' e' he'
    rw [cr_adF_ka, cr_adF_ka] at hq
    obtain ⟨rfl, hk⟩ := h.2.1 _ _ _ _ _ _ h2 h3 hq
    refine ⟨rfl, ?_⟩
    by_cases q15 : q = 15
    · subst q15
      have al : ∀ z e, cr_cell cA (sp_fdF sg a v to) ta' (cr_adF sg ad (16 * a + v) to) 15 z = some e → z / 5 ≠ 16 * a + v := fun z e he => by
        have hz : cr_isE (sp_fdF sg a v to) z = true := by
          by_cases w : cr_isE (sp_fdF sg a v to) z = true
          · exact w
          · have h3 : cr_ob (cr_isE (sp_fdF sg a v to) z) _ = some e := he
            unfold cr_ob at h3
            rw [if_neg w] at h3
            cases h3
        exact (hE z hz).1
      have a1 := al z e he
      have a2 := al z' e' he'
      unfold cr_kaF at hk
      by_cases c1 : to = some (z / 5) ∧ sg 6 z = 4 <;> by_cases c2 : to = some (z' / 5) ∧ sg 6 z' = 4
      · rw [if_pos ⟨rfl, c1⟩, if_pos ⟨rfl, c2⟩] at hk
        have := Option.some.inj (c1.1.symm.trans c2.1)
        omega
      · rw [if_pos ⟨rfl, c1⟩, if_neg (fun q => c2 q.2)] at hk
        omega
      · rw [if_neg (fun q => c1 q.2), if_pos ⟨rfl, c2⟩] at hk
        omega
      · rw [if_neg (fun q => c1 q.2), if_neg (fun q => c2 q.2)] at hk
        exact hk
    · unfold cr_kaF at hk
      rw [if_neg (fun w => q15 w.1), if_neg (fun w => q15 w.1)] at hk
      exact hk
end FDW
