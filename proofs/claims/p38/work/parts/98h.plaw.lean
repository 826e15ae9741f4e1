/-! two servers and the rows of numbers beside them; the state that the law begins with -/
section LW
variable {cA : Nat → ClassId} {sg sg' : mm_S} {a b x : Nat} {M N Z : hm_M} {e e' : va_E}
theorem ls_up (h : ls_Q cA N b sg M) (hx : M x = none) : ls_Q cA (hm_up N x e) b sg (hm_up M x e) := by
  obtain ⟨ta, ad, hR, hok, hb⟩ := h
  refine ⟨ta, ad, ⟨fun q y e9 he => ?_, hR.2.1, fun y e9 hy => ?_⟩, hok, hb⟩
  · obtain ⟨h3, h4⟩ := hR.1 q y e9 he
    have hne : ad q y ≠ x := fun z => by rw [z, hx] at h3; cases h3
    rw [hm_up_n hne, hm_up_n hne]
    exact ⟨h3, h4⟩
  · by_cases z : y = x
    · subst z; rw [hm_up_s] at hy ⊢; exact hy
    · rw [hm_up_n z] at hy ⊢; exact hR.2.2 _ _ hy
theorem ls_set (h : ls_Q cA N b sg M) (hx : N x = some e) : ls_Q cA (hm_up N x e') b sg (hm_up M x e') := by
  obtain ⟨ta, ad, hR, hok, hb⟩ := h
  refine ⟨ta, ad, ⟨fun q y e9 he => ?_, hR.2.1, fun y e9 hy => ?_⟩, hok, hb⟩
  · obtain ⟨h3, h4⟩ := hR.1 q y e9 he
    have hne : ad q y ≠ x := fun z => by rw [z, hx] at h4; cases h4
    rw [hm_up_n hne, hm_up_n hne]
    exact ⟨h3, h4⟩
  · by_cases z : y = x
    · subst z; rw [hm_up_s] at hy ⊢; exact hy
    · rw [hm_up_n z] at hy ⊢; exact hR.2.2 _ _ hy
theorem lt_Q.up (h : lt_Q cA Z a b sg sg' M) (hx : M x = none) : lt_Q cA (hm_up Z x e) a b sg sg' (hm_up M x e) := by
  obtain ⟨N, h1, h2⟩ := h
  have hN : N x = none := by
    cases hz : N x with
    | none => rfl
    | some e9 => have := ls_at h1 hz; rw [hx] at this; cases this
  exact ⟨_, ls_up h1 hx, ls_up h2 hN⟩
theorem lt_Q.set (h : lt_Q cA Z a b sg sg' M) (hx : Z x = some e) : lt_Q cA (hm_up Z x e') a b sg sg' (hm_up M x e') := by
  obtain ⟨N, h1, h2⟩ := h
  exact ⟨_, ls_set h1 (ls_at h2 hx), ls_set h2 hx⟩
end LW
theorem lz_bit : ∀ c, c < 16 → ∀ j, j < 4 → nI c ||| (nI 1 <<< (nI j &&& 31)) = nI (c ||| (1 <<< j)) ∧ c ||| (1 <<< j) < 16 ∧ ∀ g, g < 4 → (nI (c ||| (1 <<< j)) >>> (nI g &&& 31)) &&& nI 1 = if g = j then 1 else (nI c >>> (nI g &&& 31)) &&& nI 1 := by decide +kernel
theorem lz_w : sp_w (!decide (sp_S0 4 320 1 0 = 4)) = 0 := by decide
theorem lz_1 : sp_addS (sp_S0 4 320) 1 0 = nI 1 := by rw [sp_addS_1]; rfl
theorem lz_n1 : sp_n (sp_addS (sp_S0 4 320)) = 1 := by unfold sp_n; rw [lz_1]; rfl
theorem lz_w1 : sp_w (!decide (sp_addS (sp_S0 4 320) 1 0 = 4)) = 0 := by rw [lz_1]; decide
theorem lz_I1 : sp_I (sp_addS (sp_S0 4 320)) ∧ sp_J (sp_addS (sp_S0 4 320)) := lp_addSheet sp_I_S0 sp_J_S0 lz_w
theorem lz_I2 : sp_I (sp_addS (sp_addS (sp_S0 4 320))) ∧ sp_J (sp_addS (sp_addS (sp_S0 4 320))) := lp_addSheet lz_I1.1 lz_I1.2 lz_w1
theorem lz_n2 : sp_n (sp_addS (sp_addS (sp_S0 4 320))) = 2 := by rw [sp_addS_n lz_I1.1 (by rw [lz_n1]; decide), lz_n1]
theorem lz_used (g : Int32) : sp_used (sp_S0 4 320) g = 0 := by
  unfold sp_used
  rw [sp_is_zero 320 (fun k _ => by unfold sp_usE; rw [if_pos (sp_S0_z (by decide) (by decide))]), sp_is_zero 48 (fun k _ => by
    unfold sp_usA
    split
    · refine sp_is_zero 5 (fun t _ => ?_)
      unfold sp_tk
      rw [sp_S0_z (by decide) (by decide), sp_S0_z (by decide) (by decide), sp_S0_z (by decide) (by decide)]
      rfl
    · rfl)]
  rfl
theorem lz_r {j : Nat} (h : ¬ (j = 1 ∨ j = 2 ∨ j = 3 ∨ j = 4 ∨ j = 5)) : sp_addS (sp_addS (sp_S0 4 320)) j = sp_S0 4 320 j := (sp_addS_r h).trans (sp_addS_r h)
theorem lz_K : sp_K (sp_addS (sp_addS (sp_S0 4 320))) := by
  refine ⟨lz_n2, fun k hk h => ?_, fun k hk _ => ?_, fun g hg => ?_⟩
  · rw [lz_r (by decide), sp_S0_z (by decide) (by decide)] at h
    exact absurd h (by decide)
  · rw [lz_r (by decide), sp_S0_z (by decide) (by decide)]
    decide
  · rw [lz_r (by decide), sp_used_addS lz_I1.2 (by rw [lz_n1]; decide) hg, sp_used_addS sp_J_S0 (by rw [sp_S0_n]; decide) hg, lz_used]
    have e : sp_S0 4 320 12 g = 100 := if_pos ⟨rfl, hg⟩
    rw [e]
    exact ⟨by decide, by decide⟩
theorem lz_5 : ∀ a, a < 2 → sp_addS (sp_addS (sp_S0 4 320)) 5 a = nI 1 := fun a ha => by
  rcases (show a = 0 ∨ a = 1 by omega) with rfl | rfl
  · rw [sp_addS_5x (by rw [lz_n1]; decide)]
    have := sp_addS_5 (sg := sp_S0 4 320)
    rw [sp_S0_n] at this
    exact this
  · have := sp_addS_5 (sg := sp_addS (sp_S0 4 320))
    rw [lz_n1] at this
    exact this
theorem lz_11 : ∀ x, sp_addS (sp_addS (sp_S0 4 320)) 11 x = 0 := fun x => by rw [lz_r (by decide), sp_S0_z (by decide) (by decide)]
/-- the rows of numbers tell the versions made and the classes closed -/
def lz_N (sg : mm_S) (fn : Nat → Int32) : Prop := ∀ a, a < 2 → sg 5 a = fn a
def lz_C (sg : mm_S) (fc : Nat → Int32) : Prop := (∀ a, a < 2 → ∃ c, c < 16 ∧ fc a = nI c) ∧ ∀ a g, a < 2 → g < 4 → (fc a >>> (nI g &&& 31)) &&& nI 1 = sg 11 (4 * a + g)
/-- the state of the law's loop -/
def lz_J (cA : Nat → ClassId) (a b nr cr : Nat) (M : hm_M) : Prop := ∃ (sg : mm_S) (Z : hm_M) (fn fc : Nat → Int32), sp_I sg ∧ sp_J sg ∧ sp_K sg ∧ lz_N sg fn ∧ lz_C sg fc ∧ Z nr = some (cr_iw cA 0 2 fn) ∧ Z cr = some (cr_iw cA 0 2 fc) ∧ nr ≠ cr ∧ lt_Q cA Z a b sg sg M
theorem lz_N1 {sg sg' : mm_S} {fn : Nat → Int32} {m : Nat} {r : Int32} (h : lz_N sg fn) (hP : la_P sg m r sg') {bb : Nat} (hb : bb = if m % 32 < 8 ∧ 0 ≤ r then 1 else 0) : lz_N sg' (upd fn (lA_sh m) (fn (lA_sh m) + nI bb)) := fun a ha => by
  rw [hP.2.2.1 a ha, hb]
  by_cases z : a = lA_sh m
  · subst z
    rw [show upd fn (lA_sh m) (fn (lA_sh m) + nI (if m % 32 < 8 ∧ 0 ≤ r then 1 else 0)) (lA_sh m) = fn (lA_sh m) + nI (if m % 32 < 8 ∧ 0 ≤ r then 1 else 0) from by simp [upd], ← h _ ha]
    by_cases y : m % 32 < 8 ∧ 0 ≤ r
    · rw [if_pos ⟨rfl, y⟩, if_pos y]; rfl
    · rw [if_neg (fun q => y q.2), if_neg y]; exact (Int32.add_zero _).symm
  · rw [if_neg (fun q => z q.1), show upd fn (lA_sh m) (fn (lA_sh m) + nI (if m % 32 < 8 ∧ 0 ≤ r then 1 else 0)) a = fn a from by simp [upd, z]]
    exact h a ha
theorem lz_C0 {sg sg' : mm_S} {fc : Nat → Int32} {m : Nat} {r : Int32} (h : lz_C sg fc) (hP : la_P sg m r sg') (hn : ¬ (m % 32 = 20 ∧ m / 64 / 4 % 4 = 0 ∧ 0 ≤ r)) : lz_C sg' fc := ⟨h.1, fun a g ha hg => by
  rw [hP.2.2.2 a g ha hg, if_neg (fun q => hn q.2.2)]
  exact h.2 a g ha hg⟩
theorem lz_C1 {sg sg' : mm_S} {fc : Nat → Int32} {m : Nat} {r : Int32} (h : lz_C sg fc) (hP : la_P sg m r sg') (hy : m % 32 = 20 ∧ m / 64 / 4 % 4 = 0 ∧ 0 ≤ r) : lz_C sg' (upd fc (lA_sh m) (fc (lA_sh m) ||| (nI 1 <<< (nI (m / 64 % 4) &&& 31)))) := by
  have hs := lA_sh2 m
  obtain ⟨c, hc, ec⟩ := h.1 (lA_sh m) hs
  obtain ⟨b1, b2, b3⟩ := lz_bit c hc (m / 64 % 4) (by omega)
  have us : upd fc (lA_sh m) (fc (lA_sh m) ||| (nI 1 <<< (nI (m / 64 % 4) &&& 31))) (lA_sh m) = nI (c ||| (1 <<< (m / 64 % 4))) := by
    rw [← b1, ← ec]
    simp [upd]
  have un : ∀ a, a ≠ lA_sh m → upd fc (lA_sh m) (fc (lA_sh m) ||| (nI 1 <<< (nI (m / 64 % 4) &&& 31))) a = fc a := fun a z => by simp [upd, z]
  refine ⟨fun a ha => ?_, fun a g ha hg => ?_⟩
  · by_cases z : a = lA_sh m
    · rw [z, us]; exact ⟨_, b2, rfl⟩
    · rw [un a z]; exact h.1 a ha
  · rw [hP.2.2.2 a g ha hg]
    by_cases z : a = lA_sh m
    · rw [z, us, b3 g hg]
      by_cases y : g = m / 64 % 4
      · rw [if_pos y, if_pos ⟨rfl, y, hy⟩]
      · rw [if_neg y, if_neg (fun q => y q.2.1), ← ec]
        exact h.2 _ g hs hg
    · rw [un a z, if_neg (fun q => z q.1)]
      exact h.2 a g ha hg
