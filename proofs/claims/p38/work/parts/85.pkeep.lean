/-! what stays: quotas, heads, mends; the first state -/
section KP
variable {sg ta : mm_S}
theorem sp_thQuota_0 {g q : Int32} (h : sp_thQuota g q = 0) : sp_in g 0 3 = true ∧ sp_in q 0 1000 = true := by
  unfold sp_thQuota at h
  split at h
  · next h1 =>
    split at h
    · next h2 => exact ⟨h1, h2⟩
    · exact absurd h (by decide)
  · exact absurd h (by decide)
theorem sp_I.quo (hI : sp_I sg) {x : Nat} {q : Int32} (hq : sp_in q 0 1000 = true) : sp_I (mm_up sg 12 x q) := by
  have r : ∀ j, j ≠ 12 → mm_up sg 12 x q j = sg j := fun j hj => mm_up_j hj
  have hn : sp_n (mm_up sg 12 x q) = sp_n sg := by unfold sp_n; rw [r 1 (by decide)]
  have hth : ∀ s v, sp_th (mm_up sg 12 x q) s v ↔ sp_th sg s v := fun s v => by unfold sp_th; rw [r 2 (by decide)]
  refine ⟨?_, ?_, ?_, ?_, ?_, ?_, ?_, ?_, ?_, fun g hg => ?_⟩
  · unfold sp_I1; rw [hn, r 1 (by decide)]; exact hI.i1
  · unfold sp_I2; rw [hn, r 5 (by decide)]; simp only [hth]; exact hI.i2
  · unfold sp_I3; rw [hn, r 3 (by decide), r 4 (by decide)]; simp only [hth]; exact hI.i3
  · unfold sp_I4; rw [r 2 (by decide), r 11 (by decide), r 17 (by decide)]; exact hI.i4
  · unfold sp_I5; rw [r 2 (by decide), r 6 (by decide)]; exact hI.i5
  · unfold sp_I6; rw [r 6 (by decide), r 7 (by decide), r 8 (by decide), r 9 (by decide)]; exact hI.i6
  · unfold sp_I7; rw [hn, r 10 (by decide)]; simp only [hth]; exact hI.i7
  · unfold sp_I9; rw [hn, r 13 (by decide), r 14 (by decide), r 17 (by decide), r 19 (by decide), r 20 (by decide)]; simp only [hth]; exact hI.i9
  · unfold sp_I12; rw [r 18 (by decide), r 19 (by decide), r 20 (by decide), r 21 (by decide)]; exact hI.i12
  · by_cases z : g = x
    · rw [z, mm_up_s]; exact hq
    · rw [mm_up_x z]; exact hI.i13 g hg
theorem sp_J.quo (hJ : sp_J sg) {x : Nat} {q : Int32} : sp_J (mm_up sg 12 x q) := by
  have r : ∀ j, j ≠ 12 → mm_up sg 12 x q j = sg j := fun j hj => mm_up_j hj
  unfold sp_J sp_n
  rw [r 1 (by decide), r 2 (by decide), r 10 (by decide), r 11 (by decide), r 13 (by decide), r 16 (by decide)]
  exact hJ
theorem cr_ok.quo (hI : sp_I sg) (hok : cr_ok sg ta) {x : Nat} {q : Int32} : cr_ok (mm_up sg 12 x q) ta := by
  have r : ∀ j, j ≠ 12 → mm_up sg 12 x q j = sg j := fun j hj => mm_up_j hj
  refine hok.old hI (fun s v hs hv => ?_) (fun j h1 h2 => r j (by omega)) (fun g hg => ?_) (fun _ _ _ => rfl) rfl
  · rw [r 3 (by decide), r 6 (by decide), r 7 (by decide), r 8 (by decide), r 9 (by decide)]
    exact ⟨rfl, fun _ _ => ⟨rfl, rfl, rfl, rfl⟩⟩
  · rw [sp_used_congr (r 2 (by decide)) (r 4 (by decide)) (r 6 (by decide)) (r 8 (by decide)) (r 17 (by decide)) (r 19 (by decide)) (r 20 (by decide))]
    exact hok.1 g hg
theorem sp_I.adp (hI : sp_I sg) {a g v : Nat} (hg : g < 4) (hv : sp_th sg a v) : sp_I (mm_up sg 10 (4 * a + g) (nI v)) := by
  have r : ∀ j, j ≠ 10 → mm_up sg 10 (4 * a + g) (nI v) j = sg j := fun j hj => mm_up_j hj
  have hn : sp_n (mm_up sg 10 (4 * a + g) (nI v)) = sp_n sg := by unfold sp_n; rw [r 1 (by decide)]
  have hth : ∀ s w, sp_th (mm_up sg 10 (4 * a + g) (nI v)) s w ↔ sp_th sg s w := fun s w => by unfold sp_th; rw [r 2 (by decide)]
  refine ⟨?_, ?_, ?_, ?_, ?_, ?_, fun s h hs hh => ?_, ?_, ?_, ?_⟩
  · unfold sp_I1; rw [hn, r 1 (by decide)]; exact hI.i1
  · unfold sp_I2; rw [hn, r 5 (by decide)]; simp only [hth]; exact hI.i2
  · unfold sp_I3; rw [hn, r 3 (by decide), r 4 (by decide)]; simp only [hth]; exact hI.i3
  · unfold sp_I4; rw [r 2 (by decide), r 11 (by decide), r 17 (by decide)]; exact hI.i4
  · unfold sp_I5; rw [r 2 (by decide), r 6 (by decide)]; exact hI.i5
  · unfold sp_I6; rw [r 6 (by decide), r 7 (by decide), r 8 (by decide), r 9 (by decide)]; exact hI.i6
  · rw [hn] at hs
    simp only [hth]
    by_cases z : 4 * s + h = 4 * a + g
    · have e : s = a := by omega
      subst e
      rw [z, mm_up_s]
      exact ⟨v, rfl, hv⟩
    · rw [mm_up_x z]
      exact hI.i7 s h hs hh
  · unfold sp_I9; rw [hn, r 13 (by decide), r 14 (by decide), r 17 (by decide), r 19 (by decide), r 20 (by decide)]; simp only [hth]; exact hI.i9
  · unfold sp_I12; rw [r 18 (by decide), r 19 (by decide), r 20 (by decide), r 21 (by decide)]; exact hI.i12
  · unfold sp_I13; rw [r 12 (by decide)]; exact hI.i13
theorem sp_J.adp (hJ : sp_J sg) {a g : Nat} {v : Int32} (ha : a < sp_n sg) (hg : g < 4) : sp_J (mm_up sg 10 (4 * a + g) v) := by
  have r : ∀ j, j ≠ 10 → mm_up sg 10 (4 * a + g) v j = sg j := fun j hj => mm_up_j hj
  have hn : sp_n (mm_up sg 10 (4 * a + g) v) = sp_n sg := by unfold sp_n; rw [r 1 (by decide)]
  refine ⟨?_, ?_, fun s hs h4 h hh => ?_⟩
  · rw [hn, r 2 (by decide)]; exact hJ.1
  · rw [r 13 (by decide), r 16 (by decide)]; exact hJ.2.1
  · rw [hn] at hs
    rw [mm_up_x (by omega), r 11 (by decide)]
    exact hJ.2.2 s hs h4 h hh
theorem cr_ok.adp (hI : sp_I sg) (hok : cr_ok sg ta) {x : Nat} {q : Int32} : cr_ok (mm_up sg 10 x q) ta := by
  have r : ∀ j, j ≠ 10 → mm_up sg 10 x q j = sg j := fun j hj => mm_up_j hj
  refine hok.old hI (fun s v hs hv => ?_) (fun j h1 h2 => r j (by omega)) (fun g hg => ?_) (fun _ _ _ => rfl) rfl
  · rw [r 3 (by decide), r 6 (by decide), r 7 (by decide), r 8 (by decide), r 9 (by decide)]
    exact ⟨rfl, fun _ _ => ⟨rfl, rfl, rfl, rfl⟩⟩
  · rw [sp_used_congr (r 2 (by decide)) (r 4 (by decide)) (r 6 (by decide)) (r 8 (by decide)) (r 17 (by decide)) (r 19 (by decide)) (r 20 (by decide))]
    exact hok.1 g hg
theorem sp_thAdopt_0 (hI : sp_I sg) {g s v : Int32} (h : sp_thAdopt sg g s v = 0) : ∃ a b c, a < 4 ∧ b < sp_n sg ∧ g = nI a ∧ s = nI b ∧ v = nI c ∧ sp_th sg b c := by
  unfold sp_thAdopt at h
  have h1 := sp_w_0.mp h
  rw [Bool.and_eq_true] at h1
  obtain ⟨a, ha, rfl⟩ := sp_in_nat (b := 3) (by decide) h1.1
  obtain ⟨b, c, b1, b2, rfl, rfl, b3⟩ := sp_isV_nat hI h1.2
  exact ⟨a, b, c, by omega, b1, rfl, rfl, rfl, b3⟩
theorem sp_I.mnd (hI : sp_I sg) {s e : Nat} {rule slack : Int32} (hr : sp_okR sg e rule slack) : sp_I (sp_mend sg s e rule slack) :=
  sp_I.congr (fun j h5 h6 _ => sp_mdS_j 12 j h5 h6) (hI.rul hr)
theorem sp_mdS_16 {sg1 : mm_S} {s k : Nat} (h : ¬ sg 13 k = 2) : ∀ p, sp_mdS sg sg1 s p 16 k = sg1 16 k
  | 0 => rfl
  | p + 1 => by
    by_cases z : sp_chg sg sg1 (12 * s + p) = true
    · have hk : k ≠ 12 * s + p := fun y => by
        unfold sp_chg at z
        rw [← y, decide_eq_false h] at z
        cases z
      rw [sp_mdS_x hk]
      exact sp_mdS_16 h p
    · unfold sp_mdS
      rw [if_neg z]
      exact sp_mdS_16 h p
theorem sp_J.mnd (hJ : sp_J sg) {s e : Nat} {rule slack : Int32} : sp_J (sp_mend sg s e rule slack) := by
  have r : ∀ j, j ≠ 8 → j ≠ 9 → j ≠ 15 → j ≠ 16 → sp_mend sg s e rule slack j = sg j := fun j h8 h9 h5 h6 => (sp_mdS_j 12 j h5 h6).trans (sp_rul_j h8 h9)
  have hn : sp_n (sp_mend sg s e rule slack) = sp_n sg := by unfold sp_n; rw [r 1 (by decide) (by decide) (by decide) (by decide)]
  refine ⟨?_, fun k hk h2 => ?_, ?_⟩
  · rw [hn, r 2 (by decide) (by decide) (by decide) (by decide)]; exact hJ.1
  · rw [r 13 (by decide) (by decide) (by decide) (by decide)] at h2
    show sp_mdS sg (sp_rul sg e rule slack) s 12 16 k = 0
    rw [sp_mdS_16 h2, sp_rul_j (by decide) (by decide)]
    exact hJ.2.1 k hk h2
  · rw [hn, r 10 (by decide) (by decide) (by decide) (by decide), r 11 (by decide) (by decide) (by decide) (by decide)]; exact hJ.2.2
end KP
/-- the first state -/
theorem sp_S0_z {j x : Nat} (h12 : j ≠ 12) (h6 : j ≠ 6) : sp_S0 4 320 j x = 0 := by
  unfold sp_S0
  rw [if_neg (fun q => h12 q.1), if_neg (fun q => h6 q.1)]
theorem sp_S0_6 {x : Nat} (h : x < 320) : sp_S0 4 320 6 x = 4 := by
  unfold sp_S0
  rw [if_neg (fun q => absurd q.1 (by decide)), if_pos ⟨rfl, h⟩]
theorem sp_S0_n : sp_n (sp_S0 4 320) = 0 := by
  unfold sp_n
  rw [sp_S0_z (by decide) (by decide)]
  rfl
theorem sp_I_S0 : sp_I (sp_S0 4 320) := by
  have z : ∀ j x, j ≠ 12 → j ≠ 6 → sp_S0 4 320 j x = 0 := fun j x h1 h2 => sp_S0_z h1 h2
  refine ⟨⟨?_, by rw [sp_S0_n]; decide⟩, fun s hs => ?_, fun s hs => ?_, ⟨fun x _ => Or.inl (z 2 x (by decide) (by decide)), fun x _ => Or.inl (z 11 x (by decide) (by decide)), fun x _ => Or.inl (z 17 x (by decide) (by decide))⟩, fun s v t hs hv ht => ?_, fun e he => ?_, fun s g hs => ?_, fun s p hs hp => ?_, fun j hj => ?_, fun g hg => ?_⟩
  · rw [sp_S0_n, z 1 0 (by decide) (by decide)]
    rfl
  · rw [sp_S0_n] at hs; omega
  · rw [sp_S0_n] at hs; omega
  · have h4 : sp_S0 4 320 6 (sp_e s v t) = 4 := sp_S0_6 (by unfold sp_e; omega)
    exact ⟨⟨4, by decide, h4⟩, fun _ => h4, fun _ => h4⟩
  · rw [sp_S0_6 he]
    exact ⟨fun q => absurd q (by decide), fun q => absurd q (by decide), fun q => absurd q (by decide)⟩
  · rw [sp_S0_n] at hs; omega
  · exact Or.inl ⟨z 13 _ (by decide) (by decide), fun t _ => ⟨z 17 _ (by decide) (by decide), z 19 _ (by decide) (by decide), z 20 _ (by decide) (by decide)⟩⟩
  · rw [z 18 j (by decide) (by decide), z 19 j (by decide) (by decide), z 20 j (by decide) (by decide)]
    exact ⟨by decide, ⟨0, by decide, rfl⟩, ⟨0, by decide, rfl⟩, fun i _ => ⟨0, by decide, z 21 _ (by decide) (by decide)⟩⟩
  · unfold sp_S0
    rw [if_pos ⟨rfl, hg⟩]
    decide
theorem sp_J_S0 : sp_J (sp_S0 4 320) := ⟨fun _ _ _ => sp_S0_z (by decide) (by decide), fun _ _ _ => sp_S0_z (by decide) (by decide), fun _ _ _ _ _ => ⟨sp_S0_z (by decide) (by decide), sp_S0_z (by decide) (by decide)⟩⟩
theorem cr_ok_S0 : cr_ok (sp_S0 4 320) (fun _ _ => 0) := by
  have z : ∀ j x, j ≠ 12 → j ≠ 6 → sp_S0 4 320 j x = 0 := fun j x h1 h2 => sp_S0_z h1 h2
  refine ⟨fun g _ => ?_, fun k _ h => ?_, fun k _ h => ?_, fun j _ h => ?_, fun j i _ hi h => ?_⟩
  · have h1 : sp_is (sp_usE (sp_S0 4 320) (nI g)) 320 = 0 := sp_is_zero 320 (fun k _ => by
      unfold sp_usE
      rw [if_pos (z 2 _ (by decide) (by decide))])
    have h2 : sp_is (sp_usA (sp_S0 4 320) (nI g)) 48 = 0 := sp_is_zero 48 (fun k _ => by
      unfold sp_usA sp_taken
      rw [sp_is_zero 5 (fun t _ => by
        unfold sp_tk
        rw [z 17 _ (by decide) (by decide), z 19 _ (by decide) (by decide), z 20 _ (by decide) (by decide)]
        rfl)]
      split <;> rfl)
    unfold sp_used
    rw [h1, h2]
    rfl
  · rw [z 13 k (by decide) (by decide)] at h
    exact absurd h (by decide)
  · exact absurd (z 13 k (by decide) (by decide)) h
  · exact absurd (z 17 j (by decide) (by decide)) h
  · rw [z 20 j (by decide) (by decide)] at h
    exact absurd ((nI_ltI (a := i) (b := 0) (by omega) (by decide)).mp h) (Nat.not_lt_zero i)
