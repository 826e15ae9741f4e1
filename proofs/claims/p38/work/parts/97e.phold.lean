/-! what is held of every state, in pure words -/
theorem lf_cl1 {A cl : Int32} (hcl : cl = nI 0 ∧ A = 0 ∨ cl = nI 1 ∧ A = 1) (c : ¬ cl = 0) : ¬ A = 0 := by
  rcases hcl with ⟨q, -⟩ | ⟨-, q⟩
  · exact absurd q c
  · rw [q]; decide
section LH
variable {sg : mm_S}
/-- likeness doesn't ask which comes first -/
theorem lh_cm {l1 l2 : List Int32} (h1 : l1.Nodup) (h2 : l2.Nodup) : ca_cm l1 l2 = ca_cm l2 l1 := by
  unfold ca_cm
  have p : (l1.filter (fun z => decide (z ∈ l2))).Perm (l2.filter (fun z => decide (z ∈ l1))) := by
    refine (List.perm_ext_iff_of_nodup (h1.filter _) (h2.filter _)).mpr (fun z => ?_)
    rw [List.mem_filter, List.mem_filter, decide_eq_true_eq, decide_eq_true_eq]
    exact And.comm
  exact p.length_eq
theorem lh_lst (l1 l2 : List Int32) : sp_lst l1 l2 = sp_lst l2 l1 := by
  unfold sp_lst
  split <;> split <;> omega
theorem lh_alk (a b : Nat) : sp_alk sg a b = sp_alk sg b a := by
  unfold sp_alk sp_alike
  rw [sp_cmn_cm, sp_cmn_cm, lh_cm (sp_prs_nd sg a) (sp_prs_nd sg b), lh_lst]
theorem lh_like (s p q : Int32) : sp_like sg s p q = sp_like sg s q p := by
  unfold sp_like
  rw [lh_alk]
  by_cases h : p = q
  · rw [if_pos h, if_pos h.symm]
  · rw [if_neg h, if_neg (fun w => h w.symm)]
/-- the place of a pair -/
theorem lh_pair (s : Nat) {p : Nat} : ∀ n, n ≤ 144 → p < lf_pn sg s n → ∃ j, j < n ∧ sp_pk sg s j = true ∧ lf_pn sg s j = p
  | 0, _, h => absurd h (Nat.not_lt_zero p)
  | n + 1, hn, h => by
    rcases Nat.lt_or_ge p (lf_pn sg s n) with q | q
    · obtain ⟨j, a, b, c⟩ := lh_pair s n (by omega) q
      exact ⟨j, by omega, b, c⟩
    · unfold lf_pn at h
      by_cases z : sp_pk sg s n = true
      · rw [if_pos z] at h
        exact ⟨n, Nat.lt_succ_self n, z, by omega⟩
      · rw [if_neg z] at h
        omega
theorem lh_paR (hI : sp_I sg) {a p j : Nat} (ha : a < sp_n sg) (hj : j < 144) (hp : sp_pk sg a j = true) (e : lf_pn sg a j = p) : sp_paR sg (nI a) (nI p) = nI (100 * (j / 12) + j % 12) := by
  have h4 := hI.i1.2
  have hle := lf_pn_le sg a j (by omega)
  unfold sp_paR
  rw [sp_nat_isS hI ha, decide_eq_false (nI_pos (by omega)), if_pos (by decide), show nN (nI a) = a from nI_clamp (by omega)]
  exact sp_pa_e (lf_pa sg a p (by omega) j (by omega) (by omega)) hp (by rw [e]) hj
theorem lh_pat {a p j : Nat} (h : sp_paR sg (nI a) (nI p) = nI (100 * (j / 12) + j % 12)) (hj : j < 144) : sp_w (!decide (sp_paR sg (nI a) (nI p) = -1)) = 0 := by
  rw [h, decide_eq_false (nI_m1 (by omega))]
  rfl
theorem lh_asc (s : Nat) {j j' : Nat} (h : lf_pn sg s j' < lf_pn sg s j) : j' < j := by
  rcases Nat.lt_or_ge j' j with q | q
  · exact q
  · have := lf_pn_mono sg s j (j' - j)
    rw [show j + (j' - j) = j' by omega] at this
    omega
/-- a pair is alike, and both have more than one fingerprint -/
theorem lh_pk {a j : Nat} (ha : a < 4) (hj : j < 144) (h : sp_pk sg a j = true) : j / 12 < j % 12 ∧ ¬ sp_like sg (nI a) (nI (j / 12)) (nI (j % 12)) < nI 60 := by
  unfold sp_pk at h
  rw [Bool.and_eq_true, decide_eq_true_eq] at h
  refine ⟨h.1, ?_⟩
  unfold sp_like
  rw [if_neg (fun q => by have := (nI_eq (by omega) (by omega)).mp q; omega), lf_kN ha (by omega), lf_kN ha (by omega)]
  have h2 := h.2
  unfold sp_pairB at h2
  rw [Bool.and_eq_true, Bool.not_eq_true', Bool.not_eq_true', decide_eq_false_iff_not, decide_eq_false_iff_not] at h2
  exact h2.2
theorem lh_pk1 (hI : sp_I sg) {a j : Nat} (ha : a < 4) (hj : j < 144) (h : sp_pk sg a j = true) : ¬ nI (sp_prs sg (sp_k (nI (j / 12)) (nI a))).length ≤ nI 1 := by
  unfold sp_pk at h
  rw [Bool.and_eq_true, decide_eq_true_eq] at h
  rw [lf_kN ha (by omega)]
  have h2 := h.2
  rw [cr_lk2 hI (by omega) (by omega), sp_cmn_cm] at h2
  unfold sb_pp at h2
  rw [Bool.and_eq_true, Bool.not_eq_true', decide_eq_false_iff_not] at h2
  have hl := sp_prs_len hI (k := 12 * a + j / 12) (by omega)
  have hc := ca_cm_l1 (sp_prs sg (12 * a + j / 12)) (sp_prs sg (12 * a + j % 12))
  intro q
  have q2 := (nI_leI (by omega) (by decide)).mp q
  exact h2.1 (nI_lt (b := 2) (by omega) (by decide))
/-- versions, counted -/
theorem lh_vers (hI : sp_I sg) {a nn : Nat} (ha : a < sp_n sg) (h5 : sg 5 a = nI nn) (h16 : nn ≤ 16) : sp_is (fun v => if sg 2 (16 * a + v) = 0 then 0 else 1) nn = sp_vers sg a := by
  obtain ⟨m, m1, m2, m3, m4⟩ := hI.i2 a ha
  rw [h5] at m3
  have e := (nI_eq (by omega) (by omega)).mp m3
  subst e
  have key : ∀ d, nn + d ≤ 16 → sp_is (fun v => if sg 2 (16 * a + v) = 0 then (0 : Int32) else 1) (nn + d) = sp_is (fun v => if sg 2 (16 * a + v) = 0 then 0 else 1) nn := by
    intro d
    induction d with
    | zero => intro _; rfl
    | succ d ih =>
      intro hd
      rw [show nn + (d + 1) = (nn + d) + 1 by omega, sp_is_st, ih (by omega)]
      by_cases z : sg 2 (16 * a + (nn + d)) = 0
      · exact if_pos z
      · exact absurd (m4 (nn + d) ⟨by omega, z⟩) (by omega)
  have := key (16 - nn) (by omega)
  rw [show nn + (16 - nn) = 16 by omega] at this
  exact this.symm
theorem lh_th {a v : Nat} (hv : v < 16) (h : ¬ sp_th sg a v) : sg 2 (16 * a + v) = 0 := by
  refine Classical.byContradiction (fun q => h ⟨hv, q⟩)
theorem lh_isVf (hI : sp_I sg) {a v : Nat} (ha : a < sp_n sg) (hv16 : v < 16) (hv : ¬ sp_th sg a v) : sp_isV sg (nI a) (nI v) = false := by
  rcases lf_isVf hI ha hv with q | q
  · exact q
  · omega
/-- a version's parent -/
theorem lh_par (hI : sp_I sg) {a v : Nat} (ha : a < sp_n sg) (hv : sp_th sg a v) : ¬ sg 3 (16 * a + v) = lNI := by
  rcases (hI.i3 a ha).2 v hv with ⟨-, h, -⟩ | ⟨u, g, -, h, hu, -⟩
  · rw [h]; decide
  · rw [h]
    have hu16 := hu.1
    intro q
    have := congrArg Int32.toInt q
    rw [nI_toInt (by omega), show (lNI : Int32).toInt = -2000000001 from by decide] at this
    omega
theorem lh_thTask (hI : sp_I sg) {a v t : Nat} (ha : a < sp_n sg) (hv : sp_th sg a v) (ht : t < 5) : sp_thTask sg (nI a) (nI v) (nI t) = 0 := by
  unfold sp_thTask
  refine lf_w0 ?_
  rw [lf_isV hI ha hv, show sp_in (nI t) 0 4 = true from sp_nat_in (b := 4) (by decide) (by omega)]
  rfl
theorem lh_has (hI : sp_I sg) {a v u t : Nat} (ha : a < sp_n sg) (hv : sp_th sg a v) (ht : t < 5) (h3 : sg 3 (16 * a + v) = nI u) (hu : sp_th sg a u) (huv : u < v) (hn : ¬ sp_o (sp_tel sg a v t) = nI v) : sp_tel sg a v t = sp_tel sg a u t ∧ sp_kind sg a v t = sp_kind sg a u t := by
  have hv16 := hv.1
  have h4 : sg 6 (sp_e a v t) = 4 := Classical.byContradiction (fun q => hn (by rw [sp_tel_here q]; rfl))
  have e := sp_tel_step hI ha hv h4 h3 hu huv
  refine ⟨e, ?_⟩
  unfold sp_kind sp_has
  rw [e]
theorem lh_lkT (hI : sp_I sg) {a p q : Nat} (ha : a < sp_n sg) (hp : p < 12) (hq : q < 12) : (sp_isS sg (nI a) && sp_in (nI p) 0 11 && sp_in (nI q) 0 11) = true := by
  rw [sp_nat_isS hI ha, show sp_in (nI p) 0 11 = true from sp_nat_in (b := 11) (by decide) (by omega), show sp_in (nI q) 0 11 = true from sp_nat_in (b := 11) (by decide) (by omega)]
  rfl
end LH
