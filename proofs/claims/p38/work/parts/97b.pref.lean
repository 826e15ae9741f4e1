/-! what the refused calls rest on, in pure words -/
section LF
variable {sg : mm_S} {g s t v p q : Int32} {are : Bool} {more : Int32}
theorem lf_hi {a b : Nat} (h : b < a) (ha : a < 2 ^ 31) (lo : Int32) : sp_in (nI a) lo (nI b) = false := sb_inF (Or.inr (nI_lt h ha))
theorem lf_neg {m : Nat} (hm : m < 2 ^ 30) : (-1 : Int32) - nI m < 0 := by
  rw [Int32.lt_iff_toInt_lt, Int32.toInt_sub, nI_toInt (by omega), show (-1 : Int32).toInt = -1 from by decide, show (0 : Int32).toInt = 0 from by decide, sl_bmod (by omega) (by omega)]
  omega
theorem lf_lo {m : Nat} (hm : m < 2 ^ 30) (hi : Int32) : sp_in (-1 - nI m) 0 hi = false := sb_inF (Or.inl (lf_neg hm))
theorem lf_neg1 {m : Nat} (hm : m < 2 ^ 30) : (-nI m : Int32) < 1 := by
  rw [Int32.lt_iff_toInt_lt, Int32.toInt_neg, nI_toInt (by omega), show (1 : Int32).toInt = 1 from by decide, sl_bmod (by omega) (by omega)]
  omega
theorem lf_lo1 {m : Nat} (hm : m < 2 ^ 30) (hi : Int32) : sp_in (-nI m) 1 hi = false := sb_inF (Or.inl (lf_neg1 hm))
theorem lf_inN {a b : Nat} (hb : b < 2 ^ 31) (h : a ≤ b) : sp_in (nI a) 0 (nI b) = true := sp_nat_in hb h
theorem lf_in1 : sp_in (nI 1) 1 10 = true := by decide
theorem lf_n1 (h : sp_in g 0 3 = false) : sp_name sg g s t = false := by unfold sp_name; rw [h]; rfl
theorem lf_n2 (h : sp_isS sg s = false) : sp_name sg g s t = false := by unfold sp_name; rw [h, Bool.and_false]; rfl
theorem lf_n3 (h : sp_in t 0 4 = false) : sp_name sg g s t = false := by unfold sp_name; rw [h, Bool.and_false]
theorem lf_nT (hI : sp_I sg) {a g t : Nat} (ha : a < sp_n sg) (hg : g < 4) (ht : t < 5) : sp_name sg (nI g) (nI a) (nI t) = true := by
  unfold sp_name
  rw [sp_nat_isS hI ha, show sp_in (nI g) 0 3 = true from sp_nat_in (b := 3) (by decide) (by omega), show sp_in (nI t) 0 4 = true from sp_nat_in (b := 4) (by decide) (by omega)]
  rfl
theorem lf_set1 (h : sp_name sg g s t = false) : sp_thSet sg g s t are more = 1 := by unfold sp_thSet; rw [h]; rfl
theorem lf_set2 (h : sp_name sg g s t = true) (h2 : are = false) : sp_thSet sg g s t are more = 2 := by unfold sp_thSet; rw [h, h2]; rfl
theorem lf_set3 (h : sp_name sg g s t = true) (h2 : are = true) (h3 : sp_canRev sg (nN g) (nN s) more = false) : sp_thSet sg g s t are more = 3 := by unfold sp_thSet; rw [h, h2, h3]; rfl
theorem lf_aN1 {x y z : Int32} (h : sp_in x 1 10 = false) : sp_areN x y z = false := by unfold sp_areN; rw [h]; rfl
theorem lf_aN2 {x y z : Int32} (h : sp_in y (-1000) 1000 = false) : sp_areN x y z = false := by unfold sp_areN; rw [h, Bool.and_false]; rfl
theorem lf_aN3 {x y z : Int32} (h : sp_in z 0 100 = false) : sp_areN x y z = false := by unfold sp_areN; rw [h, Bool.and_false]
theorem lf_aC1 {x y : Int32} (h : sp_in x 1 10 = false) : sp_areC x y = false := by unfold sp_areC; rw [h]; rfl
theorem lf_aC2 {x y : Int32} (h : sp_in y 0 31 = false) : sp_areC x y = false := by unfold sp_areC; rw [h, Bool.and_false]
theorem lf_aW1 {x y : Int32} (h : sp_in x 1 10 = false) : sp_areW x y = false := by unfold sp_areW; rw [h]; rfl
theorem lf_aW2 {x y : Int32} (h : sp_row y = false) : sp_areW x y = false := by unfold sp_areW; rw [h, Bool.and_false]
theorem lf_rowM {y : Int32} (h : y < 0) : sp_row y = false := by
  unfold sp_row
  rw [decide_eq_false (fun q => Int32.lt_asymm q h)]
  rfl
theorem lf_row0 : sp_row (nI 0) = false := by decide +kernel
theorem lf_row32 : ∀ r, r < 31 → sp_row (nI (32 * (1 + r))) = false := by decide +kernel
theorem lf_drop1 (h : sp_name sg g s t = false) : sp_thDrop sg g s t = 1 := by unfold sp_thDrop; rw [h]; rfl
theorem lf_ado1 (h : sp_in g 0 3 = false) : sp_thAdopt sg g s v = 1 := by unfold sp_thAdopt; rw [h]; rfl
theorem lf_ado2 (h : sp_isV sg s v = false) : sp_thAdopt sg g s v = 1 := by unfold sp_thAdopt; rw [h, Bool.and_false]; rfl
theorem lf_fold1 (h : sp_isV sg s v = false) : sp_thFold sg s v = 1 := by unfold sp_thFold; rw [h]; rfl
theorem lf_fold2 (h : sp_isV sg s v = true) (h2 : sp_need sg (nN s) (nN v) = true) : sp_thFold sg s v = 2 := by
  unfold sp_thFold sp_cFold
  rw [h, h2]
  rfl
theorem lf_w {b : Bool} (h : b = false) : sp_w b = 1 := by rw [h]; rfl
theorem lf_w0 {b : Bool} (h : b = true) : sp_w b = 0 := by rw [h]; rfl
theorem lf_a1 {x y : Bool} (h : x = false) : (x && y) = false := by rw [h]; rfl
theorem lf_a2 {x y : Bool} (h : y = false) : (x && y) = false := by rw [h, Bool.and_false]
theorem lf_task1 (h : sp_isV sg s v = false) : sp_thTask sg s v t = 1 := lf_w (lf_a1 h)
theorem lf_task2 (h : sp_in t 0 4 = false) : sp_thTask sg s v t = 1 := lf_w (lf_a2 h)
theorem lf_nm1 (h : sp_isV sg s v = false) : sp_nmd sg s v t = false := lf_a1 h
theorem lf_nm2 (h : sp_in t 0 4 = false) : sp_nmd sg s v t = false := lf_a2 h
theorem lf_vS (h : sp_isS sg s = false) : sp_isV sg s v = false := lf_a1 (lf_a1 h)
theorem lf_nmT (h : sp_isV sg s v = true) {t : Nat} (ht : t < 5) : sp_nmd sg s v (nI t) = true := by
  unfold sp_nmd
  rw [h, show sp_in (nI t) 0 4 = true from sp_nat_in (b := 4) (by decide) (by omega)]
  rfl
theorem lf_men1 {k : Int32} (h : sp_nmd sg s v t = false) : sp_thMen sg s v t are k = 1 := by unfold sp_thMen; rw [h]; rfl
theorem lf_men2 {k : Int32} (h : sp_nmd sg s v t = true) (h2 : are = false) : sp_thMen sg s v t are k = 2 := by unfold sp_thMen; rw [h, h2]; rfl
theorem lf_men3 {k : Int32} (h : sp_nmd sg s v t = true) (h2 : are = true) (h3 : sp_men sg (nN s) (nN v) (nN t) k = none) : sp_thMen sg s v t are k = 3 := by unfold sp_thMen; rw [h, h2, h3]; rfl
theorem lf_mew1 (h : sp_nmd sg s v t = false) : sp_thMenW sg s v t q = 1 := by unfold sp_thMenW; rw [h]; rfl
theorem lf_mew2 (h : sp_nmd sg s v t = true) (h2 : sp_row q = false) : sp_thMenW sg s v t q = 2 := by unfold sp_thMenW; rw [h, h2]; rfl
theorem lf_mew3 (h : sp_nmd sg s v t = true) (h2 : sp_row q = true) (h3 : sp_men sg (nN s) (nN v) (nN t) 2 = none) : sp_thMenW sg s v t q = 3 := by unfold sp_thMenW sp_menW; rw [h, h2, h3]; rfl
theorem lf_b1 (h : sp_in p 0 11 = false) : sp_both sg p s = false := lf_a1 h
theorem lf_b2 (h : sp_isS sg s = false) : sp_both sg p s = false := lf_a2 h
theorem lf_bT (hI : sp_I sg) {a p : Nat} (ha : a < sp_n sg) (hp : p < 12) : sp_both sg (nI p) (nI a) = true := by
  unfold sp_both
  rw [sp_nat_isS hI ha, show sp_in (nI p) 0 11 = true from sp_nat_in (b := 11) (by decide) (by omega)]
  rfl
theorem lf_open1 (h : sp_both sg p s = false) : sp_thOpen sg p s = 1 := by unfold sp_thOpen; rw [h]; rfl
theorem lf_open2 (h : sp_both sg p s = true) (h2 : sp_canO sg (nN p) (nN s) = false) : sp_thOpen sg p s = 2 := by unfold sp_thOpen; rw [h, h2]; rfl
theorem lf_say1 (h : sp_both sg p s = false) : sp_thSay sg p s t q = 1 := by
  unfold sp_thSay sp_trip
  rw [h]
  rfl
theorem lf_say1t (h : sp_in t 0 4 = false) : sp_thSay sg p s t q = 1 := by
  unfold sp_thSay sp_trip
  rw [h, Bool.and_false]
  rfl
theorem lf_say3 (h : sp_both sg p s = true) {t : Nat} (ht : t < 5) (h3 : ¬ sg 13 (12 * nN s + nN p) = 1) : sp_thSay sg p s (nI t) q = 3 := by
  unfold sp_thSay sp_trip
  rw [h, show sp_in (nI t) 0 4 = true from sp_nat_in (b := 4) (by decide) (by omega), if_pos (show (true && true) = true from rfl)]
  unfold sp_thSayN sp_ent
  rw [if_neg h3]
theorem lf_hand1 (h : sp_both sg p s = false) : sp_thHand sg p s = 1 := by unfold sp_thHand; rw [h]; rfl
theorem lf_hand2 (h : sp_both sg p s = true) (h3 : ¬ sg 13 (sp_k p s) = 1) : sp_thHand sg p s = 2 := by unfold sp_thHand; rw [h, if_pos rfl, if_neg h3]
theorem lf_cs1 (h : sp_in g 0 3 = false) : sp_cs sg g s = false := lf_a1 h
theorem lf_csT (hI : sp_I sg) {a g : Nat} (ha : a < sp_n sg) (hg : g < 4) : sp_cs sg (nI g) (nI a) = true := by
  unfold sp_cs
  rw [sp_nat_isS hI ha, show sp_in (nI g) 0 3 = true from sp_nat_in (b := 3) (by decide) (by omega)]
  rfl
theorem lf_clo1 (h : sp_cs sg g s = false) : sp_thClose sg g s = 1 := by unfold sp_thClose; rw [h]; rfl
theorem lf_clo2 (h : sp_cs sg g s = true) (h2 : ¬ sg 11 (4 * nN s + nN g) = 0) : sp_thClose sg g s = 2 := by unfold sp_thClose; rw [h, if_pos rfl, if_neg h2]
theorem lf_quo1 (h : sp_in g 0 3 = false) : sp_thQuota g q = 1 := by unfold sp_thQuota; rw [h]; rfl
theorem lf_quo2 (h : sp_in g 0 3 = true) (h2 : sp_in q 0 1000 = false) : sp_thQuota g q = 2 := by unfold sp_thQuota; rw [h, h2]; rfl
theorem lf_isV (hI : sp_I sg) {a v : Nat} (ha : a < sp_n sg) (hv : sp_th sg a v) : sp_isV sg (nI a) (nI v) = true := by
  have h4 := hI.i1.2
  have hv6 := hv.1
  unfold sp_isV
  rw [sp_nat_isS hI ha, show sp_in (nI v) 0 15 = true from sp_nat_in (b := 15) (by decide) (by omega), nI_clamp (by omega), nI_clamp (by omega), decide_eq_false hv.2]
  rfl
theorem lf_isVf (hI : sp_I sg) {a v : Nat} (ha : a < sp_n sg) (hv : ¬ sp_th sg a v) : sp_isV sg (nI a) (nI v) = false ∨ 2 ^ 31 ≤ v := by
  have h4 := hI.i1.2
  rcases Nat.lt_or_ge v (2 ^ 31) with q | q
  · left
    rw [Bool.eq_false_iff]
    intro h
    obtain ⟨a', b, h1, h2, h3, h4, h5⟩ := sp_isV_nat hI h
    have h6 := h5.1
    have e1 := (nI_eq (by omega) (by omega)).mp h3
    have e2 := (nI_eq q (by omega)).mp h4
    subst e1
    subst e2
    exact hv h5
  · exact Or.inr q
theorem lf_isV0 (hI : sp_I sg) {a : Nat} (ha : a < sp_n sg) : sp_isV sg (nI a) (nI 0) = true := lf_isV hI ha ((hI.i3 a ha).1)
/-- no version of that number; a sheet, a group, a pupil, a task that isn't -/
theorem lf_vm (hI : sp_I sg) {a m r : Nat} (ha : a < sp_n sg) (hm : sg 5 a = nI m) (hm2 : m ≤ 16) (hr : r < 50) : sp_isV sg (nI a) (sg 5 a + nI r) = false := by
  have h4 := hI.i1.2
  obtain ⟨m', h1, h2, h3, h5⟩ := hI.i2 a ha
  rw [h3] at hm
  have e := (nI_eq (by omega) (by omega)).mp hm
  subst e
  rw [h3, nI_add]
  rcases lf_isVf hI ha (v := m' + r) (fun q => by have := h5 _ q; omega) with q | q
  · exact q
  · omega
theorem lf_vl {a r : Nat} (hr : r < 50) : sp_isV sg (nI a) (-1 - nI r) = false := by
  unfold sp_isV
  rw [lf_lo (by omega) 15, Bool.and_false]
  rfl
theorem lf_sh (hI : sp_I sg) {r : Nat} (hr : r < 50) : sp_isS sg (sg 1 0 + nI r) = false := by
  unfold sp_isS
  obtain ⟨h1, h2⟩ := hI.i1
  rw [h1, nI_add]
  rcases Nat.eq_zero_or_pos (sp_n sg) with h0 | h0
  · rw [h0]
    refine sb_inF (Or.inr ?_)
    rw [show nI 0 - 1 = (-1 : Int32) from by decide]
    exact Int32.lt_of_lt_of_le (by decide) (nI_pos' (by omega))
  · rw [show (1 : Int32) = nI 1 from rfl, nI_sub h0]
    exact lf_hi (by omega) (by omega) 0
theorem lf_sl {r : Nat} (hr : r < 50) : sp_isS sg (-1 - nI r) = false := lf_lo (by omega) _
/-- the first version: it is the root, and tells no task; a head isn't folded -/
theorem lf_ndH (s v : Nat) (h : v = 0 ∨ ∃ g, g < 4 ∧ sg 10 (4 * s + g) = nI v) : sp_need sg s v = true := by
  have key : ∀ k, (v = 0 ∨ ∃ g, g < k ∧ sg 10 (4 * s + g) = nI v) → sp_ndH sg s v k = true := by
    intro k
    induction k with
    | zero =>
      rintro (rfl | ⟨g, hg, -⟩)
      · rfl
      · exact absurd hg (Nat.not_lt_zero g)
    | succ k ih =>
      intro hq
      unfold sp_ndH
      rcases hq with rfl | ⟨g, hg, e⟩
      · rw [ih (Or.inl rfl)]; rfl
      · by_cases hgk : g = k
        · subst hgk
          rw [decide_eq_true e, Bool.or_true]
        · rw [ih (Or.inr ⟨g, by omega, e⟩)]; rfl
  have k2 : ∀ k, sp_ndA sg s v k = true := by
    intro k
    induction k with
    | zero => exact key 4 h
    | succ k ih => unfold sp_ndA; rw [ih]; rfl
  unfold sp_need
  rw [k2 12]
  rfl
theorem lf_tel0 (hI : sp_I sg) {a t : Nat} (ha : a < sp_n sg) (ht : t < 5) : sp_tel sg a 0 t = none := by
  have h4 := hI.i1.2
  obtain ⟨h1, h2⟩ := hI.i3 a ha
  rcases h2 0 h1 with ⟨-, h3, -⟩ | ⟨u, g, h3, -⟩
  · exact sp_tel_root ((hI.i5 a 0 t (by omega) (by omega) ht).2.2 rfl) h3
  · exact absurd h3 (Nat.not_lt_zero u)
theorem lf_men0 (hI : sp_I sg) {a t : Nat} (ha : a < sp_n sg) (ht : t < 5) (k : Int32) : sp_men sg (nN (nI a)) (nN (nI 0)) (nN (nI t)) k = none := by
  have h4 := hI.i1.2
  rw [show nN (nI a) = a from nI_clamp (by omega), show nN (nI 0) = 0 from rfl, show nN (nI t) = t from nI_clamp (by omega)]
  unfold sp_men sp_has
  rw [lf_tel0 hI ha ht]
theorem lf_canRev {a g : Nat} {more : Int32} (h : sg 5 (nN (nI a)) = nI 16) : sp_canRev sg g (nN (nI a)) more = false := by
  unfold sp_canRev
  rw [h]
  rfl
/-- fingerprints aren't negative -/
theorem lf_pt (hI : sp_I sg) {j i : Nat} (hj : j < 240) (hi : i + 2 < 12) : 0 ≤ sp_pt sg j i := by
  obtain ⟨-, -, -, h⟩ := hI.i12 j hj
  obtain ⟨a, ha, ea⟩ := h i (by omega)
  obtain ⟨b, hb, eb⟩ := h (i + 1) (by omega)
  obtain ⟨c, hc, ec⟩ := h (i + 2) (by omega)
  unfold sp_pt sp_pr
  rw [ea, show 12 * j + i + 1 = 12 * j + (i + 1) from rfl, eb, show 12 * j + i + 2 = 12 * j + (i + 2) from rfl, ec, show (1024 : Int32) = nI 1024 from rfl, show (32 : Int32) = nI 32 from rfl, nI_mul, nI_mul, nI_add, nI_add]
  exact nI_pos' (by omega)
theorem lf_layI (hI : sp_I sg) {rule : Int32} {j : Nat} (hj : j < 240) {l : List Int32} (hl : ∀ x ∈ l, 0 ≤ x) : ∀ i, i + 1 < 12 → ∀ x ∈ sp_layI sg rule j l i, 0 ≤ x
  | 0, _ => hl
  | i + 1, hi => by
    have ih := lf_layI hI (rule := rule) hj hl i (by omega)
    unfold sp_layI
    split
    · exact ih
    · unfold sp_ad
      split
      · exact ih
      · intro x hx
        rcases List.mem_append.mp hx with q | q
        · exact ih x q
        · rw [List.mem_singleton.mp q]
          exact lf_pt hI hj (by omega)
theorem lf_layL (hI : sp_I sg) {k : Nat} (hk : k < 48) : ∀ t, t ≤ 5 → ∀ x ∈ sp_layL sg k t, 0 ≤ x
  | 0, _ => fun x hx => absurd hx List.not_mem_nil
  | t + 1, ht => by
    have ih := lf_layL hI hk t (by omega)
    show ∀ x ∈ sp_layT sg k t (sp_layL sg k t), 0 ≤ x
    unfold sp_layT
    cases sp_has sg (k / 12) (nN (sg 14 k)) t with
    | none => exact ih
    | some u =>
      dsimp only
      split
      · obtain ⟨-, -, ⟨w, hw, he⟩, -⟩ := hI.i12 (5 * k + t) (by omega)
        rw [he, show nN (nI w) = w from nI_clamp (by omega)]
        exact lf_layI hI (by omega) ih (w - 2) (by omega)
      · exact ih
theorem lf_prs (hI : sp_I sg) {k : Nat} (hk : k < 48) : ∀ x ∈ sp_prs sg k, 0 ≤ x := by
  unfold sp_prs
  split
  · exact lf_layL hI hk 5 (Nat.le_refl _)
  · exact fun x hx => absurd hx List.not_mem_nil
theorem lf_wp (hI : sp_I sg) {a : Nat} (ha : a < sp_n sg) {pr : Int32} (hp : pr < 0) : sp_wp sg (nN (nI a)) pr 12 = 0 := by
  have h4 := hI.i1.2
  rw [show nN (nI a) = a from nI_clamp (by omega)]
  have key : ∀ k, k ≤ 12 → sp_wp sg a pr k = 0 := by
    intro k
    induction k with
    | zero => intro _; rfl
    | succ k ih =>
      intro hk
      unfold sp_wp
      rw [ih (by omega), if_neg (fun q => Int32.not_lt.mpr (lf_prs hI (by omega) pr q) hp)]
      rfl
  exact key 12 (Nat.le_refl _)
/-- pairs: how many of the first places are pairs; a place behind the last one -/
def lf_pn (sg : mm_S) (s : Nat) : Nat → Nat
  | 0 => 0
  | k + 1 => lf_pn sg s k + if sp_pk sg s k = true then 1 else 0
theorem lf_prN (sg : mm_S) (s : Nat) : ∀ k, sp_prN sg s k = nI (lf_pn sg s k)
  | 0 => rfl
  | k + 1 => by
    unfold lf_pn
    by_cases h : sp_pk sg s k = true
    · rw [sp_prN_y h, lf_prN sg s k, if_pos h, nI_1]
    · rw [sp_prN_n (Bool.eq_false_iff.mpr h), lf_prN sg s k, if_neg h]
      rfl
theorem lf_pn_le (sg : mm_S) (s : Nat) : ∀ k, k ≤ 144 → lf_pn sg s k ≤ k
  | 0, _ => Nat.le_refl 0
  | k + 1, h => by
    have := lf_pn_le sg s k (by omega)
    unfold lf_pn
    split <;> omega
def lf_pc : Nat → Nat
  | 0 => 0
  | k + 1 => lf_pc k + if k / 12 < k % 12 then 1 else 0
theorem lf_pc_144 : lf_pc 144 = 66 := by decide +kernel
theorem lf_pn_pc (sg : mm_S) (s : Nat) : ∀ k, lf_pn sg s k ≤ lf_pc k
  | 0 => Nat.le_refl 0
  | k + 1 => by
    have := lf_pn_pc sg s k
    unfold lf_pn lf_pc
    by_cases h : k / 12 < k % 12
    · rw [if_pos h]
      split <;> omega
    · rw [if_neg h, if_neg]
      · exact this
      · unfold sp_pk
        rw [decide_eq_false h, Bool.false_and]
        decide
theorem lf_pn_66 (sg : mm_S) (s : Nat) : lf_pn sg s 144 ≤ 66 := by
  have := lf_pn_pc sg s 144
  rw [lf_pc_144] at this
  exact this
theorem lf_pn_mono (sg : mm_S) (s : Nat) (k : Nat) : ∀ d, lf_pn sg s k ≤ lf_pn sg s (k + d)
  | 0 => Nat.le_refl _
  | d + 1 => by
    have := lf_pn_mono sg s k d
    show _ ≤ lf_pn sg s (k + d) + _
    omega
theorem lf_pa (sg : mm_S) (s p : Nat) (hp : p < 2 ^ 31) : ∀ k, k ≤ 144 → lf_pn sg s k ≤ p → sp_pa sg s (nI p) k = (nI p - nI (lf_pn sg s k), -1)
  | 0, _, _ => by
    unfold lf_pn
    show (nI p, (-1 : Int32)) = (nI p - nI 0, -1)
    rw [nI_sub (Nat.zero_le p)]
    rfl
  | k + 1, hk, h => by
    have hle := lf_pn_le sg s k (by omega)
    unfold lf_pn at h ⊢
    by_cases hq : sp_pk sg s k = true
    · rw [if_pos hq] at h ⊢
      have ih := lf_pa sg s p hp k (by omega) (by omega)
      refine sp_pa_y ih hq (fun q => ?_)
      have := (nI_eq (by omega) hp).mp q
      omega
    · rw [if_neg hq] at h ⊢
      exact sp_pa_n (lf_pa sg s p hp k (by omega) (by omega)) (Bool.eq_false_iff.mpr hq)
theorem lf_pa_out (hI : sp_I sg) {a p : Nat} (ha : a < sp_n sg) (hp : p < 2 ^ 31) (h : lf_pn sg a 144 ≤ p) : sp_paR sg (nI a) (nI p) = -1 := by
  have h4 := hI.i1.2
  unfold sp_paR
  split
  · rw [show nN (nI a) = a from nI_clamp (by omega), lf_pa sg a p hp 144 (Nat.le_refl _) h]
  · rfl
theorem lf_pa_neg {place : Int32} (h : place < 0) : sp_paR sg s place = -1 := by
  unfold sp_paR
  rw [decide_eq_true h, if_neg (by simp)]
theorem lf_pat {place : Int32} (h : sp_paR sg s place = -1) : sp_w (!decide (sp_paR sg s place = -1)) = 1 := by
  rw [decide_eq_true h]
  rfl
theorem lf_kN {a p : Nat} (ha : a < 4) (hp : p < 12) : sp_k (nI p) (nI a) = 12 * a + p := by
  unfold sp_k
  rw [show nN (nI a) = a from nI_clamp (by omega), show nN (nI p) = p from nI_clamp (by omega)]
theorem lf_cs0 (hI : sp_I sg) {a g : Nat} (ha : a < sp_n sg) (hg : g < 4) : (sp_in (nI g) 0 3 && sp_isS sg (nI a)) = true := lf_csT hI ha hg
theorem lf_foldH (hI : sp_I sg) {a g : Nat} (ha : a < sp_n sg) (hg : g < 4) : sp_thFold sg (nI a) (sg 10 (4 * a + g)) = 2 := by
  have h4 := hI.i1.2
  obtain ⟨v, e, hv⟩ := hI.i7 a g ha hg
  have hv6 := hv.1
  rw [e]
  refine lf_fold2 (lf_isV hI ha hv) (lf_ndH _ _ (Or.inr ⟨g, hg, ?_⟩))
  rw [show nN (nI a) = a from nI_clamp (by omega), show nN (nI v) = v from nI_clamp (by omega)]
  exact e
theorem lf_full (hI : sp_I sg) {a g : Nat} {more x : Int32} (ha : a < sp_n sg) (h : sg 5 a = x) (c : ¬ x < nI 16) : sp_canRev sg g (nN (nI a)) more = false := by
  have h4 := hI.i1.2
  obtain ⟨m, m1, m2, e, -⟩ := hI.i2 a ha
  rw [← h, e] at c
  have e2 : m = 16 := by
    rcases Nat.lt_or_ge m 16 with q | q
    · exact absurd (nI_lt q (by decide)) c
    · omega
  subst e2
  exact lf_canRev (by rw [show nN (nI a) = a from nI_clamp (by omega)]; exact e)
theorem lf_canO {a o : Nat} {cl : Int32} (ha : a < 4) (ho : o < 12) (hcl : cl = nI 0 ∧ sg 11 (4 * a + o / 3) = 0 ∨ cl = nI 1 ∧ sg 11 (4 * a + o / 3) = 1) (h : ¬ sg 13 (12 * a + o) = 0 ∨ ¬ cl = 0) : sp_canO sg (nN (nI o)) (nN (nI a)) = false := by
  rw [show nN (nI a) = a from nI_clamp (by omega), show nN (nI o) = o from nI_clamp (by omega)]
  unfold sp_canO
  rcases h with h | h
  · rw [decide_eq_false h]
    rfl
  · rcases hcl with ⟨q, -⟩ | ⟨-, q⟩
    · exact absurd q h
    · rw [q, Bool.and_comm]
      rfl
end LF
