/-! likeness and pairs: both sides' numbers -/
theorem sp_ad_nd {l : List Int32} {a : Int32} (h : l.Nodup) : (sp_ad l a).Nodup := by
  unfold sp_ad
  split
  · exact h
  · next q =>
    refine List.nodup_append.mpr ⟨h, by simp, fun b hb c hc => ?_⟩
    rw [List.mem_singleton.mp hc]
    exact fun z => q (by rw [← z]; exact hb)
theorem sp_layI_nd (sg : mm_S) (rule : Int32) (j : Nat) {l : List Int32} (h : l.Nodup) : ∀ i, (sp_layI sg rule j l i).Nodup
  | 0 => h
  | i + 1 => by
    unfold sp_layI
    split
    · exact sp_layI_nd sg rule j h i
    · exact sp_ad_nd (sp_layI_nd sg rule j h i)
theorem sp_layL_nd (sg : mm_S) (k : Nat) : ∀ t, (sp_layL sg k t).Nodup
  | 0 => List.nodup_nil
  | t + 1 => by
    show (sp_layT sg k t (sp_layL sg k t)).Nodup
    unfold sp_layT
    have h := sp_layL_nd sg k t
    cases sp_has sg (k / 12) (nN (sg 14 k)) t with
    | none => exact h
    | some u =>
      dsimp only
      split
      · exact sp_layI_nd _ _ _ h _
      · exact h
theorem sp_prs_nd (sg : mm_S) (k : Nat) : (sp_prs sg k).Nodup := by
  unfold sp_prs
  split
  · exact sp_layL_nd sg k 5
  · exact List.nodup_nil
theorem sp_prs_0 {sg : mm_S} {k : Nat} (h : sg 13 k = 0) : sp_prs sg k = [] := if_neg (fun q => by rw [h] at q; exact absurd q.1 (by decide))
theorem ca_P.nd {l : List Int32} {pf : Nat → Int32} (h : ca_P l pf) : l.Nodup := h.1.imp (fun {a b} q z => by rw [z] at q; exact Int32.lt_irrefl q)
/-- the kept row of an answer's fingerprints -/
theorem cr_pr {sg ta : mm_S} (hok : cr_ok sg ta) {k : Nat} (hk : k < 48) (h0 : ¬ sg 13 k = 0) : ∃ l, ca_P l (fun i => ta 3 (50 * k + i)) ∧ ta 2 k = nI l.length ∧ ∀ z, z ∈ l ↔ z ∈ sp_prs sg k := by
  obtain ⟨l, h1, h2, h3, h4, h5⟩ := hok.2.2.1 k hk h0
  exact ⟨l, ⟨h1, h2, h4⟩, h3, h5⟩
theorem ca_len {l P : List Int32} {pf : Nat → Int32} (h : ca_P l pf) (hP : P.Nodup) (he : ∀ z, z ∈ l ↔ z ∈ P) : l.Perm P := (List.perm_ext_iff_of_nodup h.nd hP).mpr he
theorem ca_cm_perm {l1 l2 P1 P2 : List Int32} (h1 : l1.Perm P1) (h2 : ∀ z, z ∈ l2 ↔ z ∈ P2) : ca_cm l1 l2 = ca_cm P1 P2 := by
  rw [ca_cm_congr (l1 := l2) (l2 := P2) (fun z _ => h2 z)]
  exact (h1.filter _).length_eq
theorem sp_cmn_cm (P1 P2 : List Int32) : sp_cmn P1 P2 P1.length = nI (ca_cm P1 P2) := by
  have key : ∀ n, n ≤ P1.length → sp_cmn P1 P2 n = nI (ca_cm (P1.take n) P2) := by
    intro n
    induction n with
    | zero => intro _; rfl
    | succ n ih =>
      intro hn
      have hl : n < P1.length := by omega
      show sp_cmn P1 P2 n + (if P1.getD n 0 ∈ P2 then 1 else 0) = _
      rw [ih (by omega), ← List.take_append_getElem hl]
      rw [show P1.getD n 0 = P1[n] by rw [List.getD_eq_getElem?_getD, List.getElem?_eq_getElem hl]; rfl]
      unfold ca_cm
      rw [List.filter_append, List.length_append]
      by_cases q : P1[n] ∈ P2
      · rw [if_pos q, nI_1, List.filter_cons_of_pos (by exact decide_eq_true q)]
        rfl
      · rw [if_neg q, Int32.add_zero, List.filter_cons_of_neg (by rw [decide_eq_false q]; decide)]
        rfl
  rw [key _ (Nat.le_refl _), List.take_length]
theorem ca_cm_l1 (l1 l2 : List Int32) : ca_cm l1 l2 ≤ l1.length := List.length_filter_le _ _
theorem ca_cm_l2 {l1 l2 : List Int32} (h : l1.Nodup) : ca_cm l1 l2 ≤ l2.length := List.Nodup.length_le_of_subset (h.sublist List.filter_sublist) (fun z hz => of_decide_eq_true (List.mem_filter.mp hz).2)
theorem sb_minN {a b : Nat} (ha : a < 2 ^ 31) (hb : b < 2 ^ 31) : sb_min (nI a) (nI b) = nI (if a < b then a else b) := by
  unfold sb_min
  by_cases h : b < a
  · rw [if_pos ((nI_ltI hb ha).mpr h), if_neg (by omega)]
  · rw [if_neg (fun q => h ((nI_ltI hb ha).mp q))]
    by_cases q : a < b
    · rw [if_pos q]
    · rw [if_neg q, show a = b by omega]
/-- both numbers, out of one -/
theorem ca_num {c a b : Nat} (h1 : c ≤ a) (h2 : c ≤ b) (ha : a ≤ 50) (hb : b ≤ 50) : ∀ y, y = (if nI (if a < b then a else b) = 0 then (0 : Int32) else 1000 * nI c + 100 * nI c / nI (if a < b then a else b)) → sp_m1000 y = sb_lk (nI c) (nI a) (nI b) ∧ (!decide (y / 1000 < 2) && !decide (sp_m1000 y < 60)) = sb_pp (nI c) (nI a) (nI b) := by
  intro y hy
  have hm : ∃ m, (if a < b then a else b) = m ∧ c ≤ m ∧ m ≤ 50 := ⟨_, rfl, by split <;> omega, by split <;> omega⟩
  obtain ⟨m, e, m1, m2⟩ := hm
  unfold sb_pp sb_lk
  rw [sb_minN (by omega) (by omega)]
  rw [e] at hy ⊢
  by_cases h0 : m = 0
  · subst h0
    have hc : c = 0 := by omega
    subst hc
    rw [if_pos (show nI 0 = (0 : Int32) from rfl)] at hy
    subst hy
    exact ⟨by decide, by decide⟩
  · have hp : (0 : Int32) < nI m := nI_lt (a := 0) (by omega) (by omega)
    have hd : 100 * c / m ≤ 100 := by
      calc 100 * c / m ≤ 100 * m / m := Nat.div_le_div_right (by omega)
        _ = 100 := Nat.mul_div_cancel _ (by omega)
    have hm0 : ¬ nI m = (0 : Int32) := fun q => h0 ((nI_eq (b := 0) (by omega) (by omega)).mp q)
    have hy2 : y = nI (1000 * c + 100 * c / m) := by
      rw [hy, if_neg hm0, show (1000 : Int32) * nI c = nI (1000 * c) from nI_mul 1000 c, show (100 : Int32) * nI c = nI (100 * c) from nI_mul 100 c, nI_divN (by omega) (by omega) h0, nI_add]
    rw [if_pos hp, show (100 : Int32) * nI c = nI (100 * c) from nI_mul 100 c, nI_divN (by omega) (by omega) h0]
    generalize 100 * c / m = d at hd hy2 ⊢
    have e1 : sp_m1000 y = nI d := by
      rw [hy2]
      unfold sp_m1000
      rw [mm_r1000 (by omega), show (1000 * c + d) % 1000 = d by omega]
    have e2 : y / 1000 = nI c := by
      rw [hy2, mm_d1000 (by omega), show (1000 * c + d) / 1000 = c by omega]
    rw [e1, e2]
    exact ⟨rfl, rfl⟩
theorem cr_lk {sg : mm_S} (hI : sp_I sg) {k1 k2 : Nat} (hk1 : k1 < 48) (hk2 : k2 < 48) {l1 l2 : List Int32} {f1 f2 : Nat → Int32} (h1 : ca_P l1 f1) (h2 : ca_P l2 f2) (e1 : ∀ z, z ∈ l1 ↔ z ∈ sp_prs sg k1) (e2 : ∀ z, z ∈ l2 ↔ z ∈ sp_prs sg k2) : sp_m1000 (sp_alk sg k1 k2) = sb_lk (nI (ca_cm l1 l2)) (nI l1.length) (nI l2.length) ∧ sp_pairB sg k1 k2 = sb_pp (nI (ca_cm l1 l2)) (nI l1.length) (nI l2.length) := by
  have p1 := ca_len h1 (sp_prs_nd sg k1) e1
  have p2 := ca_len h2 (sp_prs_nd sg k2) e2
  have q1 := ca_cm_l1 l1 l2
  have q2 := ca_cm_l2 (l2 := l2) h1.nd
  have key := ca_num q1 q2 h1.2.1 h2.2.1 (sp_alk sg k1 k2) (by
    unfold sp_alk sp_alike sp_lst
    rw [sp_cmn_cm, ← ca_cm_perm p1 e2, ← p1.length_eq, ← p2.length_eq])
  exact key
theorem sp_alk_0 {sg : mm_S} {k1 k2 : Nat} (h : sg 13 k1 = 0 ∨ sg 13 k2 = 0) : sp_alk sg k1 k2 = 0 := by
  unfold sp_alk sp_alike
  rw [if_pos]
  unfold sp_lst
  rcases h with h | h
  · rw [sp_prs_0 h]
    split
    · rfl
    · next q => rw [show (sp_prs sg k2).length = 0 by simp at q; simp [q]]; rfl
  · rw [sp_prs_0 h]
    rfl
theorem sp_pairB_0 {sg : mm_S} {k1 k2 : Nat} (h : sg 13 k1 = 0 ∨ sg 13 k2 = 0) : sp_pairB sg k1 k2 = false := by
  unfold sp_pairB
  rw [sp_alk_0 h]
  decide
theorem sp_wp_y {sg : mm_S} {s n : Nat} {pr : Int32} (h : pr ∈ sp_prs sg (12 * s + n)) : sp_wp sg s pr (n + 1) = sp_wp sg s pr n ||| (1 <<< (nI n &&& 31)) := by rw [sp_wp, if_pos h]
theorem sp_wp_n {sg : mm_S} {s n : Nat} {pr : Int32} (h : ¬ pr ∈ sp_prs sg (12 * s + n)) : sp_wp sg s pr (n + 1) = sp_wp sg s pr n := by rw [sp_wp, if_neg h, Int32.or_zero]
theorem sp_pk_no {sg : mm_S} {s l d : Nat} (hl : l < 12) (hd : d ≤ l) : sp_pk sg s (12 * l + d) = false := by
  unfold sp_pk
  rw [show (12 * l + d) / 12 = l by omega, show (12 * l + d) % 12 = d by omega, decide_eq_false (by omega)]
  rfl
theorem sp_pk_is {sg : mm_S} {s l d : Nat} (hl : l < d) (hd : d < 12) : sp_pk sg s (12 * l + d) = sp_pairB sg (12 * s + l) (12 * s + d) := by
  unfold sp_pk
  rw [show (12 * l + d) / 12 = l by omega, show (12 * l + d) % 12 = d by omega, decide_eq_true hl]
  rfl
theorem sp_prN_n {sg : mm_S} {s k : Nat} (h : sp_pk sg s k = false) : sp_prN sg s (k + 1) = sp_prN sg s k := sp_is_st (by
  show (if sp_pk sg s k = true then (1 : Int32) else 0) = 0
  rw [h]
  rfl)
theorem sp_prN_y {sg : mm_S} {s k : Nat} (h : sp_pk sg s k = true) : sp_prN sg s (k + 1) = sp_prN sg s k + 1 := sp_is_up (by
  show (if sp_pk sg s k = true then (1 : Int32) else 0) = 1
  rw [h]
  rfl)
theorem sp_prN_sk {sg : mm_S} {s l : Nat} (hl : l < 12) : ∀ d, d ≤ l + 1 → sp_prN sg s (12 * l + d) = sp_prN sg s (12 * l)
  | 0, _ => rfl
  | d + 1, h => by
    rw [← sp_prN_sk hl d (by omega)]
    exact sp_prN_n (k := 12 * l + d) (sp_pk_no hl (by omega))
theorem sp_pa_sk {sg : mm_S} {s l : Nat} {place : Int32} (hl : l < 12) : ∀ d, d ≤ l + 1 → sp_pa sg s place (12 * l + d) = sp_pa sg s place (12 * l)
  | 0, _ => rfl
  | d + 1, h => by
    rw [← sp_pa_sk hl d (by omega)]
    show sp_pa sg s place (12 * l + d + 1) = _
    rw [sp_pa, sp_pk_no hl (by omega), if_neg (show ¬ (false = true) by decide), ite_self]
theorem sl_sub0 {a b : Int32} (h : a - b = 0) : a = b := by
  have := Int32.sub_add_cancel a b
  rw [h, Int32.zero_add] at this
  exact this.symm
theorem sp_pa_n {sg : mm_S} {s k : Nat} {place x : Int32} (h : sp_pa sg s place k = (x, -1)) (hp : sp_pk sg s k = false) : sp_pa sg s place (k + 1) = (x, -1) := by
  rw [sp_pa, h, hp]
  rfl
theorem sp_pa_y {sg : mm_S} {s k c : Nat} {place : Int32} (h : sp_pa sg s place k = (place - nI c, -1)) (hp : sp_pk sg s k = true) (hc : ¬ nI c = place) : sp_pa sg s place (k + 1) = (place - nI (c + 1), -1) := by
  rw [sp_pa, h, hp, if_pos rfl, if_pos rfl]
  dsimp only
  rw [if_neg (fun q => hc (sl_sub0 q).symm), ← nI_1]
  have e : place - nI c + -1 = place - (nI c + 1) := by
    rw [Int32.sub_eq_add_neg, Int32.sub_eq_add_neg, Int32.neg_add, Int32.sub_eq_add_neg (-nI c) 1, ← Int32.add_assoc]
  rw [e]
theorem sp_pa_e {sg : mm_S} {s k c : Nat} {place : Int32} (h : sp_pa sg s place k = (place - nI c, -1)) (hp : sp_pk sg s k = true) (hc : nI c = place) (hk : k < 144) : (sp_pa sg s place 144).2 = nI (100 * (k / 12) + k % 12) := by
  have h1 : (sp_pa sg s place (k + 1)).2 = nI (100 * (k / 12) + k % 12) := by
    rw [sp_pa, h, hp, if_pos rfl, if_pos rfl]
    dsimp only
    rw [if_pos (by rw [hc, Int32.sub_self])]
  have h2 := sp_pa_stay sg s place (k := k + 1) (by rw [h1]; exact nI_m1 (by omega)) (144 - (k + 1))
  rw [show k + 1 + (144 - (k + 1)) = 144 by omega] at h2
  rw [h2, h1]
set_option maxHeartbeats 4000000 in
set_option maxRecDepth 100000 in
theorem c_X5_withPrint (cA : Nat → ClassId) {sg ta : mm_S} {ad : Nat → Nat → Nat} {M0 M : hm_M} (hR : cr_R cA sg ta ad M0 M) (hI : sp_I sg) (hok : cr_ok sg ta) (s pr : Int32) : hm_XMet cA yX5_withPrint cX5_withPrint 7 (some .int) r_X5_withPrint [.ref (ad 0 0), .int s, .int pr] M (fun v' M' => sp_isS sg s = true ∧ v' = some (.int (sp_wp sg (nN s) pr 12)) ∧ M = M') (fun E M' => sp_isS sg s = false ∧ E = "java/lang/IndexOutOfBoundsException" ∧ M = M') := by
  refine hm_xmet 4 (by decide +kernel) (fun w h => by simp only [List.mem_cons, List.not_mem_nil, or_false] at h; rcases h with rfl | rfl | rfl <;> rfl) rfl (fun C X XE => ?_)
  show hm_W C 0 0 _ M 0 [some (.ref (ad 0 0)), some (.int s), some (.int pr), none, none, none, none] []
  refine hr_aload_n X dX5_withPrint_0 rfl (Or.inr ⟨_, rfl⟩) ?_
  refine hr_iload_n X dX5_withPrint_1 rfl ?_
  refine hr_callVX X XE kC5_49 dX5_withPrint_2 (c_X5_sheetAt cA hR hI s) hR.c0 rfl rfl rfl rfl (Nat.le_of_ble_eq_true rfl) ⟨⟨(Nat.le_of_ble_eq_true rfl), (Nat.le_of_ble_eq_true rfl)⟩, (Nat.le_of_ble_eq_true rfl), (Nat.le_of_ble_eq_true rfl)⟩ (Nat.le_of_ble_eq_true rfl) (Nat.le_of_ble_eq_true rfl) (fun _ _ h => ⟨h.1, h.2⟩) (fun v M2 hp2 => ?_)
  obtain ⟨⟨a, ha, hs, rfl, rfl⟩, rfl⟩ := hp2
  obtain ⟨ha1, ha4⟩ := cr_isS_4 hI hs
  have hS1 : sp_isS sg (nI a) = true := by rw [← cr_isS_nat hI ha]; exact hs
  refine hr_astore_n X dX5_withPrint_5 (Nat.le_of_ble_eq_true rfl) (Or.inr ⟨_, rfl⟩) ?_
  refine hr_iconst (0) X dX5_withPrint_6 (by decide) ?_
  refine hr_istore X dX5_withPrint_7 (Nat.le_of_ble_eq_true rfl) ?_
  refine hr_iconst (0) X dX5_withPrint_9 (by decide) ?_
  refine hr_istore X dX5_withPrint_10 (Nat.le_of_ble_eq_true rfl) ?_
  have lp12 : ∀ (f : Nat) (n : Nat) (y6 : Option Value), 12 < n + f → n ≤ 12 → hm_W C (0 + r_X5_sheetAt.cells) (0 + r_X5_sheetAt.slots) (hm_TX C (fun v' M' => sp_isS sg (nI a) = true ∧ v' = some (.int (sp_wp sg (nN (nI a)) pr 12)) ∧ M = M') (fun E M' => sp_isS sg (nI a) = false ∧ E = "java/lang/IndexOutOfBoundsException" ∧ M = M') r_X5_withPrint.cells r_X5_withPrint.slots) M 12 [some (.ref (ad 0 0)), some (.int (nI a)), some (.int pr), some (.ref (ad 8 a)), some (.int (sp_wp sg a pr n)), some (.int (nI n)), y6] [] := by
    intro f
    induction f with
    | zero => intro n y6 h1 h2; exact absurd h1 (by omega)
    | succ f ih =>
      intro n y6 h1 h2
      refine hr_iload X dX5_withPrint_12 rfl ?_
      refine hr_bipush (12) X dX5_withPrint_14 (by decide) ?_
      refine hr_icmp_ge 57 X dX5_withPrint_16 (by decide) (fun c16 => ?_) (fun c16 => ?_)
      · have hz : n = 12 := by have := (nI_leI (a := 12) (by decide) (by omega)).mp c16; omega
        subst hz
        refine hr_iload X dX5_withPrint_57 rfl ?_
        exact hr_iretX X dX5_withPrint_59 (Nat.le_of_ble_eq_true rfl) (Nat.le_of_ble_eq_true rfl) ⟨hS1, by rw [show nN (nI a) = a from nI_clamp (by omega)], rfl⟩
      · have hn : n < 12 := by
          rcases Nat.lt_or_ge n 12 with q | q
          · exact q
          · exact absurd (nI_le (by omega) (by omega)) c16
        have h9 := hn
        refine hr_aload_n X dX5_withPrint_19 rfl (Or.inr ⟨_, rfl⟩) ?_
        refine hr_get X kF5_160 dX5_withPrint_20 (hR.c8 hs) rfl ?_
        refine hr_iload X dX5_withPrint_23 rfl ?_
        refine hr_aald 6 X rfl dX5_withPrint_25 (hR.c12 hs) (mm_in rfl (by omega) (by decide)).1 ?_
        rw [nI_clamp (by omega)]
        refine hr_astore X dX5_withPrint_26 (Nat.le_of_ble_eq_true rfl) (hm_rf _) ?_
        refine hr_aload X dX5_withPrint_28 rfl (hm_rf _) ?_
        have J51 : ∀ y6 : Option Value, hm_W C (0 + r_X5_sheetAt.cells) (0 + r_X5_sheetAt.slots) (hm_TX C (fun v' M' => sp_isS sg (nI a) = true ∧ v' = some (.int (sp_wp sg (nN (nI a)) pr 12)) ∧ M = M') (fun E M' => sp_isS sg (nI a) = false ∧ E = "java/lang/IndexOutOfBoundsException" ∧ M = M') r_X5_withPrint.cells r_X5_withPrint.slots) M 51 [some (.ref (ad 0 0)), some (.int (nI a)), some (.int pr), some (.ref (ad 8 a)), some (.int (sp_wp sg a pr (n + 1))), some (.int (nI n)), y6] [] := by
          intro y6
          refine hr_iinc (1) X dX5_withPrint_51 rfl (by decide) ?_
          refine hr_goto 12 X dX5_withPrint_54 (by decide) ?_
          rw [nI_1]
          exact ih (n + 1) _ (by omega) (by omega)
        refine hr_ifnull 51 X dX5_withPrint_30 (by decide) (fun c30 => ?_) (fun a30 c30 => ?_)
        · have hn0 : sg 13 (12 * a + n) = 0 := by
            by_cases q : sg 13 (12 * a + n) = 0
            · exact q
            · rw [if_neg q] at c30; cases c30
          have hz := sp_wp_n (sg := sg) (s := a) (n := n) (pr := pr) (by rw [sp_prs_0 hn0]; exact List.not_mem_nil)
          exact hl_loc (by rw [hz] <;> rfl) (J51 _)
        · have hn9 : ¬ sg 13 (12 * a + n) = 0 := fun q => by rw [if_pos q] at c30; cases c30
          have hK9 := cr_isK_at ha1 h9 hn9
          obtain ⟨l9, hP9, hL9, hE9⟩ := cr_pr hok (k := 12 * a + n) (by omega) hn9
          have h169 := hR.c16 hK9
          rw [hL9] at h169
          rw [if_neg hn9]
          refine hr_aload X dX5_withPrint_33 rfl (hm_rf _) ?_
          refine hr_iload_n X dX5_withPrint_35 rfl ?_
          refine hr_callV X kC5_235 dX5_withPrint_36 (c_X0_hasPrint cA h169 (hR.c18 hK9) hP9 pr) h169 rfl rfl rfl rfl (Nat.le_of_ble_eq_true rfl) ⟨⟨(Nat.le_of_ble_eq_true rfl), (Nat.le_of_ble_eq_true rfl)⟩, (Nat.le_of_ble_eq_true rfl), (Nat.le_of_ble_eq_true rfl)⟩ (fun v M36 hp => ?_)
          obtain ⟨rfl, rfl⟩ := hp
          refine hr_if_eq 51 X dX5_withPrint_39 (by decide) (fun c39 => ?_) (fun c39 => ?_)
          · have hz := sp_wp_n (sg := sg) (s := a) (n := n) (pr := pr) (fun q => by rw [decide_eq_true ((hE9 pr).mpr q)] at c39; cases c39)
            exact hl_loc (by rw [hz] <;> rfl) (J51 _)
          · have hz := sp_wp_y (sg := sg) (s := a) (n := n) (pr := pr) ((hE9 pr).mp (of_decide_eq_true (hm_bI_ne.mp c39)))
            refine hr_iload X dX5_withPrint_42 rfl ?_
            refine hr_iconst (1) X dX5_withPrint_44 (by decide) ?_
            refine hr_iload X dX5_withPrint_45 rfl ?_
            refine hr_ishl X dX5_withPrint_47 ?_
            refine hr_ior X dX5_withPrint_48 ?_
            refine hr_istore X dX5_withPrint_49 (Nat.le_of_ble_eq_true rfl) ?_
            exact hl_loc (by rw [hz] <;> rfl) (J51 _)
  exact lp12 13 0 _ (by decide) (by decide)
set_option maxHeartbeats 4000000 in
set_option maxRecDepth 100000 in
theorem c_X3_arePair (cA : Nat → ClassId) {sg ta : mm_S} {ad : Nat → Nat → Nat} {M0 M : hm_M} (hR : cr_R cA sg ta ad M0 M) (hI : sp_I sg) (hok : cr_ok sg ta) (a p q : Nat) (hs : cr_isS sg a = true) (hp : p < 12) (hq : q < 12) : hm_Met cA yX3_arePair cX3_arePair 5 (some .boolean) r_X3_arePair [.ref (ad 8 a), .int (nI p), .int (nI q)] M (hm_pu (some (.int (hm_bI (sp_pairB sg (12 * a + p) (12 * a + q))))) M) := by
  refine hm_met 2 (by decide +kernel) (fun w h => by simp only [List.mem_cons, List.not_mem_nil, or_false] at h; rcases h with rfl | rfl | rfl <;> rfl) rfl (fun C X => ?_)
  show hm_W C 0 0 _ M 0 [some (.ref (ad 8 a)), some (.int (nI p)), some (.int (nI q)), none, none] []
  obtain ⟨ha1, ha4⟩ := cr_isS_4 hI hs
  refine hr_aload_n X dX3_arePair_0 rfl (Or.inr ⟨_, rfl⟩) ?_
  refine hr_get X kF3_30 dX3_arePair_1 (hR.c8 hs) rfl ?_
  refine hr_iload_n X dX3_arePair_4 rfl ?_
  refine hr_aald 6 X rfl dX3_arePair_5 (hR.c12 hs) (mm_in rfl (by omega) (by decide)).1 ?_
  rw [nI_clamp (by omega)]
  refine hr_astore_n X dX3_arePair_6 (Nat.le_of_ble_eq_true rfl) (hm_rf _) ?_
  refine hr_aload_n X dX3_arePair_7 rfl (Or.inr ⟨_, rfl⟩) ?_
  refine hr_get X kF3_30 dX3_arePair_8 (hR.c8 hs) rfl ?_
  refine hr_iload_n X dX3_arePair_11 rfl ?_
  refine hr_aald 6 X rfl dX3_arePair_12 (hR.c12 hs) (mm_in rfl (by omega) (by decide)).1 ?_
  rw [nI_clamp (by omega)]
  refine hr_astore X dX3_arePair_13 (Nat.le_of_ble_eq_true rfl) (hm_rf _) ?_
  refine hr_aload_n X dX3_arePair_15 rfl (hm_rf _) ?_
  refine hr_ifnull 49 X dX3_arePair_16 (by decide) (fun c16 => ?_) (fun a16 c16 => ?_)
  · have hnp : sg 13 (12 * a + p) = 0 := by
      by_cases q : sg 13 (12 * a + p) = 0
      · exact q
      · rw [if_neg q] at c16; cases c16
    have hz := sp_pairB_0 (sg := sg) (k1 := 12 * a + p) (k2 := 12 * a + q) (Or.inl hnp)
    refine hr_iconst (0) X dX3_arePair_49 (by decide) ?_
    exact hr_zret X dX3_arePair_50 (by rfl) (Nat.le_of_ble_eq_true rfl) (Nat.le_of_ble_eq_true rfl) ⟨by rw [hz]; rfl, rfl⟩
  · have hnp : ¬ sg 13 (12 * a + p) = 0 := fun q => by rw [if_pos q] at c16; cases c16
    have hKp := cr_isK_at ha1 hp hnp
    obtain ⟨lp, hPp, hLp, hEp⟩ := cr_pr hok (k := 12 * a + p) (by omega) hnp
    have h16p := hR.c16 hKp
    rw [hLp] at h16p
    rw [if_neg hnp]
    refine hr_aload X dX3_arePair_19 rfl (hm_rf _) ?_
    refine hr_ifnull 49 X dX3_arePair_21 (by decide) (fun c21 => ?_) (fun a21 c21 => ?_)
    · have hnq : sg 13 (12 * a + q) = 0 := by
        by_cases q : sg 13 (12 * a + q) = 0
        · exact q
        · rw [if_neg q] at c21; cases c21
      have hz := sp_pairB_0 (sg := sg) (k1 := 12 * a + p) (k2 := 12 * a + q) (Or.inr hnq)
      refine hr_iconst (0) X dX3_arePair_49 (by decide) ?_
      exact hr_zret X dX3_arePair_50 (by rfl) (Nat.le_of_ble_eq_true rfl) (Nat.le_of_ble_eq_true rfl) ⟨by rw [hz]; rfl, rfl⟩
    · have hnq : ¬ sg 13 (12 * a + q) = 0 := fun q => by rw [if_pos q] at c21; cases c21
      have hKq := cr_isK_at ha1 hq hnq
      obtain ⟨lq, hPq, hLq, hEq⟩ := cr_pr hok (k := 12 * a + q) (by omega) hnq
      have h16q := hR.c16 hKq
      rw [hLq] at h16q
      rw [if_neg hnq]
      obtain ⟨-, hZ⟩ := cr_lk hI (k1 := 12 * a + p) (k2 := 12 * a + q) (by omega) (by omega) hPp hPq hEp hEq
      refine hr_aload_n X dX3_arePair_24 rfl (hm_rf _) ?_
      refine hr_aload X dX3_arePair_25 rfl (hm_rf _) ?_
      refine hr_callV X kC3_58 dX3_arePair_27 (c_X0_commonPrints cA h16p (hR.c18 hKp) hPp h16q (hR.c18 hKq) hPq) h16p rfl rfl rfl rfl (Nat.le_of_ble_eq_true rfl) ⟨⟨(Nat.le_of_ble_eq_true rfl), (Nat.le_of_ble_eq_true rfl)⟩, (Nat.le_of_ble_eq_true rfl), (Nat.le_of_ble_eq_true rfl)⟩ (fun v M27 hp => ?_)
      obtain ⟨rfl, rfl⟩ := hp
      refine hr_aload_n X dX3_arePair_30 rfl (hm_rf _) ?_
      refine hr_get X kF3_62 dX3_arePair_31 h16p rfl ?_
      refine hr_aload X dX3_arePair_34 rfl (hm_rf _) ?_
      refine hr_get X kF3_62 dX3_arePair_36 h16q rfl ?_
      refine hr_callSN X kC3_65 dX3_arePair_39 (c_X5_isPairBy cA (M := M) (nI (ca_cm lp lq)) (nI lp.length) (nI lq.length)) rfl rfl rfl (Nat.le_of_ble_eq_true rfl) ⟨⟨(Nat.le_of_ble_eq_true rfl), (Nat.le_of_ble_eq_true rfl)⟩, (Nat.le_of_ble_eq_true rfl), (Nat.le_of_ble_eq_true rfl)⟩ (fun v M39 hp => ?_)
      obtain ⟨rfl, rfl⟩ := hp
      refine hr_if_eq 49 X dX3_arePair_42 (by decide) (fun c42 => ?_) (fun c42 => ?_)
      · have hz : sp_pairB sg (12 * a + p) (12 * a + q) = false := by rw [hZ]; exact hm_bI_eq.mp c42
        refine hr_iconst (0) X dX3_arePair_49 (by decide) ?_
        exact hr_zret X dX3_arePair_50 (by rfl) (Nat.le_of_ble_eq_true rfl) (Nat.le_of_ble_eq_true rfl) ⟨by rw [hz]; rfl, rfl⟩
      · have hz : sp_pairB sg (12 * a + p) (12 * a + q) = true := by rw [hZ]; exact hm_bI_ne.mp c42
        refine hr_iconst (1) X dX3_arePair_45 (by decide) ?_
        refine hr_goto 50 X dX3_arePair_46 (by decide) ?_
        exact hr_zret X dX3_arePair_50 (by rfl) (Nat.le_of_ble_eq_true rfl) (Nat.le_of_ble_eq_true rfl) ⟨by rw [hz]; rfl, rfl⟩
set_option maxHeartbeats 4000000 in
set_option maxRecDepth 100000 in
theorem c_X5_likeness (cA : Nat → ClassId) {sg ta : mm_S} {ad : Nat → Nat → Nat} {M0 M : hm_M} (hR : cr_R cA sg ta ad M0 M) (hI : sp_I sg) (hok : cr_ok sg ta) (s p q : Int32) : hm_XMet cA yX5_likeness cX5_likeness 7 (some .int) r_X5_likeness [.ref (ad 0 0), .int s, .int p, .int q] M (fun v' M' => (sp_isS sg s && sp_in p 0 11 && sp_in q 0 11) = true ∧ v' = some (.int (sp_like sg s p q)) ∧ M = M') (fun E M' => (sp_isS sg s && sp_in p 0 11 && sp_in q 0 11) = false ∧ E = "java/lang/IndexOutOfBoundsException" ∧ M = M') := by
  refine hm_xmet 3 (by decide +kernel) (fun w h => by simp only [List.mem_cons, List.not_mem_nil, or_false] at h; rcases h with rfl | rfl | rfl | rfl <;> rfl) rfl (fun C X XE => ?_)
  show hm_W C 0 0 _ M 0 [some (.ref (ad 0 0)), some (.int s), some (.int p), some (.int q), none, none, none] []
  refine hr_aload_n X dX5_likeness_0 rfl (Or.inr ⟨_, rfl⟩) ?_
  refine hr_iload_n X dX5_likeness_1 rfl ?_
  refine hr_callVX X XE kC5_49 dX5_likeness_2 (c_X5_sheetAt cA hR hI s) hR.c0 rfl rfl rfl rfl (Nat.le_of_ble_eq_true rfl) ⟨⟨(Nat.le_of_ble_eq_true rfl), (Nat.le_of_ble_eq_true rfl)⟩, (Nat.le_of_ble_eq_true rfl), (Nat.le_of_ble_eq_true rfl)⟩ (Nat.le_of_ble_eq_true rfl) (Nat.le_of_ble_eq_true rfl) (fun _ _ h => ⟨sb_andF1 (sb_andF1 h.1), h.2⟩) (fun v M2 hp2 => ?_)
  obtain ⟨⟨a, ha, hs, rfl, rfl⟩, rfl⟩ := hp2
  obtain ⟨ha1, ha4⟩ := cr_isS_4 hI hs
  have hS1 : sp_isS sg (nI a) = true := by rw [← cr_isS_nat hI ha]; exact hs
  refine hr_astore X dX5_likeness_5 (Nat.le_of_ble_eq_true rfl) (Or.inr ⟨_, rfl⟩) ?_
  refine hr_iload_n X dX5_likeness_7 rfl ?_
  refine hr_callSX X XE kC5_153 dX5_likeness_8 (c_X5_checkPupil cA (M := M) p) rfl rfl rfl (Nat.le_of_ble_eq_true rfl) ⟨⟨(Nat.le_of_ble_eq_true rfl), (Nat.le_of_ble_eq_true rfl)⟩, (Nat.le_of_ble_eq_true rfl), (Nat.le_of_ble_eq_true rfl)⟩ (Nat.le_of_ble_eq_true rfl) (Nat.le_of_ble_eq_true rfl) (fun _ _ h => ⟨sb_andF1 (sb_andF2 h.1), h.2⟩) (fun v M8 hp8 => ?_)
  obtain ⟨h8, rfl, rfl⟩ := hp8
  obtain ⟨p, hp, rfl⟩ := sp_in_p h8
  refine hr_iload_n X dX5_likeness_11 rfl ?_
  refine hr_callSX X XE kC5_153 dX5_likeness_12 (c_X5_checkPupil cA (M := M) q) rfl rfl rfl (Nat.le_of_ble_eq_true rfl) ⟨⟨(Nat.le_of_ble_eq_true rfl), (Nat.le_of_ble_eq_true rfl)⟩, (Nat.le_of_ble_eq_true rfl), (Nat.le_of_ble_eq_true rfl)⟩ (Nat.le_of_ble_eq_true rfl) (Nat.le_of_ble_eq_true rfl) (fun _ _ h => ⟨sb_andF2 h.1, h.2⟩) (fun v M12 hp12 => ?_)
  obtain ⟨h12, rfl, rfl⟩ := hp12
  obtain ⟨q, hq, rfl⟩ := sp_in_p h12
  have hC1 : (sp_isS sg (nI a) && sp_in (nI p) 0 11 && sp_in (nI q) 0 11) = true := sb_andT (sb_andT hS1 h8) h12
  have ek : sp_k (nI p) (nI a) = 12 * a + p := by rw [sp_k, show nN (nI a) = a from nI_clamp (by omega), show nN (nI p) = p from nI_clamp (by omega)]
  have ek2 : sp_k (nI q) (nI a) = 12 * a + q := by rw [sp_k, show nN (nI a) = a from nI_clamp (by omega), show nN (nI q) = q from nI_clamp (by omega)]
  refine hr_aload X dX5_likeness_15 rfl (Or.inr ⟨_, rfl⟩) ?_
  refine hr_get X kF5_160 dX5_likeness_17 (hR.c8 hs) rfl ?_
  refine hr_iload_n X dX5_likeness_20 rfl ?_
  refine hr_aald 6 X rfl dX5_likeness_21 (hR.c12 hs) (mm_in rfl (by omega) (by decide)).1 ?_
  rw [nI_clamp (by omega)]
  refine hr_astore X dX5_likeness_22 (Nat.le_of_ble_eq_true rfl) (hm_rf _) ?_
  refine hr_aload X dX5_likeness_24 rfl (Or.inr ⟨_, rfl⟩) ?_
  refine hr_get X kF5_160 dX5_likeness_26 (hR.c8 hs) rfl ?_
  refine hr_iload_n X dX5_likeness_29 rfl ?_
  refine hr_aald 6 X rfl dX5_likeness_30 (hR.c12 hs) (mm_in rfl (by omega) (by decide)).1 ?_
  rw [nI_clamp (by omega)]
  refine hr_astore X dX5_likeness_31 (Nat.le_of_ble_eq_true rfl) (hm_rf _) ?_
  refine hr_iload_n X dX5_likeness_33 rfl ?_
  refine hr_iload_n X dX5_likeness_34 rfl ?_
  refine hr_icmp_eq 48 X dX5_likeness_35 (by decide) (fun c35 => ?_) (fun c35 => ?_)
  · have hz : sp_like sg (nI a) (nI p) (nI q) = 0 := if_pos c35
    refine hr_iconst (0) X dX5_likeness_48 (by decide) ?_
    exact hr_iretX X dX5_likeness_49 (Nat.le_of_ble_eq_true rfl) (Nat.le_of_ble_eq_true rfl) ⟨hC1, by rw [hz], rfl⟩
  · refine hr_aload X dX5_likeness_38 rfl (hm_rf _) ?_
    refine hr_ifnull 48 X dX5_likeness_40 (by decide) (fun c40 => ?_) (fun a40 c40 => ?_)
    · have hnp : sg 13 (12 * a + p) = 0 := by
        by_cases q : sg 13 (12 * a + p) = 0
        · exact q
        · rw [if_neg q] at c40; cases c40
      have hz : sp_like sg (nI a) (nI p) (nI q) = 0 := by
        unfold sp_like
        by_cases z : nI p = nI q
        · exact if_pos z
        · rw [if_neg z, ek, ek2, sp_alk_0 (Or.inl hnp)]; decide
      refine hr_iconst (0) X dX5_likeness_48 (by decide) ?_
      exact hr_iretX X dX5_likeness_49 (Nat.le_of_ble_eq_true rfl) (Nat.le_of_ble_eq_true rfl) ⟨hC1, by rw [hz], rfl⟩
    · have hnp : ¬ sg 13 (12 * a + p) = 0 := fun q => by rw [if_pos q] at c40; cases c40
      have hKp := cr_isK_at ha1 hp hnp
      obtain ⟨lp, hPp, hLp, hEp⟩ := cr_pr hok (k := 12 * a + p) (by omega) hnp
      have h16p := hR.c16 hKp
      rw [hLp] at h16p
      rw [if_neg hnp]
      refine hr_aload X dX5_likeness_43 rfl (hm_rf _) ?_
      refine hr_ifnonnull 50 X dX5_likeness_45 (by decide) (fun a45 c45 => ?_) (fun c45 => ?_)
      · have hnq : ¬ sg 13 (12 * a + q) = 0 := fun q => by rw [if_pos q] at c45; cases c45
        have hKq := cr_isK_at ha1 hq hnq
        obtain ⟨lq, hPq, hLq, hEq⟩ := cr_pr hok (k := 12 * a + q) (by omega) hnq
        have h16q := hR.c16 hKq
        rw [hLq] at h16q
        rw [if_neg hnq]
        obtain ⟨hZ, -⟩ := cr_lk hI (k1 := 12 * a + p) (k2 := 12 * a + q) (by omega) (by omega) hPp hPq hEp hEq
        have hz : sp_like sg (nI a) (nI p) (nI q) = sb_lk (nI (ca_cm lp lq)) (nI lp.length) (nI lq.length) := by rw [← hZ, sp_like, if_neg c35, ek, ek2]
        refine hr_aload X dX5_likeness_50 rfl (hm_rf _) ?_
        refine hr_aload X dX5_likeness_52 rfl (hm_rf _) ?_
        refine hr_callV X kC5_238 dX5_likeness_54 (c_X0_commonPrints cA h16p (hR.c18 hKp) hPp h16q (hR.c18 hKq) hPq) h16p rfl rfl rfl rfl (Nat.le_of_ble_eq_true rfl) ⟨⟨(Nat.le_of_ble_eq_true rfl), (Nat.le_of_ble_eq_true rfl)⟩, (Nat.le_of_ble_eq_true rfl), (Nat.le_of_ble_eq_true rfl)⟩ (fun v M54 hp => ?_)
        obtain ⟨rfl, rfl⟩ := hp
        refine hr_aload X dX5_likeness_57 rfl (hm_rf _) ?_
        refine hr_get X kF5_232 dX5_likeness_59 h16p rfl ?_
        refine hr_aload X dX5_likeness_62 rfl (hm_rf _) ?_
        refine hr_get X kF5_232 dX5_likeness_64 h16q rfl ?_
        refine hr_callS X kC5_242 dX5_likeness_67 (c_X5_likenessBy cA (M := M) (nI (ca_cm lp lq)) (nI lp.length) (nI lq.length)) rfl rfl rfl (Nat.le_of_ble_eq_true rfl) ⟨⟨(Nat.le_of_ble_eq_true rfl), (Nat.le_of_ble_eq_true rfl)⟩, (Nat.le_of_ble_eq_true rfl), (Nat.le_of_ble_eq_true rfl)⟩ (fun v M67 hp => ?_)
        obtain ⟨rfl, rfl⟩ := hp
        exact hr_iretX X dX5_likeness_70 (Nat.le_of_ble_eq_true rfl) (Nat.le_of_ble_eq_true rfl) ⟨hC1, by rw [hz], rfl⟩
      · have hnq : sg 13 (12 * a + q) = 0 := by
          by_cases q : sg 13 (12 * a + q) = 0
          · exact q
          · rw [if_neg q] at c45; cases c45
        have hz : sp_like sg (nI a) (nI p) (nI q) = 0 := by
          unfold sp_like
          by_cases z : nI p = nI q
          · exact if_pos z
          · rw [if_neg z, ek, ek2, sp_alk_0 (Or.inr hnq)]; decide
        refine hr_iconst (0) X dX5_likeness_48 (by decide) ?_
        exact hr_iretX X dX5_likeness_49 (Nat.le_of_ble_eq_true rfl) (Nat.le_of_ble_eq_true rfl) ⟨hC1, by rw [hz], rfl⟩
set_option maxHeartbeats 4000000 in
set_option maxRecDepth 100000 in
theorem c_X5_pairs (cA : Nat → ClassId) {sg ta : mm_S} {ad : Nat → Nat → Nat} {M0 M : hm_M} (hR : cr_R cA sg ta ad M0 M) (hI : sp_I sg) (hok : cr_ok sg ta) (s : Int32) : hm_XMet cA yX5_pairs cX5_pairs 6 (some .int) r_X5_pairs [.ref (ad 0 0), .int s] M (fun v' M' => sp_isS sg s = true ∧ v' = some (.int (sp_prN sg (nN s) 144)) ∧ M = M') (fun E M' => sp_isS sg s = false ∧ E = "java/lang/IndexOutOfBoundsException" ∧ M = M') := by
  refine hm_xmet 4 (by decide +kernel) (fun w h => by simp only [List.mem_cons, List.not_mem_nil, or_false] at h; rcases h with rfl | rfl <;> rfl) rfl (fun C X XE => ?_)
  show hm_W C 0 0 _ M 0 [some (.ref (ad 0 0)), some (.int s), none, none, none, none] []
  refine hr_aload_n X dX5_pairs_0 rfl (Or.inr ⟨_, rfl⟩) ?_
  refine hr_iload_n X dX5_pairs_1 rfl ?_
  refine hr_callVX X XE kC5_49 dX5_pairs_2 (c_X5_sheetAt cA hR hI s) hR.c0 rfl rfl rfl rfl (Nat.le_of_ble_eq_true rfl) ⟨⟨(Nat.le_of_ble_eq_true rfl), (Nat.le_of_ble_eq_true rfl)⟩, (Nat.le_of_ble_eq_true rfl), (Nat.le_of_ble_eq_true rfl)⟩ (Nat.le_of_ble_eq_true rfl) (Nat.le_of_ble_eq_true rfl) (fun _ _ h => ⟨h.1, h.2⟩) (fun v M2 hp2 => ?_)
  obtain ⟨⟨a, ha, hs, rfl, rfl⟩, rfl⟩ := hp2
  obtain ⟨ha1, ha4⟩ := cr_isS_4 hI hs
  have hS1 : sp_isS sg (nI a) = true := by rw [← cr_isS_nat hI ha]; exact hs
  refine hr_astore_n X dX5_pairs_5 (Nat.le_of_ble_eq_true rfl) (Or.inr ⟨_, rfl⟩) ?_
  refine hr_iconst (0) X dX5_pairs_6 (by decide) ?_
  refine hr_istore_n X dX5_pairs_7 (Nat.le_of_ble_eq_true rfl) ?_
  refine hr_iconst (0) X dX5_pairs_8 (by decide) ?_
  refine hr_istore X dX5_pairs_9 (Nat.le_of_ble_eq_true rfl) ?_
  have lp11 : ∀ (f : Nat) (l : Nat) (y5 : Option Value), 12 < l + f → l ≤ 12 → hm_W C (0 + r_X5_sheetAt.cells) (0 + r_X5_sheetAt.slots) (hm_TX C (fun v' M' => sp_isS sg (nI a) = true ∧ v' = some (.int (sp_prN sg (nN (nI a)) 144)) ∧ M = M') (fun E M' => sp_isS sg (nI a) = false ∧ E = "java/lang/IndexOutOfBoundsException" ∧ M = M') r_X5_pairs.cells r_X5_pairs.slots) M 11 [some (.ref (ad 0 0)), some (.int (nI a)), some (.ref (ad 8 a)), some (.int (sp_prN sg a (12 * l))), some (.int (nI l)), y5] [] := by
    intro f
    induction f with
    | zero => intro l y5 h1 h2; exact absurd h1 (by omega)
    | succ f ih =>
      intro l y5 h1 h2
      refine hr_iload X dX5_pairs_11 rfl ?_
      refine hr_bipush (12) X dX5_pairs_13 (by decide) ?_
      refine hr_icmp_ge 57 X dX5_pairs_15 (by decide) (fun c15 => ?_) (fun c15 => ?_)
      · have hz : l = 12 := by have := (nI_leI (a := 12) (by decide) (by omega)).mp c15; omega
        subst hz
        refine hr_iload_n X dX5_pairs_57 rfl ?_
        exact hr_iretX X dX5_pairs_58 (Nat.le_of_ble_eq_true rfl) (Nat.le_of_ble_eq_true rfl) ⟨hS1, by rw [show nN (nI a) = a from nI_clamp (by omega)], rfl⟩
      · have hl : l < 12 := by
          rcases Nat.lt_or_ge l 12 with q | q
          · exact q
          · exact absurd (nI_le (by omega) (by omega)) c15
        refine hr_iload X dX5_pairs_18 rfl ?_
        refine hr_iconst (1) X dX5_pairs_20 (by decide) ?_
        refine hr_iadd X dX5_pairs_21 ?_
        refine hr_istore X dX5_pairs_22 (Nat.le_of_ble_eq_true rfl) ?_
        have lp24 : ∀ (f : Nat) (o : Nat), 12 < o + f → l < o → o ≤ 12 → hm_W C (0 + r_X5_sheetAt.cells) (0 + r_X5_sheetAt.slots) (hm_TX C (fun v' M' => sp_isS sg (nI a) = true ∧ v' = some (.int (sp_prN sg (nN (nI a)) 144)) ∧ M = M') (fun E M' => sp_isS sg (nI a) = false ∧ E = "java/lang/IndexOutOfBoundsException" ∧ M = M') r_X5_pairs.cells r_X5_pairs.slots) M 24 [some (.ref (ad 0 0)), some (.int (nI a)), some (.ref (ad 8 a)), some (.int (sp_prN sg a (12 * l + o))), some (.int (nI l)), some (.int (nI o))] [] := by
          intro f
          induction f with
          | zero => intro o g1 g2 g3; exact absurd g1 (by omega)
          | succ f ih24 =>
            intro o g1 g2 g3
            refine hr_iload X dX5_pairs_24 rfl ?_
            refine hr_bipush (12) X dX5_pairs_26 (by decide) ?_
            refine hr_icmp_ge 51 X dX5_pairs_28 (by decide) (fun c28 => ?_) (fun c28 => ?_)
            · have ho : o = 12 := by have := (nI_leI (a := 12) (by decide) (by omega)).mp c28; omega
              subst ho
              rw [show 12 * l + 12 = 12 * (l + 1) by omega]
              refine hr_iinc (1) X dX5_pairs_51 rfl (by decide) ?_
              refine hr_goto 11 X dX5_pairs_54 (by decide) ?_
              rw [nI_1]
              exact ih (l + 1) _ (by omega) (by omega)
            · have ho : o < 12 := by
                rcases Nat.lt_or_ge o 12 with q | q
                · exact q
                · exact absurd (nI_le (by omega) (by omega)) c28
              refine hr_aload_n X dX5_pairs_31 rfl (Or.inr ⟨_, rfl⟩) ?_
              refine hr_iload X dX5_pairs_32 rfl ?_
              refine hr_iload X dX5_pairs_34 rfl ?_
              refine hr_callV X kC5_246 dX5_pairs_36 (c_X3_arePair cA hR hI hok a l o hs hl ho) (hR.c8 hs) rfl rfl rfl rfl (Nat.le_of_ble_eq_true rfl) ⟨⟨(Nat.le_of_ble_eq_true rfl), (Nat.le_of_ble_eq_true rfl)⟩, (Nat.le_of_ble_eq_true rfl), (Nat.le_of_ble_eq_true rfl)⟩ (fun v M36 hp => ?_)
              obtain ⟨rfl, rfl⟩ := hp
              have J45 : hm_W C (0 + r_X5_sheetAt.cells) (0 + r_X5_sheetAt.slots) (hm_TX C (fun v' M' => sp_isS sg (nI a) = true ∧ v' = some (.int (sp_prN sg (nN (nI a)) 144)) ∧ M = M') (fun E M' => sp_isS sg (nI a) = false ∧ E = "java/lang/IndexOutOfBoundsException" ∧ M = M') r_X5_pairs.cells r_X5_pairs.slots) M 45 [some (.ref (ad 0 0)), some (.int (nI a)), some (.ref (ad 8 a)), some (.int (sp_prN sg a (12 * l + (o + 1)))), some (.int (nI l)), some (.int (nI o))] [] := by
                refine hr_iinc (1) X dX5_pairs_45 rfl (by decide) ?_
                refine hr_goto 24 X dX5_pairs_48 (by decide) ?_
                rw [nI_1]
                exact ih24 (o + 1) (by omega) (by omega) (by omega)
              refine hr_if_eq 45 X dX5_pairs_39 (by decide) (fun c39 => ?_) (fun c39 => ?_)
              · have hz : sp_prN sg a (12 * l + (o + 1)) = sp_prN sg a (12 * l + o) := sp_prN_n (k := 12 * l + o) ((sp_pk_is g2 ho).trans (hm_bI_eq.mp c39))
                exact hl_loc (by rw [hz] <;> rfl) J45
              · have hz : sp_prN sg a (12 * l + (o + 1)) = sp_prN sg a (12 * l + o) + 1 := sp_prN_y (k := 12 * l + o) ((sp_pk_is g2 ho).trans (hm_bI_ne.mp c39))
                refine hr_iinc (1) X dX5_pairs_42 rfl (by decide) ?_
                exact hl_loc (by rw [hz] <;> rfl) J45
        have z := lp24 13 (l + 1) (by omega) (by omega) (by omega)
        rw [sp_prN_sk hl (l + 1) (Nat.le_refl _), ← nI_1] at z
        exact z
  exact lp11 13 0 _ (by decide) (by decide)
set_option maxHeartbeats 4000000 in
set_option maxRecDepth 100000 in
theorem c_X5_pairAt (cA : Nat → ClassId) {sg ta : mm_S} {ad : Nat → Nat → Nat} {M0 M : hm_M} (hR : cr_R cA sg ta ad M0 M) (hI : sp_I sg) (hok : cr_ok sg ta) (s place : Int32) : hm_XMet cA yX5_pairAt cX5_pairAt 7 (some .int) r_X5_pairAt [.ref (ad 0 0), .int s, .int place] M (fun v' M' => ¬ sp_paR sg s place = -1 ∧ v' = some (.int (sp_paR sg s place)) ∧ M = M') (fun E M' => sp_paR sg s place = -1 ∧ E = "java/lang/IndexOutOfBoundsException" ∧ M = M') := by
  refine hm_xmet 4 (by decide +kernel) (fun w h => by simp only [List.mem_cons, List.not_mem_nil, or_false] at h; rcases h with rfl | rfl | rfl <;> rfl) rfl (fun C X XE => ?_)
  show hm_W C 0 0 _ M 0 [some (.ref (ad 0 0)), some (.int s), some (.int place), none, none, none, none] []
  refine hr_aload_n X dX5_pairAt_0 rfl (Or.inr ⟨_, rfl⟩) ?_
  refine hr_iload_n X dX5_pairAt_1 rfl ?_
  refine hr_callVX X XE kC5_49 dX5_pairAt_2 (c_X5_sheetAt cA hR hI s) hR.c0 rfl rfl rfl rfl (Nat.le_of_ble_eq_true rfl) ⟨⟨(Nat.le_of_ble_eq_true rfl), (Nat.le_of_ble_eq_true rfl)⟩, (Nat.le_of_ble_eq_true rfl), (Nat.le_of_ble_eq_true rfl)⟩ (Nat.le_of_ble_eq_true rfl) (Nat.le_of_ble_eq_true rfl) (fun _ _ h => ⟨(show sp_paR sg s place = -1 from if_neg (by rw [h.1, Bool.false_and]; decide)), h.2⟩) (fun v M2 hp2 => ?_)
  obtain ⟨⟨a, ha, hs, rfl, rfl⟩, rfl⟩ := hp2
  obtain ⟨ha1, ha4⟩ := cr_isS_4 hI hs
  have hS1 : sp_isS sg (nI a) = true := by rw [← cr_isS_nat hI ha]; exact hs
  have en : nN (nI a) = a := nI_clamp (by omega)
  refine hr_astore_n X dX5_pairAt_5 (Nat.le_of_ble_eq_true rfl) (Or.inr ⟨_, rfl⟩) ?_
  refine hr_iconst (0) X dX5_pairAt_6 (by decide) ?_
  refine hr_istore X dX5_pairAt_7 (Nat.le_of_ble_eq_true rfl) ?_
  refine hr_iconst (0) X dX5_pairAt_9 (by decide) ?_
  refine hr_istore X dX5_pairAt_10 (Nat.le_of_ble_eq_true rfl) ?_
  have lp12 : ∀ (f : Nat) (l c : Nat) (y6 : Option Value), 12 < l + f → l ≤ 12 → c ≤ 12 * l → sp_pa sg a place (12 * l) = (place - nI c, -1) → hm_W C (0 + r_X5_sheetAt.cells) (0 + r_X5_sheetAt.slots) (hm_TX C (fun v' M' => ¬ sp_paR sg (nI a) place = -1 ∧ v' = some (.int (sp_paR sg (nI a) place)) ∧ M = M') (fun E M' => sp_paR sg (nI a) place = -1 ∧ E = "java/lang/IndexOutOfBoundsException" ∧ M = M') r_X5_pairAt.cells r_X5_pairAt.slots) M 12 [some (.ref (ad 0 0)), some (.int (nI a)), some (.int place), some (.ref (ad 8 a)), some (.int (nI c)), some (.int (nI l)), y6] [] := by
    intro f
    induction f with
    | zero => intro l c y6 h1 h2 h3 h4; exact absurd h1 (by omega)
    | succ f ih =>
      intro l c y6 h1 h2 h3 h4
      refine hr_iload X dX5_pairAt_12 rfl ?_
      refine hr_bipush (12) X dX5_pairAt_14 (by decide) ?_
      refine hr_icmp_ge 73 X dX5_pairAt_16 (by decide) (fun c16 => ?_) (fun c16 => ?_)
      · have hz : l = 12 := by have := (nI_leI (a := 12) (by decide) (by omega)).mp c16; omega
        subst hz
        have hz : sp_paR sg (nI a) place = -1 := by
          unfold sp_paR
          rw [en]
          by_cases z : (sp_isS sg (nI a) && !decide (place < 0)) = true
          · rw [if_pos z, show (144 : Nat) = 12 * 12 from rfl, h4]
          · rw [if_neg z]
        exact hr_throw X XE kT5_249_251_253 dX5_pairAt_73 dX5_pairAt_76 dX5_pairAt_77 dX5_pairAt_79 dX5_pairAt_82 rfl ⟨(Nat.le_of_ble_eq_true rfl), (Nat.le_of_ble_eq_true rfl), (Nat.le_of_ble_eq_true rfl), (Nat.le_of_ble_eq_true rfl)⟩ (Nat.le_of_ble_eq_true rfl) (Nat.le_of_ble_eq_true rfl) ⟨hz, rfl, rfl⟩
      · have hl : l < 12 := by
          rcases Nat.lt_or_ge l 12 with q | q
          · exact q
          · exact absurd (nI_le (by omega) (by omega)) c16
        refine hr_iload X dX5_pairAt_19 rfl ?_
        refine hr_iconst (1) X dX5_pairAt_21 (by decide) ?_
        refine hr_iadd X dX5_pairAt_22 ?_
        refine hr_istore X dX5_pairAt_23 (Nat.le_of_ble_eq_true rfl) ?_
        have lp25 : ∀ (f : Nat) (o c : Nat), 12 < o + f → l < o → o ≤ 12 → c ≤ 12 * l + o → sp_pa sg a place (12 * l + o) = (place - nI c, -1) → hm_W C (0 + r_X5_sheetAt.cells) (0 + r_X5_sheetAt.slots) (hm_TX C (fun v' M' => ¬ sp_paR sg (nI a) place = -1 ∧ v' = some (.int (sp_paR sg (nI a) place)) ∧ M = M') (fun E M' => sp_paR sg (nI a) place = -1 ∧ E = "java/lang/IndexOutOfBoundsException" ∧ M = M') r_X5_pairAt.cells r_X5_pairAt.slots) M 25 [some (.ref (ad 0 0)), some (.int (nI a)), some (.int place), some (.ref (ad 8 a)), some (.int (nI c)), some (.int (nI l)), some (.int (nI o))] [] := by
          intro f
          induction f with
          | zero => intro o c g1 g2 g3 g4 g5; exact absurd g1 (by omega)
          | succ f ih25 =>
            intro o c g1 g2 g3 g4 g5
            refine hr_iload X dX5_pairAt_25 rfl ?_
            refine hr_bipush (12) X dX5_pairAt_27 (by decide) ?_
            refine hr_icmp_ge 67 X dX5_pairAt_29 (by decide) (fun c29 => ?_) (fun c29 => ?_)
            · have ho : o = 12 := by have := (nI_leI (a := 12) (by decide) (by omega)).mp c29; omega
              subst ho
              rw [show 12 * l + 12 = 12 * (l + 1) by omega] at g5
              refine hr_iinc (1) X dX5_pairAt_67 rfl (by decide) ?_
              refine hr_goto 12 X dX5_pairAt_70 (by decide) ?_
              rw [nI_1]
              exact ih (l + 1) _ _ (by omega) (by omega) (by omega) g5
            · have ho : o < 12 := by
                rcases Nat.lt_or_ge o 12 with q | q
                · exact q
                · exact absurd (nI_le (by omega) (by omega)) c29
              refine hr_aload_n X dX5_pairAt_32 rfl (Or.inr ⟨_, rfl⟩) ?_
              refine hr_iload X dX5_pairAt_33 rfl ?_
              refine hr_iload X dX5_pairAt_35 rfl ?_
              refine hr_callV X kC5_246 dX5_pairAt_37 (c_X3_arePair cA hR hI hok a l o hs hl ho) (hR.c8 hs) rfl rfl rfl rfl (Nat.le_of_ble_eq_true rfl) ⟨⟨(Nat.le_of_ble_eq_true rfl), (Nat.le_of_ble_eq_true rfl)⟩, (Nat.le_of_ble_eq_true rfl), (Nat.le_of_ble_eq_true rfl)⟩ (fun v M37 hp => ?_)
              obtain ⟨rfl, rfl⟩ := hp
              refine hr_if_eq 61 X dX5_pairAt_40 (by decide) (fun c40 => ?_) (fun c40 => ?_)
              · have hz := sp_pa_n g5 ((sp_pk_is g2 ho).trans (hm_bI_eq.mp c40))
                refine hr_iinc (1) X dX5_pairAt_61 rfl (by decide) ?_
                refine hr_goto 25 X dX5_pairAt_64 (by decide) ?_
                rw [nI_1]
                exact ih25 (o + 1) _ (by omega) (by omega) (by omega) (by omega) hz
              · have hp := (sp_pk_is (sg := sg) (s := a) g2 ho).trans (hm_bI_ne.mp c40)
                refine hr_iload X dX5_pairAt_43 rfl ?_
                refine hr_iload_n X dX5_pairAt_45 rfl ?_
                refine hr_icmp_ne 58 X dX5_pairAt_46 (by decide) (fun c46 => ?_) (fun c46 => ?_)
                · have hz := sp_pa_y g5 hp c46
                  refine hr_iinc (1) X dX5_pairAt_58 rfl (by decide) ?_
                  rw [nI_1]
                  refine hr_iinc (1) X dX5_pairAt_61 rfl (by decide) ?_
                  refine hr_goto 25 X dX5_pairAt_64 (by decide) ?_
                  rw [nI_1]
                  exact ih25 (o + 1) _ (by omega) (by omega) (by omega) (by omega) hz
                · have hz : sp_paR sg (nI a) place = nI (100 * l + o) := by
                    unfold sp_paR
                    rw [en, if_pos (sb_andT hS1 (by rw [decide_eq_false (Int32.not_lt.mpr (by rw [← c46]; exact nI_pos' (by omega)))]; rfl)), sp_pa_e g5 hp c46 (by omega), show (12 * l + o) / 12 = l by omega, show (12 * l + o) % 12 = o by omega]
                  refine hr_bipush (100) X dX5_pairAt_49 (by decide) ?_
                  refine hr_iload X dX5_pairAt_51 rfl ?_
                  refine hr_imul X dX5_pairAt_53 ?_
                  refine hr_iload X dX5_pairAt_54 rfl ?_
                  refine hr_iadd X dX5_pairAt_56 ?_
                  exact hr_iretX X dX5_pairAt_57 (Nat.le_of_ble_eq_true rfl) (Nat.le_of_ble_eq_true rfl) ⟨by rw [hz]; exact nI_m1 (by omega), by rw [hz, show (100 : Int32) * nI l = nI (100 * l) from nI_mul 100 l, nI_add], rfl⟩
        rw [nI_1]
        exact lp25 13 (l + 1) c (by omega) (by omega) (by omega) (by omega) (by rw [sp_pa_sk hl (l + 1) (Nat.le_refl _)]; exact h4)
  exact lp12 13 0 0 _ (by decide) (by decide) (by decide) (by show (place, (-1 : Int32)) = _; rw [show nI 0 = (0 : Int32) from rfl, Int32.sub_zero])
