/-! an answer's fingerprints laid anew; the due mark taken -/
section HP
variable {C : hm_C} {k n : Nat} {Q : State → Prop} {M M0 : hm_M} {pc : Nat} {L : List (Option Value)} {st : List Value} {cA : Nat → ClassId} {sg ta : mm_S} {ad : Nat → Nat → Nat}
theorem hr_w18 (h : cr_R cA sg ta ad M0 M) {y c : Nat} {v : Int32} (hK : cr_isK sg y = true) (hc : c < 50) (kk : ∀ M2 : hm_M, cr_R cA sg (mm_up ta 3 (50 * y + c) v) ad M0 M2 → hm_W C k n Q M2 pc L st) : hm_W C k n Q (hm_up M (ad 18 y) (.inl (cA 0, 50, .inl (upd (fun i => ta 3 (50 * y + i)) c v)))) pc L st := by
  refine hr_re1 h (q0 := 18) (x0 := y) (if_pos hK) (fun e he => ?_) (fun q z e hn he => ?_) kk
  · cases cr_ob_e he
    refine va_sm.i (fun i hi => ?_)
    unfold upd
    by_cases z : i = c
    · rw [if_pos z, z, mm_up_s]
    · rw [if_neg z, mm_up_x (by omega)]
  · by_cases hq : q = 18
    · subst hq
      have hy : z ≠ y := fun w => hn ⟨rfl, w⟩
      exact cr_sm_18 (sg := sg) (ta := ta) (sg' := sg) (ta' := mm_up ta 3 (50 * y + c) v) ⟨rfl, rfl, fun i hi => mm_up_x (by omega)⟩ he
    · exact cr_one_t (fun j hj => mm_up_j hj) hq he
theorem hr_w16c (h : cr_R cA sg ta ad M0 M) {y : Nat} {v : Int32} (hK : cr_isK sg y = true) {fs : List Value} (hf : fs = [.ref (ad 13 (16 * (y / 12) + nN (sg 14 y))), .ref (ad 17 y), .int (if sg 13 y = 2 then 1 else 0), .int (sp_rMark sg y), .int (ta 1 y), .int (sg 16 y), .ref (ad 18 y), .int v]) (kk : ∀ M2 : hm_M, cr_R cA sg (mm_up ta 2 y v) ad M0 M2 → hm_W C k n Q M2 pc L st) : hm_W C k n Q (hm_up M (ad 16 y) (.inr (0, fs))) pc L st := by
  subst hf
  refine hr_re1 h (q0 := 16) (x0 := y) (if_pos hK) (fun e he => ?_) (fun q z e hn he => ?_) kk
  · cases cr_ob_e he
    rw [mm_up_s, mm_up_j (j' := 1) (by decide)]
    exact va_sm.rf
  · by_cases hq : q = 16
    · subst hq
      have hy : z ≠ y := fun w => hn ⟨rfl, w⟩
      exact cr_sm_16 (sg := sg) (ta := ta) (sg' := sg) (ta' := mm_up ta 2 y v) ⟨rfl, rfl, rfl, rfl, rfl, by rw [mm_up_j (by decide)], mm_up_x hy⟩ he
    · exact cr_one_t (j0 := 2) (fun j hj => mm_up_j hj) hq he
end HP
/-- the kept row of an answer holds these fingerprints -/
def cr_K (ta : mm_S) (k : Nat) (P : List Int32) : Prop := ∃ l, ca_P l (fun i => ta 3 (50 * k + i)) ∧ ta 2 k = nI l.length ∧ ∀ z, z ∈ l ↔ z ∈ P
def cr_U (k : Nat) (ta0 ta : mm_S) : Prop := (∀ j, j ≠ 2 → j ≠ 3 → ta j = ta0 j) ∧ ∀ q, q ≠ k → ta 2 q = ta0 2 q ∧ ∀ i, i < 50 → ta 3 (50 * q + i) = ta0 3 (50 * q + i)
theorem cr_U.rf {k : Nat} {ta : mm_S} : cr_U k ta ta := ⟨fun _ _ _ => rfl, fun _ _ => ⟨rfl, fun _ _ => rfl⟩⟩
theorem cr_U.tr {k : Nat} {t0 t1 t2 : mm_S} (h1 : cr_U k t0 t1) (h2 : cr_U k t1 t2) : cr_U k t0 t2 := ⟨fun j a b => (h2.1 j a b).trans (h1.1 j a b), fun q a => ⟨((h2.2 q a).1).trans (h1.2 q a).1, fun i hi => ((h2.2 q a).2 i hi).trans ((h1.2 q a).2 i hi)⟩⟩
theorem cr_U.n {k : Nat} {ta : mm_S} {v : Int32} : cr_U k ta (mm_up ta 2 k v) := ⟨fun j h2 _ => mm_up_j h2, fun q hn => ⟨mm_up_x hn, fun i _ => by rw [mm_up_j (by decide)]⟩⟩
theorem cr_U.x {k c : Nat} {ta : mm_S} {v : Int32} (hc : c < 50) : cr_U k ta (mm_up ta 3 (50 * k + c) v) := ⟨fun j _ h3 => mm_up_j h3, fun q hn => ⟨by rw [mm_up_j (by decide)], fun i hi => mm_up_x (by omega)⟩⟩
theorem cr_K.congr {k : Nat} {t0 t1 : mm_S} {P : List Int32} (h : cr_K t0 k P) (h2 : t1 2 k = t0 2 k) (h3 : ∀ i, i < 50 → t1 3 (50 * k + i) = t0 3 (50 * k + i)) : cr_K t1 k P := by
  obtain ⟨l, ⟨a, b, c⟩, d, e⟩ := h
  refine ⟨l, ⟨a, b, fun i z hz => ?_⟩, h2.trans d, e⟩
  have hi := (List.getElem?_eq_some_iff.mp hz).1
  show t1 3 (50 * k + i) = z
  rw [h3 i (by omega)]
  exact c i z hz
/-- the row with one more laid at its place -/
def ca_F (pf : Nat → Int32) (r : Nat) (z : Int32) (i : Nat) : Int32 := if i < r then pf i else if i = r then z else pf (i - 1)
theorem ca_ins {l : List Int32} {pf : Nat → Int32} (h : ca_P l pf) {z : Int32} {r : Nat} (h1 : r ≤ l.length) (h2 : ∀ i, i < r → pf i < z) (h3 : r < l.length → ¬ pf r < z) (hz : z ∉ l) (hl : l.length < 50) {f : Nat → Int32} (hf : ∀ i, i ≤ l.length → f i = ca_F pf r z i) : ∃ l', ca_P l' f ∧ l'.length = l.length + 1 ∧ ∀ w, w ∈ l' ↔ w ∈ l ∨ w = z := by
  have hlt : ∀ j, r ≤ j → j < l.length → z < pf j := fun j hj hj2 => by
    have hr : r < l.length := by omega
    have e1 : z < pf r := by
      rcases Int32.lt_or_le z (pf r) with q | q
      · exact q
      · exact absurd ((ca_mem h h1 h2 h3).mpr ⟨hr, Int32.le_antisymm q (Int32.not_lt.mp (h3 hr))⟩) hz
    rcases Nat.lt_or_ge r j with q | q
    · exact Int32.lt_trans e1 (h.lt q hj2)
    · rw [show j = r by omega]
      exact e1
  have hmono : ∀ i j, i < j → j ≤ l.length → ca_F pf r z i < ca_F pf r z j := fun i j hij hj => by
    unfold ca_F
    by_cases a : j < r
    · rw [if_pos a, if_pos (by omega)]
      exact h.lt hij (by omega)
    · rw [if_neg a]
      by_cases b : j = r
      · rw [if_pos b, if_pos (by omega)]
        exact h2 i (by omega)
      · rw [if_neg b]
        by_cases c : i < r
        · rw [if_pos c]
          exact h.lt (by omega) (by omega)
        · rw [if_neg c]
          by_cases d : i = r
          · rw [if_pos d]
            exact hlt (j - 1) (by omega) (by omega)
          · rw [if_neg d]
            exact h.lt (by omega) (by omega)
  refine ⟨(List.range (l.length + 1)).map f, ⟨List.pairwise_iff_getElem.mpr (fun i j hi hj hij => ?_), by simp; omega, fun i w hw => ?_⟩, by simp, fun w => ?_⟩
  · simp only [List.length_map, List.length_range] at hi hj
    simp only [List.getElem_map, List.getElem_range]
    rw [hf i (by omega), hf j (by omega)]
    exact hmono i j hij (by omega)
  · obtain ⟨hi, rfl⟩ := List.getElem?_eq_some_iff.mp hw
    simp
  · rw [List.mem_map]
    constructor
    · rintro ⟨i, hi, rfl⟩
      rw [List.mem_range] at hi
      rw [hf i (by omega)]
      unfold ca_F
      by_cases a : i < r
      · rw [if_pos a, h.at (by omega)]
        exact Or.inl (List.getElem_mem _)
      · rw [if_neg a]
        by_cases b : i = r
        · rw [if_pos b]
          exact Or.inr rfl
        · rw [if_neg b, h.at (by omega)]
          exact Or.inl (List.getElem_mem _)
    · rintro (hw | rfl)
      · obtain ⟨i, hi, rfl⟩ := List.mem_iff_getElem.mp hw
        by_cases a : i < r
        · refine ⟨i, List.mem_range.mpr (by omega), ?_⟩
          rw [hf i (by omega), ca_F, if_pos a, h.at hi]
        · refine ⟨i + 1, List.mem_range.mpr (by omega), ?_⟩
          rw [hf (i + 1) (by omega), ca_F, if_neg (by omega), if_neg (by omega), Nat.add_sub_cancel, h.at hi]
      · refine ⟨r, List.mem_range.mpr (by omega), ?_⟩
        rw [hf r h1, ca_F, if_neg (Nat.lt_irrefl r), if_pos rfl]
theorem cr_K.nil {ta : mm_S} {k : Nat} (h : ta 2 k = 0) : cr_K ta k [] := ⟨[], ⟨List.Pairwise.nil, by decide, fun i z hz => by simp at hz⟩, h, fun _ => Iff.rfl⟩
set_option maxHeartbeats 4000000 in
set_option maxRecDepth 100000 in
theorem c_X0_insertPrint (cA : Nat → ClassId) {sg ta0 : mm_S} {ad : Nat → Nat → Nat} {M0 M : hm_M} (hR : cr_R cA sg ta0 ad M0 M) (k : Nat) (hK : cr_isK sg k = true) (P : List Int32) (hP : cr_K ta0 k P) (hnd : P.Nodup) (hlen : P.length < 50) (x : Int32) : hm_Met cA yX0_insertPrint cX0_insertPrint 5 none r_X0_insertPrint [.ref (ad 16 k), .int x] M (fun v' M' => v' = none ∧ ∃ ta' : mm_S, cr_R cA sg ta' ad M0 M' ∧ cr_K ta' k (sp_ad P x) ∧ cr_U k ta0 ta') := by
  refine hm_met 3 (by decide +kernel) (fun w h => by simp only [List.mem_cons, List.not_mem_nil, or_false] at h; rcases h with rfl | rfl <;> rfl) rfl (fun C X => ?_)
  show hm_W C 0 0 _ M 0 [some (.ref (ad 16 k)), some (.int x), none, none, none] []
  obtain ⟨l, hl, hc, hm⟩ := hP
  have hll : l.length = P.length := (ca_len hl hnd hm).length_eq
  have h16 := hR.c16 hK
  rw [hc] at h16
  refine hr_aload_n X dX0_insertPrint_0 rfl (Or.inr ⟨_, rfl⟩) ?_
  refine hr_iload_n X dX0_insertPrint_1 rfl ?_
  refine hr_callV X kC0_82 dX0_insertPrint_2 (c_X0_placeOf cA h16 (hR.c18 hK) hl x) h16 rfl rfl rfl rfl (Nat.le_of_ble_eq_true rfl) ⟨⟨(Nat.le_of_ble_eq_true rfl), (Nat.le_of_ble_eq_true rfl)⟩, (Nat.le_of_ble_eq_true rfl), (Nat.le_of_ble_eq_true rfl)⟩ (fun v M2 hp2 => ?_)
  obtain ⟨⟨r, rfl, h1, h2, h3⟩, rfl⟩ := hp2
  have hmm := ca_mem hl h1 h2 h3
  refine hr_istore_n X dX0_insertPrint_5 (Nat.le_of_ble_eq_true rfl) ?_
  refine hr_iload_n X dX0_insertPrint_6 rfl ?_
  refine hr_aload_n X dX0_insertPrint_7 rfl (Or.inr ⟨_, rfl⟩) ?_
  refine hr_get X kF0_35 dX0_insertPrint_8 h16 rfl ?_
  have J29 : hm_W C 0 0 (hm_T C (fun v' M' => v' = none ∧ ∃ ta' : mm_S, cr_R cA sg ta' ad M0 M' ∧ cr_K ta' k (sp_ad P x) ∧ cr_U k ta0 ta') r_X0_insertPrint.cells r_X0_insertPrint.slots) M 29 [some (.ref (ad 16 k)), some (.int x), some (.int (nI r)), none, none] [.int (hm_bI (decide (x ∈ l)))] := by
    refine hr_istore_n X dX0_insertPrint_29 (Nat.le_of_ble_eq_true rfl) ?_
    refine hr_iload_n X dX0_insertPrint_30 rfl ?_
    refine hr_if_ne 43 X dX0_insertPrint_31 (by decide) (fun c31 => ?_) (fun c31 => ?_)
    · have hin : x ∈ l := of_decide_eq_true (hm_bI_ne.mp c31)
      exact hr_vret X dX0_insertPrint_43 (Nat.le_of_ble_eq_true rfl) (Nat.le_of_ble_eq_true rfl) ⟨rfl, ta0, hR, by rw [sp_ad_in ((hm x).mp hin)]; exact ⟨l, hl, hc, hm⟩, cr_U.rf⟩
    · have hout : x ∉ l := of_decide_eq_false (hm_bI_eq.mp c31)
      refine hr_aload_n X dX0_insertPrint_34 rfl (Or.inr ⟨_, rfl⟩) ?_
      refine hr_get X kF0_35 dX0_insertPrint_35 h16 rfl ?_
      refine hr_bipush (50) X dX0_insertPrint_38 (by decide) ?_
      refine hr_icmp_lt 44 X dX0_insertPrint_40 (by decide) (fun c40 => ?_) (fun c40 => ?_)
      · refine hr_aload_n X dX0_insertPrint_44 rfl (Or.inr ⟨_, rfl⟩) ?_
        refine hr_get X kF0_35 dX0_insertPrint_45 h16 rfl ?_
        refine hr_istore X dX0_insertPrint_48 (Nat.le_of_ble_eq_true rfl) ?_
        have lp50 : ∀ (f : Nat) (m : Nat) (M : hm_M) (ta : mm_S), cr_R cA sg ta ad M0 M → cr_U k ta0 ta → ta 2 k = nI l.length → (∀ i, i < 50 → ta 3 (50 * k + i) = if m < i ∧ i ≤ l.length then ta0 3 (50 * k + (i - 1)) else ta0 3 (50 * k + i)) → r ≤ m → m ≤ l.length → m < r + f → hm_W C (0 + r_X0_placeOf.cells) (0 + r_X0_placeOf.slots) (hm_T C (fun v' M' => v' = none ∧ ∃ ta' : mm_S, cr_R cA sg ta' ad M0 M' ∧ cr_K ta' k (sp_ad P x) ∧ cr_U k ta0 ta') r_X0_insertPrint.cells r_X0_insertPrint.slots) M 50 [some (.ref (ad 16 k)), some (.int x), some (.int (nI r)), some (.int (hm_bI (decide (x ∈ l)))), some (.int (nI m))] [] := by
          intro f
          induction f with
          | zero => intro m M ta hR hU hc hrow g1 g2 g3; exact absurd g3 (by omega)
          | succ f ih =>
            intro m M ta hR hU hc hrow g1 g2 g3
            refine hr_iload X dX0_insertPrint_50 rfl ?_
            refine hr_iload_n X dX0_insertPrint_52 rfl ?_
            refine hr_icmp_le 78 X dX0_insertPrint_53 (by decide) (fun c53 => ?_) (fun c53 => ?_)
            · have hm2 : m = r := by have := (nI_leI (by omega) (by omega)).mp c53; omega
              subst hm2
              refine hr_aload_n X dX0_insertPrint_78 rfl (Or.inr ⟨_, rfl⟩) ?_
              refine hr_get X kF0_31 dX0_insertPrint_79 (hR.c16 hK) rfl ?_
              refine hr_iload_n X dX0_insertPrint_82 rfl ?_
              refine hr_iload_n X dX0_insertPrint_83 rfl ?_
              refine hr_iast X dX0_insertPrint_84 (hR.c18 hK) (mm_in rfl (by omega) (by decide)).1 ?_
              rw [nI_clamp (by omega)]
              refine hr_w18 hR hK (by omega) (fun M84 hR => ?_)
              have hU := hU.tr (cr_U.x (v := x) (show m < 50 by omega))
              have hc : mm_up ta 3 (50 * k + m) x 2 k = nI l.length := by rw [mm_up_j (by decide)]; exact hc
              refine hr_aload_n X dX0_insertPrint_85 rfl (Or.inr ⟨_, rfl⟩) ?_
              refine hr_dup X dX0_insertPrint_86 rfl ?_
              refine hr_get X kF0_35 dX0_insertPrint_87 (hR.c16 hK) rfl ?_
              rw [hc]
              refine hr_iconst (1) X dX0_insertPrint_90 (by decide) ?_
              refine hr_iadd X dX0_insertPrint_91 ?_
              refine hr_put X kF0_35 dX0_insertPrint_92 (hR.c16 hK) rfl rfl (Nat.le_of_ble_eq_true rfl) ?_
              rw [nI_1]
              refine hr_w16c hR hK rfl (fun M92 hR => ?_)
              exact hr_vret X dX0_insertPrint_95 (Nat.le_of_ble_eq_true rfl) (Nat.le_of_ble_eq_true rfl) ⟨rfl, _, hR, by
                rw [sp_ad_new (fun q => hout ((hm x).mpr q))]
                obtain ⟨l2, e1, e2, e3⟩ := ca_ins hl h1 h2 h3 hout (by omega) (f := fun i => mm_up (mm_up ta 3 (50 * k + m) x) 2 k (nI (l.length + 1)) 3 (50 * k + i)) (fun i hi => by
                  show mm_up (mm_up ta 3 (50 * k + m) x) 2 k (nI (l.length + 1)) 3 (50 * k + i) = _
                  rw [mm_up_j (j' := 3) (j := 2) (by decide), ca_F]
                  by_cases z : i = m
                  · rw [z, mm_up_s, if_neg (Nat.lt_irrefl m), if_pos rfl]
                  · rw [mm_up_x (by omega), hrow i (by omega)]
                    by_cases w : i < m
                    · rw [if_pos w, if_neg (fun q => by omega)]
                    · rw [if_neg w, if_neg z, if_pos ⟨by omega, hi⟩])
                exact ⟨l2, e1, by rw [mm_up_s, e2], fun w => by rw [e3 w, hm w, List.mem_append, List.mem_singleton]⟩, hU.tr cr_U.n⟩
            · have hm2 : r < m := by
                rcases Nat.lt_or_ge r m with q | q
                · exact q
                · exact absurd (nI_le q (by omega)) c53
              refine hr_aload_n X dX0_insertPrint_56 rfl (Or.inr ⟨_, rfl⟩) ?_
              refine hr_get X kF0_31 dX0_insertPrint_57 (hR.c16 hK) rfl ?_
              refine hr_iload X dX0_insertPrint_60 rfl ?_
              refine hr_aload_n X dX0_insertPrint_62 rfl (Or.inr ⟨_, rfl⟩) ?_
              refine hr_get X kF0_31 dX0_insertPrint_63 (hR.c16 hK) rfl ?_
              refine hr_iload X dX0_insertPrint_66 rfl ?_
              refine hr_iconst (1) X dX0_insertPrint_68 (by decide) ?_
              refine hr_isub X dX0_insertPrint_69 ?_
              rw [show nI m - 1 = nI (m - 1) by rw [show m = (m - 1) + 1 by omega, nI_pred]; rfl]
              refine hr_iald X dX0_insertPrint_70 (hR.c18 hK) (mm_in rfl (by omega) (by decide)).1 ?_
              rw [nI_clamp (by omega)]
              refine hr_iast X dX0_insertPrint_71 (hR.c18 hK) (mm_in rfl (by omega) (by decide)).1 ?_
              rw [nI_clamp (by omega)]
              refine hr_w18 hR hK (by omega) (fun M71 hR => ?_)
              have hU := hU.tr (cr_U.x (v := ta 3 (50 * k + (m - 1))) (show m < 50 by omega))
              have hc : mm_up ta 3 (50 * k + m) (ta 3 (50 * k + (m - 1))) 2 k = nI l.length := by rw [mm_up_j (by decide)]; exact hc
              have hrow2 : ∀ i, i < 50 → mm_up ta 3 (50 * k + m) (ta 3 (50 * k + (m - 1))) 3 (50 * k + i) = if m - 1 < i ∧ i ≤ l.length then ta0 3 (50 * k + (i - 1)) else ta0 3 (50 * k + i) := fun i hi => by
                by_cases z : i = m
                · rw [z, mm_up_s, hrow (m - 1) (by omega), if_neg (fun q => by omega), if_pos ⟨by omega, g2⟩]
                · rw [mm_up_x (by omega), hrow i hi]
                  by_cases w : m < i ∧ i ≤ l.length
                  · rw [if_pos w, if_pos ⟨by omega, w.2⟩]
                  · rw [if_neg w, if_neg (fun q => w ⟨by omega, q.2⟩)]
              refine hr_iinc (-1) X dX0_insertPrint_72 rfl (by decide) ?_
              refine hr_goto 50 X dX0_insertPrint_75 (by decide) ?_
              rw [show nI m + -1 = nI (m - 1) by rw [← Int32.sub_eq_add_neg, show m = (m - 1) + 1 by omega, nI_pred]; rfl]
              exact ih (m - 1) _ _ hR hU hc hrow2 (by omega) (by omega) (by omega)
        exact lp50 (l.length + 1) l.length _ _ hR cr_U.rf hc (fun i _ => (if_neg (fun q => by omega)).symm) h1 (Nat.le_refl _) (by omega)
      · exact absurd (nI_lt (a := l.length) (b := 50) (by omega) (by decide)) c40
  refine hr_icmp_ge 28 X dX0_insertPrint_11 (by decide) (fun c11 => ?_) (fun c11 => ?_)
  · have hz : decide (x ∈ l) = false := decide_eq_false (fun q => by have := (nI_leI (by omega) (by omega)).mp c11; have := (hmm.mp q).1; omega)
    refine hr_iconst (0) X dX0_insertPrint_28 (by decide) ?_
    exact hr_eq (by rw [hz] <;> rfl) J29
  · have hn : r < l.length := by
      rcases Nat.lt_or_ge r l.length with q | q
      · exact q
      · exact absurd (nI_le (by omega) (by omega)) c11
    refine hr_aload_n X dX0_insertPrint_14 rfl (Or.inr ⟨_, rfl⟩) ?_
    refine hr_get X kF0_31 dX0_insertPrint_15 h16 rfl ?_
    refine hr_iload_n X dX0_insertPrint_18 rfl ?_
    refine hr_iald X dX0_insertPrint_19 (hR.c18 hK) (mm_in rfl (by omega) (by decide)).1 ?_
    rw [nI_clamp (by omega)]
    refine hr_iload_n X dX0_insertPrint_20 rfl ?_
    refine hr_icmp_ne 28 X dX0_insertPrint_21 (by decide) (fun c21 => ?_) (fun c21 => ?_)
    · have hz : decide (x ∈ l) = false := decide_eq_false (fun q => c21 (hmm.mp q).2)
      refine hr_iconst (0) X dX0_insertPrint_28 (by decide) ?_
      exact hr_eq (by rw [hz] <;> rfl) J29
    · have hz : decide (x ∈ l) = true := decide_eq_true (hmm.mpr ⟨hn, c21⟩)
      refine hr_iconst (1) X dX0_insertPrint_24 (by decide) ?_
      refine hr_goto 29 X dX0_insertPrint_25 (by decide) ?_
      exact hr_eq (by rw [hz] <;> rfl) J29
set_option maxHeartbeats 4000000 in
set_option maxRecDepth 100000 in
theorem c_X0_takeDueMark (cA : Nat → ClassId) {M : hm_M} {b : Nat} {v0 v1 v2 v6 v7 : Value} {mk du ml : Int32} (hA : M b = some (.inr (0, [v0, v1, v2, .int mk, .int du, .int ml, v6, v7]))) (nw c : Int32) : hm_Met cA yX0_takeDueMark cX0_takeDueMark 3 none r_X0_takeDueMark [.ref b, .int nw, .int c] M (fun v' M' => v' = none ∧ M' = hm_up M b (.inr (0, [v0, v1, v2, .int (if c = 0 then nw else mk), .int nw, .int (if c = 0 then ml else ml + 1), v6, v7]))) := by
  refine hm_met 0 (by decide +kernel) (fun w h => by simp only [List.mem_cons, List.not_mem_nil, or_false] at h; rcases h with rfl | rfl | rfl <;> rfl) rfl (fun C X => ?_)
  show hm_W C 0 0 _ M 0 [some (.ref b), some (.int nw), some (.int c)] []
  refine hr_aload_n X dX0_takeDueMark_0 rfl (Or.inr ⟨_, rfl⟩) ?_
  refine hr_iload_n X dX0_takeDueMark_1 rfl ?_
  refine hr_put X kF0_25 dX0_takeDueMark_2 hA rfl rfl (Nat.le_of_ble_eq_true rfl) ?_
  refine hr_iload_n X dX0_takeDueMark_5 rfl ?_
  refine hr_if_eq 22 X dX0_takeDueMark_6 (by decide) (fun c6 => ?_) (fun c6 => ?_)
  · refine hr_aload_n X dX0_takeDueMark_22 rfl (Or.inr ⟨_, rfl⟩) ?_
    refine hr_iload_n X dX0_takeDueMark_23 rfl ?_
    refine hr_put X kF0_21 dX0_takeDueMark_24 hm_up_s rfl rfl (Nat.le_of_ble_eq_true rfl) ?_
    exact hr_vret X dX0_takeDueMark_27 (Nat.le_of_ble_eq_true rfl) (Nat.le_of_ble_eq_true rfl) ⟨rfl, by
      by_cases z : c = 0
      · first | exact absurd z c6 | (rw [if_pos z, if_pos z, hm_up_up]; rfl)
      · first | exact absurd c6 z | (rw [if_neg z, if_neg z, hm_up_up]; rfl)⟩
  · refine hr_aload_n X dX0_takeDueMark_9 rfl (Or.inr ⟨_, rfl⟩) ?_
    refine hr_dup X dX0_takeDueMark_10 rfl ?_
    refine hr_get X kF0_28 dX0_takeDueMark_11 hm_up_s rfl ?_
    refine hr_iconst (1) X dX0_takeDueMark_14 (by decide) ?_
    refine hr_iadd X dX0_takeDueMark_15 ?_
    refine hr_put X kF0_28 dX0_takeDueMark_16 hm_up_s rfl rfl (Nat.le_of_ble_eq_true rfl) ?_
    refine hr_goto 27 X dX0_takeDueMark_19 (by decide) ?_
    exact hr_vret X dX0_takeDueMark_27 (Nat.le_of_ble_eq_true rfl) (Nat.le_of_ble_eq_true rfl) ⟨rfl, by
      by_cases z : c = 0
      · first | exact absurd z c6 | (rw [if_pos z, if_pos z, hm_up_up]; rfl)
      · first | exact absurd c6 z | (rw [if_neg z, if_neg z, hm_up_up]; rfl)⟩
set_option maxHeartbeats 4000000 in
set_option maxRecDepth 100000 in
theorem c_X0_findPrintsOf (cA : Nat → ClassId) {sg ta0 : mm_S} {ad : Nat → Nat → Nat} {M0 M : hm_M} (hR : cr_R cA sg ta0 ad M0 M) (hI : sp_I sg) (hok : cr_o2 sg ta0) (k t wc : Nat) (hk : k < 48) (hK : cr_isK sg k = true) (ht : t < 5) (rule : Int32) (P : List Int32) (hP : cr_K ta0 k P) (hnd : P.Nodup) (hlen : P.length ≤ 10 * t) (hw : sg 20 (5 * k + t) = nI wc) (hwc : wc ≤ 12) : hm_Met cA yX0_findPrintsOf cX0_findPrintsOf 5 none r_X0_findPrintsOf [.ref (ad 16 k), .ref (ad 19 (5 * k + t)), .int rule] M (fun v' M' => v' = none ∧ ∃ ta' : mm_S, cr_R cA sg ta' ad M0 M' ∧ cr_K ta' k (sp_layI sg rule (5 * k + t) P (wc - 2)) ∧ cr_U k ta0 ta') := by
  refine hm_met 2 (by decide +kernel) (fun w h => by simp only [List.mem_cons, List.not_mem_nil, or_false] at h; rcases h with rfl | rfl | rfl <;> rfl) rfl (fun C X => ?_)
  show hm_W C 0 0 _ M 0 [some (.ref (ad 16 k)), some (.ref (ad 19 (5 * k + t))), some (.int rule), none, none] []
  have hj5 : (5 * k + t) < 240 := by omega
  have hK5 : cr_isK sg ((5 * k + t) / 5) = true := by rw [show (5 * k + t) / 5 = k by omega]; exact hK
  refine hr_iconst (0) X dX0_findPrintsOf_0 (by decide) ?_
  refine hr_istore_n X dX0_findPrintsOf_1 (Nat.le_of_ble_eq_true rfl) ?_
  have lp2 : ∀ (f : Nat) (i : Nat) (y4 : Option Value) (M : hm_M) (ta : mm_S), cr_R cA sg ta ad M0 M → cr_U k ta0 ta → cr_K ta k (sp_layI sg rule (5 * k + t) P i) → i ≤ wc - 2 → wc < i + f → hm_W C 0 0 (hm_T C (fun v' M' => v' = none ∧ ∃ ta' : mm_S, cr_R cA sg ta' ad M0 M' ∧ cr_K ta' k (sp_layI sg rule (5 * k + t) P (wc - 2)) ∧ cr_U k ta0 ta') r_X0_findPrintsOf.cells r_X0_findPrintsOf.slots) M 2 [some (.ref (ad 16 k)), some (.ref (ad 19 (5 * k + t))), some (.int rule), some (.int (nI i)), y4] [] := by
    intro f
    induction f with
    | zero => intro i y4 M ta hR hU hP g1 g2; exact absurd g2 (by omega)
    | succ f ih =>
      intro i y4 M ta hR hU hP g1 g2
      refine hr_iload_n X dX0_findPrintsOf_2 rfl ?_
      refine hr_iconst (3) X dX0_findPrintsOf_3 (by decide) ?_
      refine hr_iadd X dX0_findPrintsOf_4 ?_
      rw [show nI i + 3 = nI (i + 3) from nI_add i 3]
      refine hr_aload_n X dX0_findPrintsOf_5 rfl (Or.inr ⟨_, rfl⟩) ?_
      refine hr_get X kF0_67 dX0_findPrintsOf_6 (hR.c19 hK5) rfl ?_
      rw [hw]
      refine hr_icmp_gt 40 X dX0_findPrintsOf_9 (by decide) (fun c9 => ?_) (fun c9 => ?_)
      · have hi : i = wc - 2 := by have := (nI_ltI (by omega) (by omega)).mp c9; omega
        subst hi
        exact hr_vret X dX0_findPrintsOf_40 (Nat.le_of_ble_eq_true rfl) (Nat.le_of_ble_eq_true rfl) ⟨rfl, _, hR, hP, hU⟩
      · have hi : i + 3 ≤ wc := by
          rcases Nat.lt_or_ge wc (i + 3) with q | q
          · exact absurd (nI_lt q (by omega)) c9
          · exact q
        refine hr_aload_n X dX0_findPrintsOf_12 rfl (Or.inr ⟨_, rfl⟩) ?_
        refine hr_iload_n X dX0_findPrintsOf_13 rfl ?_
        refine hr_callV X kC0_70 dX0_findPrintsOf_14 (c_X2_printAt cA (M := M) (hR.c19 hK5) (hR.c20 hK5) i (by omega)) (hR.c19 hK5) rfl rfl rfl rfl (Nat.le_of_ble_eq_true rfl) ⟨⟨(Nat.le_of_ble_eq_true rfl), (Nat.le_of_ble_eq_true rfl)⟩, (Nat.le_of_ble_eq_true rfl), (Nat.le_of_ble_eq_true rfl)⟩ (fun v M14 hp => ?_)
        obtain ⟨rfl, rfl⟩ := hp
        rw [sp_pt_eq (hok.congr (hU.1 8 (by decide) (by decide)) (hU.1 4 (by decide) (by decide))) hj5 hw hwc hi]
        refine hr_istore X dX0_findPrintsOf_17 (Nat.le_of_ble_eq_true rfl) ?_
        refine hr_iload_n X dX0_findPrintsOf_19 rfl ?_
        refine hr_iload X dX0_findPrintsOf_20 rfl ?_
        refine hr_callSN X kC0_74 dX0_findPrintsOf_22 (c_X5_ruleHasPrint cA (M := M) rule (sp_pt sg (5 * k + t) i)) rfl rfl rfl (Nat.le_of_ble_eq_true rfl) ⟨⟨(Nat.le_of_ble_eq_true rfl), (Nat.le_of_ble_eq_true rfl)⟩, (Nat.le_of_ble_eq_true rfl), (Nat.le_of_ble_eq_true rfl)⟩ (fun v M22 hp => ?_)
        obtain ⟨rfl, rfl⟩ := hp
        have J34 : ∀ (M : hm_M) (ta : mm_S), cr_R cA sg ta ad M0 M → cr_U k ta0 ta → cr_K ta k (sp_layI sg rule (5 * k + t) P (i + 1)) → hm_W C 0 0 (hm_T C (fun v' M' => v' = none ∧ ∃ ta' : mm_S, cr_R cA sg ta' ad M0 M' ∧ cr_K ta' k (sp_layI sg rule (5 * k + t) P (wc - 2)) ∧ cr_U k ta0 ta') r_X0_findPrintsOf.cells r_X0_findPrintsOf.slots) M 34 [some (.ref (ad 16 k)), some (.ref (ad 19 (5 * k + t))), some (.int rule), some (.int (nI i)), some (.int (sp_pt sg (5 * k + t) i))] [] := by
          intro M ta hR hU hP2
          refine hr_iinc (1) X dX0_findPrintsOf_34 rfl (by decide) ?_
          refine hr_goto 2 X dX0_findPrintsOf_37 (by decide) ?_
          rw [nI_1]
          exact ih (i + 1) _ _ _ hR hU hP2 (by omega) (by omega)
        refine hr_if_ne 34 X dX0_findPrintsOf_25 (by decide) (fun c25 => ?_) (fun c25 => ?_)
        · have hP3 : cr_K ta k (sp_layI sg rule (5 * k + t) P (i + 1)) := by
            show cr_K ta k (if sp_inR rule (sp_pt sg (5 * k + t) i) = true then (sp_layI sg rule (5 * k + t) P i) else sp_ad (sp_layI sg rule (5 * k + t) P i) (sp_pt sg (5 * k + t) i))
            rw [if_pos (hm_bI_ne.mp c25)]
            exact hP
          exact J34 _ _ hR hU hP3
        · have hlI := sp_layI_len sg rule (5 * k + t) P i
          refine hr_aload_n X dX0_findPrintsOf_28 rfl (Or.inr ⟨_, rfl⟩) ?_
          refine hr_iload X dX0_findPrintsOf_29 rfl ?_
          refine hr_callV X kC0_78 dX0_findPrintsOf_31 (c_X0_insertPrint cA hR k hK (sp_layI sg rule (5 * k + t) P i) hP (sp_layI_nd sg rule (5 * k + t) hnd i) (by omega) (sp_pt sg (5 * k + t) i)) (hR.c16 hK) rfl rfl rfl rfl (Nat.le_of_ble_eq_true rfl) ⟨⟨(Nat.le_of_ble_eq_true rfl), (Nat.le_of_ble_eq_true rfl)⟩, (Nat.le_of_ble_eq_true rfl), (Nat.le_of_ble_eq_true rfl)⟩ (fun v M31 hp31 => ?_)
          obtain ⟨rfl, ta1, hR, hP1, hU1⟩ := hp31
          have hU := hU.tr hU1
          have hP3 : cr_K ta1 k (sp_layI sg rule (5 * k + t) P (i + 1)) := by
            show cr_K ta1 k (if sp_inR rule (sp_pt sg (5 * k + t) i) = true then (sp_layI sg rule (5 * k + t) P i) else sp_ad (sp_layI sg rule (5 * k + t) P i) (sp_pt sg (5 * k + t) i))
            rw [hm_bI_eq.mp c25]
            exact hP1
          exact J34 _ _ hR hU hP3
  exact lp2 (wc + 1) 0 _ _ _ hR cr_U.rf hP (by omega) (by omega)
set_option maxHeartbeats 4000000 in
set_option maxRecDepth 100000 in
theorem c_X0_findPrints (cA : Nat → ClassId) {sg ta0 : mm_S} {ad : Nat → Nat → Nat} {M0 M : hm_M} (hR : cr_R cA sg ta0 ad M0 M) (hI : sp_I sg) (hok : cr_o2 sg ta0) (k : Nat) (hk : k < 48) (hk0 : ¬ sg 13 k = 0) : hm_Met cA yX0_findPrints cX0_findPrints 3 none r_X0_findPrints [.ref (ad 16 k)] M (fun v' M' => v' = none ∧ ∃ ta' : mm_S, cr_R cA sg ta' ad M0 M' ∧ cr_K ta' k (sp_prs sg k) ∧ cr_U k ta0 ta') := by
  refine hm_met 2 (by decide +kernel) (fun w h => by simp only [List.mem_cons, List.not_mem_nil, or_false] at h; rcases h with rfl <;> rfl) rfl (fun C X => ?_)
  show hm_W C 0 0 _ M 0 [some (.ref (ad 16 k)), none, none] []
  obtain ⟨hks, v, hv, hvt⟩ := sp_handed hI hk hk0
  have hv16 := hvt.1
  have hks4 := cr_n4 hI hks
  have hK := cr_isK_h hks hk0
  refine hr_aload_n X dX0_findPrints_0 rfl (Or.inr ⟨_, rfl⟩) ?_
  refine hr_iconst (0) X dX0_findPrints_1 (by decide) ?_
  refine hr_put X kF0_35 dX0_findPrints_2 (hR.c16 hK) rfl rfl (Nat.le_of_ble_eq_true rfl) ?_
  refine hr_w16c hR hK rfl (fun M2 hR => ?_)
  have hP : cr_K (mm_up ta0 2 k 0) k [] := cr_K.nil mm_up_s
  have hU : cr_U k ta0 (mm_up ta0 2 k 0) := cr_U.n
  refine hr_aload_n X dX0_findPrints_5 rfl (Or.inr ⟨_, rfl⟩) ?_
  refine hr_callV X kC0_47 dX0_findPrints_6 (c_X0_isInIndex cA (hR.c16 hK)) (hR.c16 hK) rfl rfl rfl rfl (Nat.le_of_ble_eq_true rfl) ⟨⟨(Nat.le_of_ble_eq_true rfl), (Nat.le_of_ble_eq_true rfl)⟩, (Nat.le_of_ble_eq_true rfl), (Nat.le_of_ble_eq_true rfl)⟩ (fun v M6 hp => ?_)
  obtain ⟨rfl, rfl⟩ := hp
  refine hr_if_ne 13 X dX0_findPrints_9 (by decide) (fun c9 => ?_) (fun c9 => ?_)
  · have hL := sl_ix_prs.1 (hm_bI_ne.mp c9)
    refine hr_iconst (0) X dX0_findPrints_13 (by decide) ?_
    refine hr_istore_n X dX0_findPrints_14 (Nat.le_of_ble_eq_true rfl) ?_
    have lp15 : ∀ (f : Nat) (n : Nat) (y2 : Option Value) (M : hm_M) (ta : mm_S), cr_R cA sg ta ad M0 M → cr_U k ta0 ta → cr_K ta k (sp_layL sg k n) → n ≤ 5 → 5 < n + f → hm_W C 0 0 (hm_T C (fun v' M' => v' = none ∧ ∃ ta' : mm_S, cr_R cA sg ta' ad M0 M' ∧ cr_K ta' k (sp_prs sg k) ∧ cr_U k ta0 ta') r_X0_findPrints.cells r_X0_findPrints.slots) M 15 [some (.ref (ad 16 k)), some (.int (nI n)), y2] [] := by
      intro f
      induction f with
      | zero => intro n y2 M ta hR hU hP h1 h2; exact absurd h2 (by omega)
      | succ f ih =>
        intro n y2 M ta hR hU hP h1 h2
        refine hr_iload_n X dX0_findPrints_15 rfl ?_
        refine hr_iconst (5) X dX0_findPrints_16 (by decide) ?_
        refine hr_icmp_ge 70 X dX0_findPrints_17 (by decide) (fun c17 => ?_) (fun c17 => ?_)
        · have hz : n = 5 := by have := (nI_leI (a := 5) (by decide) (by omega)).mp c17; omega
          subst hz
          exact hr_vret X dX0_findPrints_70 (Nat.le_of_ble_eq_true rfl) (Nat.le_of_ble_eq_true rfl) ⟨rfl, _, hR, by rw [hL]; exact hP, hU⟩
        · have hn : n < 5 := by
            rcases Nat.lt_or_ge n 5 with q | q
            · exact q
            · exact absurd (nI_le (by omega) (by omega)) c17
          refine hr_aload_n X dX0_findPrints_20 rfl (Or.inr ⟨_, rfl⟩) ?_
          refine hr_get X kF0_38 dX0_findPrints_21 (hR.c16 hK) rfl ?_
          rw [hv, show nN (nI v) = v from nI_clamp (by omega)]
          refine hr_iload_n X dX0_findPrints_24 rfl ?_
          refine hr_callSN X kC0_51 dX0_findPrints_25 (c_X5_taskOf cA hR hI (k / 12) v n hks hvt hn) rfl rfl rfl (Nat.le_of_ble_eq_true rfl) ⟨⟨(Nat.le_of_ble_eq_true rfl), (Nat.le_of_ble_eq_true rfl)⟩, (Nat.le_of_ble_eq_true rfl), (Nat.le_of_ble_eq_true rfl)⟩ (fun v M25 hp => ?_)
          obtain ⟨rfl, rfl⟩ := hp
          refine hr_astore_n X dX0_findPrints_28 (Nat.le_of_ble_eq_true rfl) (hm_rf _) ?_
          refine hr_aload_n X dX0_findPrints_29 rfl (hm_rf _) ?_
          have J64 : ∀ (M : hm_M) (ta : mm_S), cr_R cA sg ta ad M0 M → cr_U k ta0 ta → cr_K ta k (sp_layL sg k (n + 1)) → hm_W C 0 0 (hm_T C (fun v' M' => v' = none ∧ ∃ ta' : mm_S, cr_R cA sg ta' ad M0 M' ∧ cr_K ta' k (sp_prs sg k) ∧ cr_U k ta0 ta') r_X0_findPrints.cells r_X0_findPrints.slots) M 64 [some (.ref (ad 16 k)), some (.int (nI n)), some (va_rf ((sp_has sg (k / 12) v n).map (fun u => ad 15 (sp_e (k / 12) u n))))] [] := by
            intro M ta hR hU hP
            refine hr_iinc (1) X dX0_findPrints_64 rfl (by decide) ?_
            refine hr_goto 15 X dX0_findPrints_67 (by decide) ?_
            rw [nI_1]
            exact ih (n + 1) _ _ _ hR hU hP (by omega) (by omega)
          refine hr_ifnull 64 X dX0_findPrints_30 (by decide) (fun c30 => ?_) (fun a30 c30 => ?_)
          · have hz : sp_layL sg k (n + 1) = sp_layL sg k n := by
              show sp_layT sg k n (sp_layL sg k n) = _
              unfold sp_layT
              rw [hv, show nN (nI v) = v from nI_clamp (by omega), show sp_has sg (k / 12) v n = none from by
                cases hq : sp_has sg (k / 12) v n with
                | none => rfl
                | some u => rw [hq] at c30; cases c30]
            exact J64 _ _ hR hU (by rw [hz]; exact hP)
          · obtain ⟨u, hu⟩ : ∃ u, sp_has sg (k / 12) v n = some u := by
              cases hq : sp_has sg (k / 12) v n with
              | none => rw [hq] at c30; cases c30
              | some u => exact ⟨u, rfl⟩
            obtain ⟨u1, u2, u3, u4⟩ := sp_has_some hI hks hvt hu
            have u16 := u1.1
            have hE := cr_isE_th hks u16 hn u3
            obtain ⟨-, -, ⟨wc, hwc, hw⟩, -⟩ := hI.i12 (5 * k + n) (by omega)
            have hkd : cr_kd sg (sp_e (k / 12) u n) = sg 6 (sp_e (k / 12) u n) := if_neg u4
            rw [hu] at J64 ⊢
            refine hr_aload_n X dX0_findPrints_33 rfl (hm_rf _) ?_
            refine hr_get X kF0_55 dX0_findPrints_34 (hR.c15 hE) rfl ?_
            refine hr_iconst (2) X dX0_findPrints_37 (by decide) ?_
            refine hr_icmp_ne 64 X dX0_findPrints_38 (by decide) (fun c38 => ?_) (fun c38 => ?_)
            · have hk2 : ¬ sg 6 (sp_e (k / 12) u n) = 2 := fun q => c38 (by rw [hkd]; exact q)
              have hz : sp_layL sg k (n + 1) = sp_layL sg k n := by
                show sp_layT sg k n (sp_layL sg k n) = _
                unfold sp_layT
                rw [hv, show nN (nI v) = v from nI_clamp (by omega), hu]
                exact if_neg hk2
              exact J64 _ _ hR hU (by rw [hz]; exact hP)
            · have hk2 : sg 6 (sp_e (k / 12) u n) = 2 := by rw [← hkd]; exact c38
              have hz : sp_layL sg k (n + 1) = sp_layI sg (sg 8 (sp_e (k / 12) u n)) (5 * k + n) (sp_layL sg k n) (wc - 2) := by
                show sp_layT sg k n (sp_layL sg k n) = _
                unfold sp_layT
                rw [hv, show nN (nI v) = v from nI_clamp (by omega), hu]
                dsimp only
                rw [if_pos hk2, hw, show nN (nI wc) = wc from nI_clamp (by omega)]
              refine hr_aload_n X dX0_findPrints_41 rfl (Or.inr ⟨_, rfl⟩) ?_
              refine hr_get X kF0_11 dX0_findPrints_42 (hR.c16 hK) rfl ?_
              refine hr_iload_n X dX0_findPrints_45 rfl ?_
              refine hr_aald 7 X rfl dX0_findPrints_46 (hR.c17 hK) (mm_in rfl (by omega) (by decide)).1 ?_
              rw [nI_clamp (by omega)]
              refine hr_ifnullR X dX0_findPrints_47 ?_
              refine hr_aload_n X dX0_findPrints_50 rfl (Or.inr ⟨_, rfl⟩) ?_
              refine hr_aload_n X dX0_findPrints_51 rfl (Or.inr ⟨_, rfl⟩) ?_
              refine hr_get X kF0_11 dX0_findPrints_52 (hR.c16 hK) rfl ?_
              refine hr_iload_n X dX0_findPrints_55 rfl ?_
              refine hr_aald 7 X rfl dX0_findPrints_56 (hR.c17 hK) (mm_in rfl (by omega) (by decide)).1 ?_
              rw [nI_clamp (by omega)]
              refine hr_aload_n X dX0_findPrints_57 rfl (hm_rf _) ?_
              refine hr_get X kF0_60 dX0_findPrints_58 (hR.c15 hE) rfl ?_
              refine hr_callV X kC0_63 dX0_findPrints_61 (c_X0_findPrintsOf cA hR hI (hok.congr (hU.1 8 (by decide) (by decide)) (hU.1 4 (by decide) (by decide))) k n wc hk hK hn (sg 8 (sp_e (k / 12) u n)) (sp_layL sg k n) hP (sp_layL_nd sg k n) (sp_layL_len hI hk n (by omega)) hw hwc) (hR.c16 hK) rfl rfl rfl rfl (Nat.le_of_ble_eq_true rfl) ⟨⟨(Nat.le_of_ble_eq_true rfl), (Nat.le_of_ble_eq_true rfl)⟩, (Nat.le_of_ble_eq_true rfl), (Nat.le_of_ble_eq_true rfl)⟩ (fun v M61 hp61 => ?_)
              obtain ⟨rfl, ta1, hR, hP, hU1⟩ := hp61
              have hU := hU.tr hU1
              exact J64 _ _ hR hU (by rw [hz]; exact hP)
    exact lp15 6 0 _ _ _ hR hU hP (by decide) (by decide)
  · have hL := sl_ix_prs.2 (hm_bI_eq.mp c9)
    exact hr_vret X dX0_findPrints_12 (Nat.le_of_ble_eq_true rfl) (Nat.le_of_ble_eq_true rfl) ⟨rfl, _, hR, by rw [hL]; exact hP, hU⟩
