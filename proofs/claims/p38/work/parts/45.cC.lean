/-! the words kept, found in what was said -/
theorem sl_lowB (a t : Nat) (ha : a < 32) (h : a + 32 * t < 2 ^ 31) : nI (a + 32 * t) &&& 31 = nI a := by
  apply Int32.toBitVec_inj.mp
  show BitVec.ofNat 32 (a + 32 * t) &&& 31#32 = BitVec.ofNat 32 a
  apply BitVec.eq_of_toNat_eq
  rw [BitVec.toNat_and, BitVec.toNat_ofNat, BitVec.toNat_ofNat, BitVec.toNat_ofNat, Nat.mod_eq_of_lt (show a + 32 * t < 2 ^ 32 by omega), Nat.mod_eq_of_lt (show a < 2 ^ 32 by omega), show 31 % 2 ^ 32 = 2 ^ 5 - 1 from rfl, Nat.and_two_pow_sub_one_eq_mod]
  omega
theorem sl_shrB (a t : Nat) (ha : a < 32) (h : a + 32 * t < 2 ^ 31) : sb_us (nI (a + 32 * t)) 5 = nI t := by
  apply Int32.toBitVec_inj.mp
  show BitVec.ofNat 32 (a + 32 * t) >>> 5 = BitVec.ofNat 32 t
  apply BitVec.eq_of_toNat_eq
  rw [BitVec.toNat_ushiftRight, BitVec.toNat_ofNat, BitVec.toNat_ofNat, Nat.mod_eq_of_lt (show a + 32 * t < 2 ^ 32 by omega), Nat.mod_eq_of_lt (show t < 2 ^ 32 by omega), Nat.shiftRight_eq_div_pow]
  omega
theorem sl_w5_drop {l : List Int32} (h : sl_w5 l) (c : Nat) : sl_w5 (l.drop c) := fun x hx => h x (List.mem_of_mem_drop hx)
theorem sl_enc_31 {l : List Int32} (h : sl_w5 l) (hl : l.length ≤ 6) : sl_enc l < 2 ^ 30 := Nat.lt_of_lt_of_le (sl_enc_lt l h) (show 32 ^ l.length ≤ 32 ^ 6 from Nat.pow_le_pow_right (by decide) hl)
theorem sl_dropC {xs : List Int32} {c : Nat} (h : c < xs.length) : xs.drop c = xs[c] :: xs.drop (c + 1) := List.drop_eq_getElem_cons h
theorem sl_stepE {xs : List Int32} (hx : sl_w5 xs) (hl : xs.length ≤ 6) {f : Nat → Int32} {i : Nat} (h : nI (sl_enc (xs.drop (sl_cnt xs f i))) &&& 31 = f i) : sb_us (nI (sl_enc (xs.drop (sl_cnt xs f i)))) 5 = nI (sl_enc (xs.drop (sl_cnt xs f (i + 1)))) := by
  rcases Nat.lt_or_ge (sl_cnt xs f i) xs.length with q | q
  · have h31 := sl_enc_31 (sl_w5_drop hx (sl_cnt xs f i)) (by rw [List.length_drop]; omega)
    obtain ⟨a, h1, h2, h3⟩ := hx _ (List.getElem_mem q)
    have e := sl_dropC q
    have e2 : sl_enc (xs.drop (sl_cnt xs f i)) = a + 32 * sl_enc (xs.drop (sl_cnt xs f i + 1)) := by
      rw [e, sl_enc, h3, show nN (nI a) = a from nI_clamp (by omega)]
    rw [e2] at h h31 ⊢
    rw [sl_lowB a _ h2 (by omega)] at h
    have hk : sl_cnt xs f (i + 1) = sl_cnt xs f i + 1 := if_pos (List.getElem?_eq_some_iff.mpr ⟨q, h3.trans h⟩)
    rw [hk]
    exact sl_shrB a _ h2 (by omega)
  · have e : xs.drop (sl_cnt xs f i) = [] := List.drop_eq_nil_of_le q
    have hk : sl_cnt xs f (i + 1) = sl_cnt xs f i := if_neg (by rw [List.getElem?_eq_none q]; intro z; cases z)
    rw [hk, e]
    decide
theorem sl_stepN {xs : List Int32} (hx : sl_w5 xs) (hl : xs.length ≤ 6) {f : Nat → Int32} {i : Nat} (h : ¬ nI (sl_enc (xs.drop (sl_cnt xs f i))) &&& 31 = f i) : sl_cnt xs f (i + 1) = sl_cnt xs f i := by
  refine if_neg (fun z => h ?_)
  obtain ⟨q, z⟩ := List.getElem?_eq_some_iff.mp z
  have h31 := sl_enc_31 (sl_w5_drop hx (sl_cnt xs f i)) (by rw [List.length_drop]; omega)
  obtain ⟨a, h1, h2, h3⟩ := hx _ (List.getElem_mem q)
  have e2 : sl_enc (xs.drop (sl_cnt xs f i)) = a + 32 * sl_enc (xs.drop (sl_cnt xs f i + 1)) := by
    rw [sl_dropC q, sl_enc, h3, show nN (nI a) = a from nI_clamp (by omega)]
  rw [e2] at h31 ⊢
  rw [sl_lowB a _ h2 (by omega), ← h3]
  exact z
theorem sl_rest0 {xs : List Int32} (hx : sl_w5 xs) (hl : xs.length ≤ 6) {f : Nat → Int32} {i : Nat} : nI (sl_enc (xs.drop (sl_cnt xs f i))) = 0 ↔ sl_cnt xs f i = xs.length := by
  have h31 := sl_enc_31 (sl_w5_drop hx (sl_cnt xs f i)) (by rw [List.length_drop]; omega)
  have hle := sl_cnt_le xs f i
  rw [show (0 : Int32) = nI 0 from rfl, nI_eq (by omega) (by decide), sl_enc_0 _ (sl_w5_drop hx _), List.drop_eq_nil_iff]
  omega
theorem sl_shl1 : ∀ L, L ≤ 6 → (1 : Int32) <<< (nI L &&& 31) = nI (2 ^ L) := by decide +kernel

theorem sl_pop_lt : ∀ q, q < 64 → sp_pop q ≤ 6 := by decide +kernel
set_option maxHeartbeats 4000000 in
set_option maxRecDepth 100000 in
theorem c_X2_holdsInOrder (cA : Nat → ClassId) {M : hm_M} {b w : Nat} {sf sn ss : Int32} {m : Nat} {f : Nat → Int32} (hS : M b = some (.inr (2, [.int sf, .int sn, .int ss, .ref w, .int (nI m)]))) (hW : M w = some (.inl (cA 0, 12, .inl f))) (hm : m ≤ 12) (xs : List Int32) (hx : sl_w5 xs) (hl : xs.length ≤ 6) : hm_Met cA yX2_holdsInOrder cX2_holdsInOrder 4 (some .boolean) r_X2_holdsInOrder [.ref b, .int (nI (sl_enc xs))] M (hm_pu (some (.int (hm_bI (decide (sl_cnt xs f m = xs.length))))) M) := by
  refine hm_met 2 (by decide +kernel) (fun w h => by simp only [List.mem_cons, List.not_mem_nil, or_false] at h; rcases h with rfl | rfl <;> rfl) rfl (fun C X => ?_)
  show hm_W C 0 0 _ M 0 [some (.ref b), some (.int (nI (sl_enc xs))), none, none] []
  refine hr_iload_n X dX2_holdsInOrder_0 rfl ?_
  refine hr_istore_n X dX2_holdsInOrder_1 (Nat.le_of_ble_eq_true rfl) ?_
  refine hr_iconst (0) X dX2_holdsInOrder_2 (by decide) ?_
  refine hr_istore_n X dX2_holdsInOrder_3 (Nat.le_of_ble_eq_true rfl) ?_
  have lp4 : ∀ (f9 : Nat) (i : Nat), i ≤ m → m < i + f9 → hm_W C 0 0 (hm_T C (hm_pu (some (.int (hm_bI (decide (sl_cnt xs f m = xs.length))))) M) r_X2_holdsInOrder.cells r_X2_holdsInOrder.slots) M 4 [some (.ref b), some (.int (nI (sl_enc xs))), some (.int (nI (sl_enc (xs.drop (sl_cnt xs f i))))), some (.int (nI i))] [] := by
    intro f9
    induction f9 with
    | zero => intro i h1 h2; exact absurd h2 (by omega)
    | succ f9 ih =>
      intro i h1 h2
      refine hr_iload_n X dX2_holdsInOrder_4 rfl ?_
      refine hr_aload_n X dX2_holdsInOrder_5 rfl (Or.inr ⟨_, rfl⟩) ?_
      refine hr_get X kF2_26 dX2_holdsInOrder_6 hS rfl ?_
      refine hr_icmp_ge 35 X dX2_holdsInOrder_9 (by decide) (fun c9 => ?_) (fun c9 => ?_)
      · have hi : i = m := by have := (nI_leI (by omega) (by omega)).mp c9; omega
        subst hi
        refine hr_iload_n X dX2_holdsInOrder_35 rfl ?_
        refine hr_if_ne 43 X dX2_holdsInOrder_36 (by decide) (fun c36 => ?_) (fun c36 => ?_)
        · have hz : decide (sl_cnt xs f i = xs.length) = false := decide_eq_false (fun q => c36 ((sl_rest0 hx hl).mpr q))
          refine hr_iconst (0) X dX2_holdsInOrder_43 (by decide) ?_
          exact hr_zret X dX2_holdsInOrder_44 (by rfl) (Nat.le_of_ble_eq_true rfl) (Nat.le_of_ble_eq_true rfl) ⟨by rw [hz]; rfl, rfl⟩
        · have hz : decide (sl_cnt xs f i = xs.length) = true := decide_eq_true ((sl_rest0 hx hl).mp c36)
          refine hr_iconst (1) X dX2_holdsInOrder_39 (by decide) ?_
          refine hr_goto 44 X dX2_holdsInOrder_40 (by decide) ?_
          exact hr_zret X dX2_holdsInOrder_44 (by rfl) (Nat.le_of_ble_eq_true rfl) (Nat.le_of_ble_eq_true rfl) ⟨by rw [hz]; rfl, rfl⟩
      · have hn : i < m := by
          rcases Nat.lt_or_ge i m with q | q
          · exact q
          · exact absurd (nI_le q (by omega)) c9
        refine hr_iload_n X dX2_holdsInOrder_12 rfl ?_
        refine hr_bipush (31) X dX2_holdsInOrder_13 (by decide) ?_
        refine hr_iand X dX2_holdsInOrder_15 ?_
        refine hr_aload_n X dX2_holdsInOrder_16 rfl (Or.inr ⟨_, rfl⟩) ?_
        refine hr_get X kF2_22 dX2_holdsInOrder_17 hS rfl ?_
        refine hr_iload_n X dX2_holdsInOrder_20 rfl ?_
        refine hr_iald X dX2_holdsInOrder_21 hW (mm_in rfl (by omega) (by decide)).1 ?_
        rw [nI_clamp (by omega)]
        refine hr_icmp_ne 29 X dX2_holdsInOrder_22 (by decide) (fun c22 => ?_) (fun c22 => ?_)
        · have hk := sl_stepN hx hl c22
          rw [← hk]
          refine hr_iinc (1) X dX2_holdsInOrder_29 rfl (by decide) ?_
          refine hr_goto 4 X dX2_holdsInOrder_32 (by decide) ?_
          rw [nI_1]
          exact ih (i + 1) (by omega) (by omega)
        · have hE : (((nI (sl_enc (xs.drop (sl_cnt xs f i)))).toUInt32 >>> ((5 : Int32).toUInt32 &&& Int32.toUInt32 31)).toInt32) = nI (sl_enc (xs.drop (sl_cnt xs f (i + 1)))) := sl_stepE hx hl c22
          refine hr_iload_n X dX2_holdsInOrder_25 rfl ?_
          refine hr_iconst (5) X dX2_holdsInOrder_26 (by decide) ?_
          refine hr_iushr X dX2_holdsInOrder_27 ?_
          rw [hE]
          refine hr_istore_n X dX2_holdsInOrder_28 (Nat.le_of_ble_eq_true rfl) ?_
          refine hr_iinc (1) X dX2_holdsInOrder_29 rfl (by decide) ?_
          refine hr_goto 4 X dX2_holdsInOrder_32 (by decide) ?_
          rw [nI_1]
          exact ih (i + 1) (by omega) (by omega)
  exact lp4 (m + 1) 0 (Nat.zero_le _) (by omega)
set_option maxHeartbeats 4000000 in
set_option maxRecDepth 100000 in
theorem c_X5_longestKept (cA : Nat → ClassId) {M : hm_M} {b w : Nat} {sf sn ss : Int32} {m : Nat} {f : Nat → Int32} (hS : M b = some (.inr (2, [.int sf, .int sn, .int ss, .ref w, .int (nI m)]))) (hW : M w = some (.inl (cA 0, 12, .inl f))) (hm : m ≤ 12) (rule : Int32) : hm_Met cA yX5_longestKept cX5_longestKept 6 (some .int) r_X5_longestKept [.int rule, .ref b] M (hm_pu (some (.int (nI (sp_D (sp_rw rule) f m (sp_len rule))))) M) := by
  refine hm_met 4 (by decide +kernel) (fun w h => by simp only [List.mem_cons, List.not_mem_nil, or_false] at h; rcases h with rfl | rfl <;> rfl) rfl (fun C X => ?_)
  show hm_W C 0 0 _ M 0 [some (.int rule), some (.ref b), none, none, none, none] []
  have h64 : 2 ^ sp_len rule ≤ 64 := Nat.pow_le_pow_right (by decide) (sp_len_le rule)
  refine hr_iconst (1) X dX5_longestKept_0 (by decide) ?_
  refine hr_iload_n X dX5_longestKept_1 rfl ?_
  refine hr_callS X kC5_282 dX5_longestKept_2 (c_X5_rowLength cA (M := M) rule) rfl rfl rfl (Nat.le_of_ble_eq_true rfl) ⟨⟨(Nat.le_of_ble_eq_true rfl), (Nat.le_of_ble_eq_true rfl)⟩, (Nat.le_of_ble_eq_true rfl), (Nat.le_of_ble_eq_true rfl)⟩ (fun v M2 hp => ?_)
  obtain ⟨rfl, rfl⟩ := hp
  refine hr_ishl X dX5_longestKept_5 ?_
  rw [sl_shl1 _ (sp_len_le rule)]
  refine hr_istore_n X dX5_longestKept_6 (Nat.le_of_ble_eq_true rfl) ?_
  refine hr_iconst (0) X dX5_longestKept_7 (by decide) ?_
  refine hr_istore_n X dX5_longestKept_8 (Nat.le_of_ble_eq_true rfl) ?_
  refine hr_iconst (0) X dX5_longestKept_9 (by decide) ?_
  refine hr_istore X dX5_longestKept_10 (Nat.le_of_ble_eq_true rfl) ?_
  have lp12 : ∀ (f9 : Nat) (q : Nat) (y : Option Value), q ≤ 2 ^ sp_len rule → 2 ^ sp_len rule < q + f9 → hm_W C 0 0 (hm_T C (hm_pu (some (.int (nI (sp_D (sp_rw rule) f m (sp_len rule))))) M) r_X5_longestKept.cells r_X5_longestKept.slots) M 12 [some (.int rule), some (.ref b), some (.int (nI (2 ^ sp_len rule))), some (.int (nI (sl_best (sp_rw rule) f m q))), some (.int (nI q)), y] [] := by
    intro f9
    induction f9 with
    | zero => intro q y h1 h2; exact absurd h2 (by omega)
    | succ f9 ih =>
      intro q y h1 h2
      refine hr_iload X dX5_longestKept_12 rfl ?_
      refine hr_iload_n X dX5_longestKept_14 rfl ?_
      refine hr_icmp_ge 53 X dX5_longestKept_15 (by decide) (fun c15 => ?_) (fun c15 => ?_)
      · have hz : sl_best (sp_rw rule) f m q = sp_D (sp_rw rule) f m (sp_len rule) := by
          have h3 := (nI_leI (by omega) (by omega)).mp c15
          rw [show q = 2 ^ sp_len rule by omega]
          exact sl_best_eq _ _ _ _ (sp_len_le rule)
        refine hr_iload_n X dX5_longestKept_53 rfl ?_
        exact hr_iret X dX5_longestKept_54 (Nat.le_of_ble_eq_true rfl) (Nat.le_of_ble_eq_true rfl) ⟨by rw [hz], rfl⟩
      · have hn : q < 2 ^ sp_len rule := by
          rcases Nat.lt_or_ge q (2 ^ sp_len rule) with z | z
          · exact z
          · exact absurd (nI_le z (by omega)) c15
        have hp := sl_pop_lt q (by omega)
        have hB := Nat.le_trans (sl_best_le (sp_rw rule) f m (sp_len rule) (sp_len_le rule) q h1) (sp_D_le _ _ _ _)
        have hl6 := sp_len_le rule
        have hlen : (sl_kp (sp_rw rule) q 6).length = sp_pop q := by rw [sl_kp_len, sl_cb_pop q (by omega)]
        refine hr_iload X dX5_longestKept_18 rfl ?_
        refine hr_callS X kC5_357 dX5_longestKept_20 (c_J6_bitCount_0f7a4 cA (M := M) q (by omega)) rfl rfl rfl (Nat.le_of_ble_eq_true rfl) ⟨⟨(Nat.le_of_ble_eq_true rfl), (Nat.le_of_ble_eq_true rfl)⟩, (Nat.le_of_ble_eq_true rfl), (Nat.le_of_ble_eq_true rfl)⟩ (fun v M20 hp => ?_)
        obtain ⟨rfl, rfl⟩ := hp
        refine hr_istore X dX5_longestKept_23 (Nat.le_of_ble_eq_true rfl) ?_
        refine hr_iload X dX5_longestKept_25 rfl ?_
        refine hr_iload_n X dX5_longestKept_27 rfl ?_
        refine hr_icmp_le 47 X dX5_longestKept_28 (by decide) (fun c28 => ?_) (fun c28 => ?_)
        · have hle := (nI_leI (by omega) (by omega)).mp c28
          have hk : sl_best (sp_rw rule) f m (q + 1) = sl_best (sp_rw rule) f m q := if_neg (fun z => Nat.not_lt.mpr hle z.1)
          rw [← hk]
          refine hr_iinc (1) X dX5_longestKept_47 rfl (by decide) ?_
          refine hr_goto 12 X dX5_longestKept_50 (by decide) ?_
          rw [nI_1]
          exact ih (q + 1) _ (by omega) (by omega)
        · have hgt : sl_best (sp_rw rule) f m q < sp_pop q := by
            rcases Nat.lt_or_ge (sl_best (sp_rw rule) f m q) (sp_pop q) with z | z
            · exact z
            · exact absurd (nI_le z (by omega)) c28
          refine hr_aload_n X dX5_longestKept_31 rfl (Or.inr ⟨_, rfl⟩) ?_
          refine hr_iload_n X dX5_longestKept_32 rfl ?_
          refine hr_iload X dX5_longestKept_33 rfl ?_
          refine hr_callS X kC5_362 dX5_longestKept_35 (c_X5_keepWords cA (M := M) rule q hn) rfl rfl rfl (Nat.le_of_ble_eq_true rfl) ⟨⟨(Nat.le_of_ble_eq_true rfl), (Nat.le_of_ble_eq_true rfl)⟩, (Nat.le_of_ble_eq_true rfl), (Nat.le_of_ble_eq_true rfl)⟩ (fun v M35 hp => ?_)
          obtain ⟨rfl, rfl⟩ := hp
          refine hr_callV X kC5_365 dX5_longestKept_38 (c_X2_holdsInOrder cA (M := M) hS hW hm (sl_kp (sp_rw rule) q 6) (sl_kp_w5 hn 6) (sl_kp_le _ _ 6)) hS rfl rfl rfl rfl (Nat.le_of_ble_eq_true rfl) ⟨⟨(Nat.le_of_ble_eq_true rfl), (Nat.le_of_ble_eq_true rfl)⟩, (Nat.le_of_ble_eq_true rfl), (Nat.le_of_ble_eq_true rfl)⟩ (fun v M38 hp => ?_)
          obtain ⟨rfl, rfl⟩ := hp
          refine hr_if_eq 47 X dX5_longestKept_41 (by decide) (fun c41 => ?_) (fun c41 => ?_)
          · rw [hm_bI_eq] at c41
            have hk : sl_best (sp_rw rule) f m (q + 1) = sl_best (sp_rw rule) f m q := if_neg (fun z => of_decide_eq_false c41 (z.2.trans hlen.symm))
            rw [← hk]
            refine hr_iinc (1) X dX5_longestKept_47 rfl (by decide) ?_
            refine hr_goto 12 X dX5_longestKept_50 (by decide) ?_
            rw [nI_1]
            exact ih (q + 1) _ (by omega) (by omega)
          · have hk : sl_best (sp_rw rule) f m (q + 1) = sp_pop q := by
              have c := of_decide_eq_true (hm_bI_ne.mp c41)
              exact if_pos ⟨hgt, c.trans hlen⟩
            rw [← hk]
            refine hr_iload X dX5_longestKept_44 rfl ?_
            refine hr_istore_n X dX5_longestKept_46 (Nat.le_of_ble_eq_true rfl) ?_
            refine hr_iinc (1) X dX5_longestKept_47 rfl (by decide) ?_
            refine hr_goto 12 X dX5_longestKept_50 (by decide) ?_
            rw [nI_1]
            exact ih (q + 1) _ (by omega) (by omega)
  exact lp12 (2 ^ sp_len rule + 1) 0 _ (Nat.zero_le _) (by omega)
