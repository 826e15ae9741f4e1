/-! words of a row: nonzero ahead of its length; rows put together -/
theorem sl_wa_lt (row p : Int32) : ∃ a, a < 32 ∧ sp_wa row p = nI a := by
  have h : ∀ x : BitVec 32, (x &&& 31#32).toNat < 32 := fun x => by
    rw [BitVec.toNat_and]
    exact Nat.lt_of_le_of_lt Nat.and_le_right (by decide)
  refine ⟨((row >>> ((5 * p) &&& 31)).toBitVec &&& 31#32).toNat, h _, ?_⟩
  apply Int32.toBitVec_inj.mp
  show _ = BitVec.ofNat 32 _
  rw [BitVec.ofNat_toNat, BitVec.setWidth_eq]
  rfl
theorem sl_lenF_ne (row : Int32) : ∀ (f n k : Nat), n ≤ k → k < sp_lenF f row n → ¬ sp_wa row (nI k) = 0
  | 0, n, k, h1, h2 => absurd h1 (Nat.not_le.mpr h2)
  | f + 1, n, k, h1, h2 => by
    unfold sp_lenF at h2
    by_cases h : sp_wa row (nI n) = 0
    · rw [if_pos h] at h2
      exact absurd h1 (Nat.not_le.mpr h2)
    · rw [if_neg h] at h2
      rcases Nat.eq_or_lt_of_le h1 with q | q
      · rw [← q]; exact h
      · exact sl_lenF_ne row f (n + 1) k q h2
theorem sl_len_ne {row : Int32} {k : Nat} (h : k < sp_len row) : ¬ sp_wa row (nI k) = 0 := sl_lenF_ne row 6 0 k (Nat.zero_le _) h
theorem sl_kp_w5 {row : Int32} {b : Nat} (hb : b < 2 ^ sp_len row) : ∀ k, sl_w5 (sl_kp (sp_rw row) b k)
  | 0 => fun x h => absurd h List.not_mem_nil
  | k + 1 => by
    unfold sl_kp
    by_cases ht : b.testBit k = true
    · rw [if_pos ht]
      intro x hx
      rcases List.mem_append.mp hx with q | q
      · exact sl_kp_w5 hb k x q
      · rw [List.mem_singleton.mp q]
        have hk : k < sp_len row := by
          rcases Nat.lt_or_ge k (sp_len row) with z | z
          · exact z
          · rw [Nat.testBit_lt_two_pow (Nat.lt_of_lt_of_le hb (Nat.pow_le_pow_right (by decide) z))] at ht
            exact absurd ht (by decide)
        obtain ⟨a, ha, e⟩ := sl_wa_lt row (nI k)
        refine ⟨a, Nat.pos_of_ne_zero (fun z => sl_len_ne hk ?_), ha, e⟩
        rw [e, z]
        rfl
    · rw [if_neg ht]
      exact sl_kp_w5 hb k
theorem sl_kp_le (r : Nat → Int32) (b : Nat) : ∀ k, (sl_kp r b k).length ≤ k
  | 0 => Nat.le_refl 0
  | k + 1 => by
    have := sl_kp_le r b k
    unfold sl_kp
    split
    · rw [List.length_append]
      show _ + 1 ≤ _
      omega
    · omega
theorem sl_orN (A a i : Nat) (h : A < 2 ^ i) : A ||| a <<< i = A + a * 2 ^ i := by
  rw [Nat.or_comm, ← Nat.shiftLeft_add_eq_or_of_lt h, Nat.shiftLeft_eq, Nat.add_comm]
theorem sl_orB (A a i : Nat) (hi : i ≤ 25) (hA : A < 2 ^ i) (ha : a < 32) : BitVec.ofNat 32 A ||| BitVec.ofNat 32 a <<< i = BitVec.ofNat 32 (A + a * 2 ^ i) := by
  have hp : 2 ^ i ≤ 2 ^ 25 := Nat.pow_le_pow_right (by decide) hi
  have hm : a * 2 ^ i ≤ 31 * 2 ^ 25 := Nat.mul_le_mul (by omega) hp
  have hs : a <<< i < 2 ^ 32 := by rw [Nat.shiftLeft_eq]; omega
  apply BitVec.eq_of_toNat_eq
  rw [BitVec.toNat_or, BitVec.toNat_shiftLeft, BitVec.toNat_ofNat, BitVec.toNat_ofNat, BitVec.toNat_ofNat, Nat.mod_eq_of_lt (show A < 2 ^ 32 by omega), Nat.mod_eq_of_lt (show a < 2 ^ 32 by omega), Nat.mod_eq_of_lt hs, sl_orN A a i hA, Nat.mod_eq_of_lt (by omega)]
theorem sl_or (l A a : Nat) (hl : l ≤ 5) (hA : A < 32 ^ l) (ha : a < 32) : nI A ||| (nI a <<< ((nI l * 5) &&& 31)) = nI (A + a * 32 ^ l) := by
  have e : (32 : Nat) ^ l = 2 ^ (5 * l) := by rw [Nat.pow_mul]
  rw [e] at hA ⊢
  apply Int32.toBitVec_inj.mp
  rcases (show l = 0 ∨ l = 1 ∨ l = 2 ∨ l = 3 ∨ l = 4 ∨ l = 5 by omega) with rfl | rfl | rfl | rfl | rfl | rfl
  · exact sl_orB A a (5 * 0) (by decide) hA ha
  · exact sl_orB A a (5 * 1) (by decide) hA ha
  · exact sl_orB A a (5 * 2) (by decide) hA ha
  · exact sl_orB A a (5 * 3) (by decide) hA ha
  · exact sl_orB A a (5 * 4) (by decide) hA ha
  · exact sl_orB A a (5 * 5) (by decide) hA ha

theorem sl_irF_more {rule pr : Int32} : ∀ (m n : Nat), n ≤ m → sp_irF rule pr n = true → sp_irF rule pr m = true
  | 0, n, h, q => by rw [Nat.le_zero.mp h] at q; exact q
  | m + 1, n, h, q => by
    rcases Nat.eq_or_lt_of_le h with z | z
    · rw [← z]; exact q
    · rw [sp_irF, sl_irF_more m n (Nat.lt_succ_iff.mp z) q]; rfl
theorem sl_irF_in {rule pr : Int32} {n : Nat} (h : n + 1 ≤ sp_len rule - 2) (q : sp_irF rule pr (n + 1) = true) : sp_inR rule pr = true := sl_irF_more _ _ h q
set_option maxHeartbeats 4000000 in
set_option maxRecDepth 100000 in
theorem c_X5_ruleHasPrint (cA : Nat → ClassId) {M : hm_M} (rule pr : Int32) : hm_Met cA yX5_ruleHasPrint cX5_ruleHasPrint 4 (some .boolean) r_X5_ruleHasPrint [.int rule, .int pr] M (hm_pu (some (.int (hm_bI (sp_inR rule pr)))) M) := by
  refine hm_met 2 (by decide +kernel) (fun w h => by simp only [List.mem_cons, List.not_mem_nil, or_false] at h; rcases h with rfl | rfl <;> rfl) rfl (fun C X => ?_)
  show hm_W C 0 0 _ M 0 [some (.int rule), some (.int pr), none, none] []
  have hl6 := sp_len_le rule
  refine hr_iload_n X dX5_ruleHasPrint_0 rfl ?_
  refine hr_callS X kC5_282 dX5_ruleHasPrint_1 (c_X5_rowLength cA (M := _) rule) rfl rfl rfl (Nat.le_of_ble_eq_true rfl) ⟨⟨(Nat.le_of_ble_eq_true rfl), (Nat.le_of_ble_eq_true rfl)⟩, (Nat.le_of_ble_eq_true rfl), (Nat.le_of_ble_eq_true rfl)⟩ (fun v M1 hp => ?_)
  obtain ⟨rfl, rfl⟩ := hp
  refine hr_istore_n X dX5_ruleHasPrint_4 (Nat.le_of_ble_eq_true rfl) ?_
  refine hr_iconst (0) X dX5_ruleHasPrint_5 (by decide) ?_
  refine hr_istore_n X dX5_ruleHasPrint_6 (Nat.le_of_ble_eq_true rfl) ?_
  have lp7 : ∀ (f : Nat) (n : Nat), n ≤ sp_len rule - 2 → sp_len rule - 2 < n + f → sp_irF rule pr n = false → hm_W C (0 + r_X5_rowLength.cells) (0 + r_X5_rowLength.slots) (hm_T C (hm_pu (some (.int (hm_bI (sp_inR rule pr)))) M) r_X5_ruleHasPrint.cells r_X5_ruleHasPrint.slots) M 7 [some (.int rule), some (.int pr), some (.int (nI (sp_len rule))), some (.int (nI n))] [] := by
    intro f
    induction f with
    | zero => intro n h1 h2 h3; exact absurd h2 (by omega)
    | succ f ih =>
      intro n h1 h2 h3
      refine hr_iload_n X dX5_ruleHasPrint_7 rfl ?_
      refine hr_iconst (3) X dX5_ruleHasPrint_8 (by decide) ?_
      refine hr_iadd X dX5_ruleHasPrint_9 ?_
      rw [mm_a3]
      refine hr_iload_n X dX5_ruleHasPrint_10 rfl ?_
      refine hr_icmp_gt 48 X dX5_ruleHasPrint_11 (by decide) (fun c11 => ?_) (fun c11 => ?_)
      · have hz : sp_inR rule pr = false := by
          have q : ¬ n + 3 ≤ sp_len rule := fun z => Int32.not_lt.mpr (nI_le z (by omega)) c11
          rw [sp_inR, show sp_len rule - 2 = n by omega]
          exact h3
        refine hr_iconst (0) X dX5_ruleHasPrint_48 (by decide) ?_
        exact hr_zret X dX5_ruleHasPrint_49 (by rfl) (Nat.le_of_ble_eq_true rfl) (Nat.le_of_ble_eq_true rfl) ⟨by rw [hz]; rfl, rfl⟩
      · have hn : n + 3 ≤ sp_len rule := by
          rcases Nat.lt_or_ge (sp_len rule) (n + 3) with q | q
          · exact absurd ((nI_ltI (by omega) (by omega)).mpr q) c11
          · exact q
        refine hr_iload_n X dX5_ruleHasPrint_14 rfl ?_
        refine hr_iload_n X dX5_ruleHasPrint_15 rfl ?_
        refine hr_callS X kC5_346 dX5_ruleHasPrint_16 (c_X5_wordAt cA (M := _) rule n (by omega)) rfl rfl rfl (Nat.le_of_ble_eq_true rfl) ⟨⟨(Nat.le_of_ble_eq_true rfl), (Nat.le_of_ble_eq_true rfl)⟩, (Nat.le_of_ble_eq_true rfl), (Nat.le_of_ble_eq_true rfl)⟩ (fun v M16 hp => ?_)
        obtain ⟨rfl, rfl⟩ := hp
        refine hr_iload_n X dX5_ruleHasPrint_19 rfl ?_
        refine hr_iload_n X dX5_ruleHasPrint_20 rfl ?_
        refine hr_iconst (1) X dX5_ruleHasPrint_21 (by decide) ?_
        refine hr_iadd X dX5_ruleHasPrint_22 ?_
        rw [mm_a1]
        refine hr_callS X kC5_346 dX5_ruleHasPrint_23 (c_X5_wordAt cA (M := _) rule (n + 1) (by omega)) rfl rfl rfl (Nat.le_of_ble_eq_true rfl) ⟨⟨(Nat.le_of_ble_eq_true rfl), (Nat.le_of_ble_eq_true rfl)⟩, (Nat.le_of_ble_eq_true rfl), (Nat.le_of_ble_eq_true rfl)⟩ (fun v M23 hp => ?_)
        obtain ⟨rfl, rfl⟩ := hp
        refine hr_iload_n X dX5_ruleHasPrint_26 rfl ?_
        refine hr_iload_n X dX5_ruleHasPrint_27 rfl ?_
        refine hr_iconst (2) X dX5_ruleHasPrint_28 (by decide) ?_
        refine hr_iadd X dX5_ruleHasPrint_29 ?_
        rw [mm_a2]
        refine hr_callS X kC5_346 dX5_ruleHasPrint_30 (c_X5_wordAt cA (M := _) rule (n + 2) (by omega)) rfl rfl rfl (Nat.le_of_ble_eq_true rfl) ⟨⟨(Nat.le_of_ble_eq_true rfl), (Nat.le_of_ble_eq_true rfl)⟩, (Nat.le_of_ble_eq_true rfl), (Nat.le_of_ble_eq_true rfl)⟩ (fun v M30 hp => ?_)
        obtain ⟨rfl, rfl⟩ := hp
        refine hr_callS X kC5_368 dX5_ruleHasPrint_33 (c_X5_printOf cA (M := _) (sp_wa rule (nI n)) (sp_wa rule (nI (n + 1))) (sp_wa rule (nI (n + 2)))) rfl rfl rfl (Nat.le_of_ble_eq_true rfl) ⟨⟨(Nat.le_of_ble_eq_true rfl), (Nat.le_of_ble_eq_true rfl)⟩, (Nat.le_of_ble_eq_true rfl), (Nat.le_of_ble_eq_true rfl)⟩ (fun v M33 hp => ?_)
        obtain ⟨rfl, rfl⟩ := hp
        refine hr_iload_n X dX5_ruleHasPrint_36 rfl ?_
        refine hr_icmp_ne 42 X dX5_ruleHasPrint_37 (by decide) (fun c37 => ?_) (fun c37 => ?_)
        · have hz : sp_irF rule pr (n + 1) = false := by rw [sp_irF, h3, Bool.false_or]; exact decide_eq_false c37
          refine hr_iinc (1) X dX5_ruleHasPrint_42 rfl (by decide) ?_
          refine hr_goto 7 X dX5_ruleHasPrint_45 (by decide) ?_
          rw [mm_a1]
          exact ih (n + 1) (by omega) (by omega) hz
        · have hz : sp_inR rule pr = true := sl_irF_in (n := n) (by omega) (by rw [sp_irF, h3, Bool.false_or]; exact decide_eq_true c37)
          refine hr_iconst (1) X dX5_ruleHasPrint_40 (by decide) ?_
          exact hr_zret X dX5_ruleHasPrint_41 (by rfl) (Nat.le_of_ble_eq_true rfl) (Nat.le_of_ble_eq_true rfl) ⟨by rw [hz]; rfl, rfl⟩
  exact lp7 (sp_len rule - 2 + 1) 0 (Nat.zero_le _) (by omega) rfl
set_option maxHeartbeats 4000000 in
set_option maxRecDepth 100000 in
theorem c_X5_keepWords (cA : Nat → ClassId) {M : hm_M} (rule : Int32) (b : Nat) (hb : b < 2 ^ sp_len rule) : hm_Met cA yX5_keepWords cX5_keepWords 5 (some .int) r_X5_keepWords [.int rule, .int (nI b)] M (hm_pu (some (.int (nI (sl_enc (sl_kp (sp_rw rule) b 6))))) M) := by
  refine hm_met 3 (by decide +kernel) (fun w h => by simp only [List.mem_cons, List.not_mem_nil, or_false] at h; rcases h with rfl | rfl <;> rfl) rfl (fun C X => ?_)
  show hm_W C 0 0 _ M 0 [some (.int rule), some (.int (nI b)), none, none, none] []
  have hb6 : b < 64 := Nat.lt_of_lt_of_le hb (show 2 ^ sp_len rule ≤ 2 ^ 6 from Nat.pow_le_pow_right (by decide) (sp_len_le rule))
  refine hr_iconst (0) X dX5_keepWords_0 (by decide) ?_
  refine hr_istore_n X dX5_keepWords_1 (Nat.le_of_ble_eq_true rfl) ?_
  refine hr_iconst (0) X dX5_keepWords_2 (by decide) ?_
  refine hr_istore_n X dX5_keepWords_3 (Nat.le_of_ble_eq_true rfl) ?_
  refine hr_iconst (0) X dX5_keepWords_4 (by decide) ?_
  refine hr_istore X dX5_keepWords_5 (Nat.le_of_ble_eq_true rfl) ?_
  have lp7 : ∀ (f : Nat) (p : Nat), p ≤ 6 → 6 < p + f → hm_W C 0 0 (hm_T C (hm_pu (some (.int (nI (sl_enc (sl_kp (sp_rw rule) b 6))))) M) r_X5_keepWords.cells r_X5_keepWords.slots) M 7 [some (.int rule), some (.int (nI b)), some (.int (nI (sl_enc (sl_kp (sp_rw rule) b p)))), some (.int (nI (sl_kp (sp_rw rule) b p).length)), some (.int (nI p))] [] := by
    intro f
    induction f with
    | zero => intro p h1 h2; exact absurd h2 (by omega)
    | succ f ih =>
      intro p h1 h2
      refine hr_iload X dX5_keepWords_7 rfl ?_
      refine hr_bipush (6) X dX5_keepWords_9 (by decide) ?_
      refine hr_icmp_ge 45 X dX5_keepWords_11 (by decide) (fun c11 => ?_) (fun c11 => ?_)
      · have hz : p = 6 := by
          have q : 6 ≤ p := (nI_leI (a := 6) (by decide) (by omega)).mp c11
          omega
        refine hr_iload_n X dX5_keepWords_45 rfl ?_
        exact hr_iret X dX5_keepWords_46 (Nat.le_of_ble_eq_true rfl) (Nat.le_of_ble_eq_true rfl) ⟨by rw [hz], rfl⟩
      · have hn : p < 6 := Nat.lt_of_not_le (fun q => c11 ((nI_leI (by decide) (by omega)).mpr q))
        refine hr_iload_n X dX5_keepWords_14 rfl ?_
        refine hr_iload X dX5_keepWords_15 rfl ?_
        refine hr_iushr X dX5_keepWords_17 ?_
        refine hr_iconst (1) X dX5_keepWords_18 (by decide) ?_
        refine hr_iand X dX5_keepWords_19 ?_
        refine hr_if_eq 39 X dX5_keepWords_20 (by decide) (fun c20 => ?_) (fun c20 => ?_)
        · have hf : ¬ b.testBit p = true := fun q => by
            have e := (sb_bit b hb6 p hn).symm.trans c20
            rw [if_pos q] at e
            exact absurd e (by decide)
          have hk : sl_kp (sp_rw rule) b (p + 1) = sl_kp (sp_rw rule) b p := if_neg hf
          rw [← hk]
          refine hr_iinc (1) X dX5_keepWords_39 rfl (by decide) ?_
          refine hr_goto 7 X dX5_keepWords_42 (by decide) ?_
          rw [nI_1]
          exact ih (p + 1) (by omega) (by omega)
        · have hf : b.testBit p = true := by
            by_cases q : b.testBit p = true
            · exact q
            · have e := sb_bit b hb6 p hn
              rw [if_neg q] at e
              exact absurd e c20
          have hk : sl_kp (sp_rw rule) b (p + 1) = sl_kp (sp_rw rule) b p ++ [sp_wa rule (nI p)] := if_pos hf
          have hL : nI (sl_kp (sp_rw rule) b p).length + 1 = nI (sl_kp (sp_rw rule) b (p + 1)).length := by rw [hk, List.length_append, nI_1]; rfl
          have hE : nI (sl_enc (sl_kp (sp_rw rule) b p)) ||| (sp_wa rule (nI p) <<< ((nI (sl_kp (sp_rw rule) b p).length * 5) &&& 31)) = nI (sl_enc (sl_kp (sp_rw rule) b (p + 1))) := by
            obtain ⟨a, ha, e⟩ := sl_wa_lt rule (nI p)
            rw [hk, sl_enc_snoc, e, show nN (nI a) = a from nI_clamp (by omega)]
            exact sl_or _ _ a (by have := sl_kp_le (sp_rw rule) b p; omega) (sl_enc_lt _ (sl_kp_w5 hb p)) ha
          refine hr_iload_n X dX5_keepWords_23 rfl ?_
          refine hr_iload_n X dX5_keepWords_24 rfl ?_
          refine hr_iload X dX5_keepWords_25 rfl ?_
          refine hr_callS X kC5_346 dX5_keepWords_27 (c_X5_wordAt cA (M := _) rule p hn) rfl rfl rfl (Nat.le_of_ble_eq_true rfl) ⟨⟨(Nat.le_of_ble_eq_true rfl), (Nat.le_of_ble_eq_true rfl)⟩, (Nat.le_of_ble_eq_true rfl), (Nat.le_of_ble_eq_true rfl)⟩ (fun v M27 hp => ?_)
          obtain ⟨rfl, rfl⟩ := hp
          refine hr_iload_n X dX5_keepWords_30 rfl ?_
          refine hr_iconst (5) X dX5_keepWords_31 (by decide) ?_
          refine hr_imul X dX5_keepWords_32 ?_
          refine hr_ishl X dX5_keepWords_33 ?_
          refine hr_ior X dX5_keepWords_34 ?_
          rw [hE]
          refine hr_istore_n X dX5_keepWords_35 (Nat.le_of_ble_eq_true rfl) ?_
          refine hr_iinc (1) X dX5_keepWords_36 rfl (by decide) ?_
          rw [hL]
          refine hr_iinc (1) X dX5_keepWords_39 rfl (by decide) ?_
          refine hr_goto 7 X dX5_keepWords_42 (by decide) ?_
          rw [nI_1]
          exact ih (p + 1) (by omega) (by omega)
  exact lp7 7 0 (by decide) (by decide)
