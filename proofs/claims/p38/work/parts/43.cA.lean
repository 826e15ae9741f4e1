/-! the system's small methods: words ahead of them -/
theorem sb_hi (a b : Int32) (x y : Nat) (hx : x + 1 < 2 ^ 31) (ha : a = nI (x + 1)) (hb : b = nI x) {g : Int32} : g < a ↔ ¬ b < g := by
  rw [Int32.lt_iff_toInt_lt, Int32.lt_iff_toInt_lt, ha, hb, nI_toInt hx, nI_toInt (by omega)]
  omega
theorem sb_4 {g : Int32} : g < 4 ↔ ¬ 3 < g := sb_hi 4 3 3 0 (by decide) rfl rfl
theorem sb_5 {g : Int32} : g < 5 ↔ ¬ 4 < g := sb_hi 5 4 4 0 (by decide) rfl rfl
theorem sb_12 {g : Int32} : g < 12 ↔ ¬ 11 < g := sb_hi 12 11 11 0 (by decide) rfl rfl
theorem sb_inF {v lo hi : Int32} (h : v < lo ∨ hi < v) : sp_in v lo hi = false := Bool.eq_false_iff.mpr (sp_in_f h)
theorem sb_andF1 {a b : Bool} (h : a = false) : (a && b) = false := by rw [h]; rfl
theorem sb_andF2 {a b : Bool} (h : b = false) : (a && b) = false := by rw [h]; exact Bool.and_false a
theorem sb_andT {a b : Bool} (h1 : a = true) (h2 : b = true) : (a && b) = true := by rw [h1, h2]; rfl
def sb_us (x y : Int32) : Int32 := (x.toUInt32 >>> (y.toUInt32 &&& Int32.toUInt32 31)).toInt32
def sb_b1 (i : Int32) : Int32 := i - (sb_us i 1 &&& 1431655765)
def sb_b2 (i : Int32) : Int32 := (sb_b1 i &&& 858993459) + (sb_us (sb_b1 i) 2 &&& 858993459)
def sb_b3 (i : Int32) : Int32 := (sb_b2 i + sb_us (sb_b2 i) 4) &&& 252645135
def sb_b4 (i : Int32) : Int32 := sb_b3 i + sb_us (sb_b3 i) 8
def sb_b5 (i : Int32) : Int32 := (sb_b4 i + sb_us (sb_b4 i) 16) &&& 63
theorem sb_bc : ∀ m, m < 64 → sb_b5 (nI m) = nI (sp_pop m) := by decide +kernel
theorem sb_bit : ∀ b, b < 64 → ∀ p, p < 6 → sb_us (nI b) (nI p) &&& 1 = if b.testBit p = true then 1 else 0 := by decide +kernel
def sb_said (kind said : Int32) : Bool := if kind = 0 then sp_in said (-1000) 1000 else if kind = 1 then sp_in said 0 4 else sp_in said 1 31
def sb_min (a b : Int32) : Int32 := if b < a then b else a
def sb_max (a b : Int32) : Int32 := if a < b then b else a
def sb_abs (a : Int32) : Int32 := if 0 ≤ a then a else 0 - a
def sb_lk (c a b : Int32) : Int32 := if 0 < sb_min a b then 100 * c / sb_min a b else 0
theorem sb_z (x : BitVec 32) (k : Nat) (hk : k < 32) : x >>> k = 0#32 ↔ x.sshiftRight k = 0#32 := by
  constructor
  · intro h
    have hm : x.msb = false := by
      have q := congrArg (fun z => z.getLsbD (31 - k)) h
      simp only [BitVec.getLsbD_ushiftRight] at q
      rw [show k + (31 - k) = 31 by omega] at q
      rw [BitVec.msb_eq_getLsbD_last]
      exact q.trans (by simp)
    rw [BitVec.sshiftRight_eq_of_msb_false hm]
    exact h
  · intro h
    have hm : x.msb = false := by
      have q := congrArg BitVec.msb h
      rw [BitVec.msb_sshiftRight] at q
      exact q.trans rfl
    rw [BitVec.sshiftRight_eq_of_msb_false hm] at h
    exact h
theorem sb_uz (row : Int32) (n : Nat) (hn : n ≤ 6) : sb_us row (nI n * 5) = 0 ↔ row >>> ((nI n * 5) &&& 31) = 0 := by
  have h : ∀ k, k < 32 → (row.toBitVec >>> k = 0#32 ↔ row.toBitVec.sshiftRight k = 0#32) := fun k hk => sb_z _ k hk
  have a : ∀ y : Int32, y = 0 ↔ y.toBitVec = 0#32 := fun y => ⟨fun q => by rw [q]; rfl, fun q => Int32.toBitVec_inj.mp q⟩
  rw [a, a]
  rcases (show n = 0 ∨ n = 1 ∨ n = 2 ∨ n = 3 ∨ n = 4 ∨ n = 5 ∨ n = 6 by omega) with rfl | rfl | rfl | rfl | rfl | rfl | rfl
  · exact h 0 (by decide)
  · exact h 5 (by decide)
  · exact h 10 (by decide)
  · exact h 15 (by decide)
  · exact h 20 (by decide)
  · exact h 25 (by decide)
  · exact h 30 (by decide)
theorem sb_rowU (row : Int32) : sp_row row = true ↔ ¬ nI (sp_len row) = 0 ∧ sb_us row (nI (sp_len row) * 5) = 0 := by
  rw [sb_row, sb_uz row _ (sp_len_le row)]
theorem sb_us0 (row : Int32) : sb_us row (nI 0 * 5) = row := Int32.toBitVec_inj.mp (BitVec.ushiftRight_zero row.toBitVec)
theorem sb_us5 (row : Int32) (n : Nat) (hn : n < 6) : sb_us (sb_us row (nI n * 5)) 5 = sb_us row (nI (n + 1) * 5) := by
  have h : ∀ k : Nat, row.toBitVec >>> k >>> 5 = row.toBitVec >>> (k + 5) := fun k => (BitVec.shiftRight_add row.toBitVec k 5).symm
  rcases (show n = 0 ∨ n = 1 ∨ n = 2 ∨ n = 3 ∨ n = 4 ∨ n = 5 by omega) with rfl | rfl | rfl | rfl | rfl | rfl
  · exact Int32.toBitVec_inj.mp (h 0)
  · exact Int32.toBitVec_inj.mp (h 5)
  · exact Int32.toBitVec_inj.mp (h 10)
  · exact Int32.toBitVec_inj.mp (h 15)
  · exact Int32.toBitVec_inj.mp (h 20)
  · exact Int32.toBitVec_inj.mp (h 25)
section HMA
variable {C : hm_C} {own : String} {cc : ByteArray} {nL : Nat} {ret : Option FieldType} {nm : String} {rm : Room} {cA : Nat → ClassId} {k n : Nat} {Q : State → Prop} {M : hm_M} {pc : Nat} {L : List (Option Value)} {st : List Value}
theorem hr_mmax {idx : Nat} {x y : Int32} (X : hm_X C own cc nL ret nm rm cA) (lk : hm_lS own idx yJ9_max_7cf53 cJ9_max_7cf53 2 (some .int) 2) (d : decode cc pc = .ok (.invokestatic idx, 3)) (hL : L.length = nL) (hf : 1 ≤ rm.frames ∧ (st.map fun v => v.category).sum + 13 ≤ rm.locals ∧ k ≤ rm.cells ∧ n ≤ rm.slots)
    (kk : hm_W C k n Q M (pc + 3) L (.int (sb_max x y) :: st)) : hm_W C k n Q M pc L (.int y :: .int x :: st) := by
  obtain ⟨p, l, e, R, s, m, args, below, meth, c, D, cA', A⟩ := C
  obtain ⟨hx, hb, hr, hml, hown, hts, hlk, hG, hnm, rfl, rfl, hst⟩ := X
  intro H locs ls hP hA hS hl
  exact va_mmax hx hb ((hl.1.trans hL).trans hml.symm).symm hown (hts _ lk.1) (hts _ lk.2.1) (hts _ lk.2.2.1) (hts _ lk.2.2.2.1) hf.1 hf.2.1 hf.2.2.1 hf.2.2.2 d (kk H locs ls hP hA hS hl)
theorem hr_mmin {idx : Nat} {x y : Int32} (X : hm_X C own cc nL ret nm rm cA) (lk : hm_lS own idx yJ9_min_7cf53 cJ9_min_7cf53 2 (some .int) 2) (d : decode cc pc = .ok (.invokestatic idx, 3)) (hL : L.length = nL) (hf : 1 ≤ rm.frames ∧ (st.map fun v => v.category).sum + 13 ≤ rm.locals ∧ k ≤ rm.cells ∧ n ≤ rm.slots)
    (kk : hm_W C k n Q M (pc + 3) L (.int (sb_min x y) :: st)) : hm_W C k n Q M pc L (.int y :: .int x :: st) := by
  obtain ⟨p, l, e, R, s, m, args, below, meth, c, D, cA', A⟩ := C
  obtain ⟨hx, hb, hr, hml, hown, hts, hlk, hG, hnm, rfl, rfl, hst⟩ := X
  intro H locs ls hP hA hS hl
  exact va_mmin hx hb ((hl.1.trans hL).trans hml.symm).symm hown (hts _ lk.1) (hts _ lk.2.1) (hts _ lk.2.2.1) (hts _ lk.2.2.2.1) hf.1 hf.2.1 hf.2.2.1 hf.2.2.2 d (kk H locs ls hP hA hS hl)
theorem hr_mabs {idx : Nat} {x : Int32} (X : hm_X C own cc nL ret nm rm cA) (lk : hm_lS own idx yJ9_abs_0f7a4 cJ9_abs_0f7a4 1 (some .int) 1) (d : decode cc pc = .ok (.invokestatic idx, 3)) (hL : L.length = nL) (hf : 1 ≤ rm.frames ∧ (st.map fun v => v.category).sum + 13 ≤ rm.locals ∧ k ≤ rm.cells ∧ n ≤ rm.slots)
    (kk : hm_W C k n Q M (pc + 3) L (.int (sb_abs x) :: st)) : hm_W C k n Q M pc L (.int x :: st) := by
  obtain ⟨p, l, e, R, s, m, args, below, meth, c, D, cA', A⟩ := C
  obtain ⟨hx, hb, hr, hml, hown, hts, hlk, hG, hnm, rfl, rfl, hst⟩ := X
  intro H locs ls hP hA hS hl
  exact va_mabs hx hb ((hl.1.trans hL).trans hml.symm).symm hown (hts _ lk.1) (hts _ lk.2.1) (hts _ lk.2.2.1) (hts _ lk.2.2.2.1) hf.1 hf.2.1 hf.2.2.1 hf.2.2.2 d (kk H locs ls hP hA hS hl)
end HMA
def sb_pp (c a b : Int32) : Bool := !decide (c < 2) && !decide (sb_lk c a b < 60)

set_option maxHeartbeats 4000000 in
set_option maxRecDepth 100000 in
theorem c_J6_bitCount_0f7a4 (cA : Nat → ClassId) {M : hm_M} (m : Nat) (hm : m < 64) : hm_Met cA yJ6_bitCount_0f7a4 cJ6_bitCount_0f7a4 1 (some .int) r_J6_bitCount_0f7a4 [.int (nI m)] M (hm_pu (some (.int (nI (sp_pop m)))) M) := by
  refine hm_met 0 (by decide +kernel) (fun w h => by simp only [List.mem_cons, List.not_mem_nil, or_false] at h; rcases h with rfl <;> rfl) rfl (fun C X => ?_)
  show hm_W C 0 0 _ M 0 [some (.int (nI m))] []
  refine hr_iload_n X dJ6_bitCount_0f7a4_0 rfl ?_
  refine hr_iload_n X dJ6_bitCount_0f7a4_1 rfl ?_
  refine hr_iconst (1) X dJ6_bitCount_0f7a4_2 (by decide) ?_
  refine hr_iushr X dJ6_bitCount_0f7a4_3 ?_
  refine hr_ldcw (1431655765) X dJ6_bitCount_0f7a4_4 kKJ6_265 ?_
  refine hr_iand X dJ6_bitCount_0f7a4_7 ?_
  refine hr_isub X dJ6_bitCount_0f7a4_8 ?_
  refine hr_istore_n X dJ6_bitCount_0f7a4_9 (Nat.le_of_ble_eq_true rfl) ?_
  refine hr_iload_n X dJ6_bitCount_0f7a4_10 rfl ?_
  refine hr_ldcw (858993459) X dJ6_bitCount_0f7a4_11 kKJ6_266 ?_
  refine hr_iand X dJ6_bitCount_0f7a4_14 ?_
  refine hr_iload_n X dJ6_bitCount_0f7a4_15 rfl ?_
  refine hr_iconst (2) X dJ6_bitCount_0f7a4_16 (by decide) ?_
  refine hr_iushr X dJ6_bitCount_0f7a4_17 ?_
  refine hr_ldcw (858993459) X dJ6_bitCount_0f7a4_18 kKJ6_266 ?_
  refine hr_iand X dJ6_bitCount_0f7a4_21 ?_
  refine hr_iadd X dJ6_bitCount_0f7a4_22 ?_
  refine hr_istore_n X dJ6_bitCount_0f7a4_23 (Nat.le_of_ble_eq_true rfl) ?_
  refine hr_iload_n X dJ6_bitCount_0f7a4_24 rfl ?_
  refine hr_iload_n X dJ6_bitCount_0f7a4_25 rfl ?_
  refine hr_iconst (4) X dJ6_bitCount_0f7a4_26 (by decide) ?_
  refine hr_iushr X dJ6_bitCount_0f7a4_27 ?_
  refine hr_iadd X dJ6_bitCount_0f7a4_28 ?_
  refine hr_ldcw (252645135) X dJ6_bitCount_0f7a4_29 kKJ6_267 ?_
  refine hr_iand X dJ6_bitCount_0f7a4_32 ?_
  refine hr_istore_n X dJ6_bitCount_0f7a4_33 (Nat.le_of_ble_eq_true rfl) ?_
  refine hr_iload_n X dJ6_bitCount_0f7a4_34 rfl ?_
  refine hr_iload_n X dJ6_bitCount_0f7a4_35 rfl ?_
  refine hr_bipush (8) X dJ6_bitCount_0f7a4_36 (by decide) ?_
  refine hr_iushr X dJ6_bitCount_0f7a4_38 ?_
  refine hr_iadd X dJ6_bitCount_0f7a4_39 ?_
  refine hr_istore_n X dJ6_bitCount_0f7a4_40 (Nat.le_of_ble_eq_true rfl) ?_
  refine hr_iload_n X dJ6_bitCount_0f7a4_41 rfl ?_
  refine hr_iload_n X dJ6_bitCount_0f7a4_42 rfl ?_
  refine hr_bipush (16) X dJ6_bitCount_0f7a4_43 (by decide) ?_
  refine hr_iushr X dJ6_bitCount_0f7a4_45 ?_
  refine hr_iadd X dJ6_bitCount_0f7a4_46 ?_
  refine hr_istore_n X dJ6_bitCount_0f7a4_47 (Nat.le_of_ble_eq_true rfl) ?_
  refine hr_iload_n X dJ6_bitCount_0f7a4_48 rfl ?_
  refine hr_bipush (63) X dJ6_bitCount_0f7a4_49 (by decide) ?_
  refine hr_iand X dJ6_bitCount_0f7a4_51 ?_
  exact hr_iret X dJ6_bitCount_0f7a4_52 (Nat.le_of_ble_eq_true rfl) (Nat.le_of_ble_eq_true rfl) ⟨congrArg (fun z => some (Value.int z)) (sb_bc m hm), rfl⟩
set_option maxHeartbeats 4000000 in
set_option maxRecDepth 100000 in
theorem c_X5_wordAt (cA : Nat → ClassId) {M : hm_M} (row : Int32) (p : Nat) (hp : p < 6) : hm_Met cA yX5_wordAt cX5_wordAt 2 (some .int) r_X5_wordAt [.int row, .int (nI p)] M (hm_pu (some (.int (sp_wa row (nI p)))) M) := by
  refine hm_met 0 (by decide +kernel) (fun w h => by simp only [List.mem_cons, List.not_mem_nil, or_false] at h; rcases h with rfl | rfl <;> rfl) rfl (fun C X => ?_)
  show hm_W C 0 0 _ M 0 [some (.int row), some (.int (nI p))] []
  refine hr_iload_n X dX5_wordAt_0 rfl ?_
  refine hr_iload_n X dX5_wordAt_1 rfl ?_
  refine hr_iconst (5) X dX5_wordAt_2 (by decide) ?_
  refine hr_imul X dX5_wordAt_3 ?_
  refine hr_iushr X dX5_wordAt_4 ?_
  refine hr_bipush (31) X dX5_wordAt_5 (by decide) ?_
  refine hr_iand X dX5_wordAt_7 ?_
  exact hr_iret X dX5_wordAt_8 (Nat.le_of_ble_eq_true rfl) (Nat.le_of_ble_eq_true rfl) ⟨congrArg (fun z => some (Value.int z)) (sb_wa row p hp), rfl⟩
set_option maxHeartbeats 4000000 in
set_option maxRecDepth 100000 in
theorem c_X5_rowLength (cA : Nat → ClassId) {M : hm_M} (row : Int32) : hm_Met cA yX5_rowLength cX5_rowLength 3 (some .int) r_X5_rowLength [.int row] M (hm_pu (some (.int (nI (sp_len row)))) M) := by
  refine hm_met 2 (by decide +kernel) (fun w h => by simp only [List.mem_cons, List.not_mem_nil, or_false] at h; rcases h with rfl <;> rfl) rfl (fun C X => ?_)
  show hm_W C 0 0 _ M 0 [some (.int row), none, none] []
  refine hr_iconst (0) X dX5_rowLength_0 (by decide) ?_
  refine hr_istore_n X dX5_rowLength_1 (Nat.le_of_ble_eq_true rfl) ?_
  refine hr_iload_n X dX5_rowLength_2 rfl ?_
  refine hr_istore_n X dX5_rowLength_3 (Nat.le_of_ble_eq_true rfl) ?_
  have lp4 : ∀ (f : Nat) (n : Nat), 6 < n + f → n ≤ 6 → sp_lenF (6 - n) row n = sp_len row → hm_W C 0 0 (hm_T C (hm_pu (some (.int (nI (sp_len row)))) M) r_X5_rowLength.cells r_X5_rowLength.slots) M 4 [some (.int row), some (.int (nI n)), some (.int (sb_us row (nI n * 5)))] [] := by
    intro f
    induction f with
    | zero => intro n h1 h2 h3; exact absurd h1 (by omega)
    | succ f ih =>
      intro n h1 h2 h3
      refine hr_iload_n X dX5_rowLength_4 rfl ?_
      refine hr_bipush (6) X dX5_rowLength_5 (by decide) ?_
      refine hr_icmp_ge 27 X dX5_rowLength_7 (by decide) (fun c7 => ?_) (fun c7 => ?_)
      · have hz : n = sp_len row := by
          have q : 6 ≤ n := (nI_leI (a := 6) (by decide) (by omega)).mp c7
          rw [← h3, show n = 6 by omega]
          rfl
        refine hr_iload_n X dX5_rowLength_27 rfl ?_
        exact hr_iret X dX5_rowLength_28 (Nat.le_of_ble_eq_true rfl) (Nat.le_of_ble_eq_true rfl) ⟨by rw [hz], rfl⟩
      · have hn : n < 6 := Nat.lt_of_not_le (fun q => c7 ((nI_leI (by decide) (by omega)).mpr q))
        refine hr_iload_n X dX5_rowLength_10 rfl ?_
        refine hr_bipush (31) X dX5_rowLength_11 (by decide) ?_
        refine hr_iand X dX5_rowLength_13 ?_
        refine hr_if_eq 27 X dX5_rowLength_14 (by decide) (fun c14 => ?_) (fun c14 => ?_)
        · have cw : sp_wa row (nI n) = 0 := (sb_wa row n hn).symm.trans c14
          have hz : n = sp_len row := by
            rw [← h3, show 6 - n = (6 - (n + 1)) + 1 by omega, sp_lenF, if_pos cw]
          refine hr_iload_n X dX5_rowLength_27 rfl ?_
          exact hr_iret X dX5_rowLength_28 (Nat.le_of_ble_eq_true rfl) (Nat.le_of_ble_eq_true rfl) ⟨by rw [hz], rfl⟩
        · have cw : ¬ sp_wa row (nI n) = 0 := fun q => c14 ((sb_wa row n hn).trans q)
          refine hr_iinc (1) X dX5_rowLength_17 rfl (by decide) ?_
          refine hr_iload_n X dX5_rowLength_20 rfl ?_
          refine hr_iconst (5) X dX5_rowLength_21 (by decide) ?_
          refine hr_iushr X dX5_rowLength_22 ?_
          refine hr_istore_n X dX5_rowLength_23 (Nat.le_of_ble_eq_true rfl) ?_
          refine hr_goto 4 X dX5_rowLength_24 (by decide) ?_
          have e := ih (n + 1) (by omega) (by omega) (by rw [← h3, show 6 - n = (6 - (n + 1)) + 1 by omega, sp_lenF, if_neg cw])
          rw [← sb_us5 row n hn] at e
          rw [nI_1]
          exact e
  have e := lp4 7 0 (by decide) (by decide) rfl
  rw [sb_us0] at e
  exact e
set_option maxHeartbeats 4000000 in
set_option maxRecDepth 100000 in
theorem c_X5_printOf (cA : Nat → ClassId) {M : hm_M} (a b c : Int32) : hm_Met cA yX5_printOf cX5_printOf 3 (some .int) r_X5_printOf [.int a, .int b, .int c] M (hm_pu (some (.int (sp_pr a b c))) M) := by
  refine hm_met 0 (by decide +kernel) (fun w h => by simp only [List.mem_cons, List.not_mem_nil, or_false] at h; rcases h with rfl | rfl | rfl <;> rfl) rfl (fun C X => ?_)
  show hm_W C 0 0 _ M 0 [some (.int a), some (.int b), some (.int c)] []
  refine hr_iload_n X dX5_printOf_0 rfl ?_
  refine hr_bipush (10) X dX5_printOf_1 (by decide) ?_
  refine hr_ishl X dX5_printOf_3 ?_
  refine hr_iload_n X dX5_printOf_4 rfl ?_
  refine hr_iconst (5) X dX5_printOf_5 (by decide) ?_
  refine hr_ishl X dX5_printOf_6 ?_
  refine hr_iadd X dX5_printOf_7 ?_
  refine hr_iload_n X dX5_printOf_8 rfl ?_
  refine hr_iadd X dX5_printOf_9 ?_
  exact hr_iret X dX5_printOf_10 (Nat.le_of_ble_eq_true rfl) (Nat.le_of_ble_eq_true rfl) ⟨congrArg (fun z => some (Value.int z)) (sb_pr a b c), rfl⟩
set_option maxHeartbeats 4000000 in
set_option maxRecDepth 100000 in
theorem c_X5_checkClass (cA : Nat → ClassId) {M : hm_M} (v : Int32) : hm_XMet cA yX5_checkClass cX5_checkClass 1 none r_X5_checkClass [.int v] M (fun v' M' => sp_in v 0 3 = true ∧ v' = none ∧ M = M') (fun E M' => sp_in v 0 3 = false ∧ E = "java/lang/IndexOutOfBoundsException" ∧ M = M') := by
  refine hm_xmet 0 (by decide +kernel) (fun w h => by simp only [List.mem_cons, List.not_mem_nil, or_false] at h; rcases h with rfl <;> rfl) rfl (fun C X XE => ?_)
  show hm_W C 0 0 _ M 0 [some (.int v)] []
  refine hr_iload_n X dX5_checkClass_0 rfl ?_
  refine hr_if_lt 9 X dX5_checkClass_1 (by decide) (fun c1 => ?_) (fun c1 => ?_)
  · have hz : sp_in v 0 3 = false := sb_inF (Or.inl c1)
    exact hr_throwW X XE kT5_249_271_253 dX5_checkClass_9 dX5_checkClass_12 dX5_checkClass_13 dX5_checkClass_16 dX5_checkClass_19 rfl ⟨(Nat.le_of_ble_eq_true rfl), (Nat.le_of_ble_eq_true rfl), (Nat.le_of_ble_eq_true rfl), (Nat.le_of_ble_eq_true rfl)⟩ (Nat.le_of_ble_eq_true rfl) (Nat.le_of_ble_eq_true rfl) ⟨hz, rfl, rfl⟩
  · refine hr_iload_n X dX5_checkClass_4 rfl ?_
    refine hr_iconst (4) X dX5_checkClass_5 (by decide) ?_
    refine hr_icmp_lt 20 X dX5_checkClass_6 (by decide) (fun c6 => ?_) (fun c6 => ?_)
    · have hz : sp_in v 0 3 = true := sp_in_t c1 (sb_4.mp c6)
      exact hr_vretX X dX5_checkClass_20 (Nat.le_of_ble_eq_true rfl) (Nat.le_of_ble_eq_true rfl) ⟨hz, rfl, rfl⟩
    · have hz : sp_in v 0 3 = false := sb_inF (Or.inr (Classical.not_not.mp (fun q => c6 (sb_4.mpr q))))
      exact hr_throwW X XE kT5_249_271_253 dX5_checkClass_9 dX5_checkClass_12 dX5_checkClass_13 dX5_checkClass_16 dX5_checkClass_19 rfl ⟨(Nat.le_of_ble_eq_true rfl), (Nat.le_of_ble_eq_true rfl), (Nat.le_of_ble_eq_true rfl), (Nat.le_of_ble_eq_true rfl)⟩ (Nat.le_of_ble_eq_true rfl) (Nat.le_of_ble_eq_true rfl) ⟨hz, rfl, rfl⟩
set_option maxHeartbeats 4000000 in
set_option maxRecDepth 100000 in
theorem c_X5_checkPupil (cA : Nat → ClassId) {M : hm_M} (v : Int32) : hm_XMet cA yX5_checkPupil cX5_checkPupil 1 none r_X5_checkPupil [.int v] M (fun v' M' => sp_in v 0 11 = true ∧ v' = none ∧ M = M') (fun E M' => sp_in v 0 11 = false ∧ E = "java/lang/IndexOutOfBoundsException" ∧ M = M') := by
  refine hm_xmet 0 (by decide +kernel) (fun w h => by simp only [List.mem_cons, List.not_mem_nil, or_false] at h; rcases h with rfl <;> rfl) rfl (fun C X XE => ?_)
  show hm_W C 0 0 _ M 0 [some (.int v)] []
  refine hr_iload_n X dX5_checkPupil_0 rfl ?_
  refine hr_if_lt 10 X dX5_checkPupil_1 (by decide) (fun c1 => ?_) (fun c1 => ?_)
  · have hz : sp_in v 0 11 = false := sb_inF (Or.inl c1)
    exact hr_throwW X XE kT5_249_273_253 dX5_checkPupil_10 dX5_checkPupil_13 dX5_checkPupil_14 dX5_checkPupil_17 dX5_checkPupil_20 rfl ⟨(Nat.le_of_ble_eq_true rfl), (Nat.le_of_ble_eq_true rfl), (Nat.le_of_ble_eq_true rfl), (Nat.le_of_ble_eq_true rfl)⟩ (Nat.le_of_ble_eq_true rfl) (Nat.le_of_ble_eq_true rfl) ⟨hz, rfl, rfl⟩
  · refine hr_iload_n X dX5_checkPupil_4 rfl ?_
    refine hr_bipush (12) X dX5_checkPupil_5 (by decide) ?_
    refine hr_icmp_lt 21 X dX5_checkPupil_7 (by decide) (fun c7 => ?_) (fun c7 => ?_)
    · have hz : sp_in v 0 11 = true := sp_in_t c1 (sb_12.mp c7)
      exact hr_vretX X dX5_checkPupil_21 (Nat.le_of_ble_eq_true rfl) (Nat.le_of_ble_eq_true rfl) ⟨hz, rfl, rfl⟩
    · have hz : sp_in v 0 11 = false := sb_inF (Or.inr (Classical.not_not.mp (fun q => c7 (sb_12.mpr q))))
      exact hr_throwW X XE kT5_249_273_253 dX5_checkPupil_10 dX5_checkPupil_13 dX5_checkPupil_14 dX5_checkPupil_17 dX5_checkPupil_20 rfl ⟨(Nat.le_of_ble_eq_true rfl), (Nat.le_of_ble_eq_true rfl), (Nat.le_of_ble_eq_true rfl), (Nat.le_of_ble_eq_true rfl)⟩ (Nat.le_of_ble_eq_true rfl) (Nat.le_of_ble_eq_true rfl) ⟨hz, rfl, rfl⟩
set_option maxHeartbeats 4000000 in
set_option maxRecDepth 100000 in
theorem c_X5_checkTask (cA : Nat → ClassId) {M : hm_M} (v : Int32) : hm_XMet cA yX5_checkTask cX5_checkTask 1 none r_X5_checkTask [.int v] M (fun v' M' => sp_in v 0 4 = true ∧ v' = none ∧ M = M') (fun E M' => sp_in v 0 4 = false ∧ E = "java/lang/IndexOutOfBoundsException" ∧ M = M') := by
  refine hm_xmet 0 (by decide +kernel) (fun w h => by simp only [List.mem_cons, List.not_mem_nil, or_false] at h; rcases h with rfl <;> rfl) rfl (fun C X XE => ?_)
  show hm_W C 0 0 _ M 0 [some (.int v)] []
  refine hr_iload_n X dX5_checkTask_0 rfl ?_
  refine hr_if_lt 9 X dX5_checkTask_1 (by decide) (fun c1 => ?_) (fun c1 => ?_)
  · have hz : sp_in v 0 4 = false := sb_inF (Or.inl c1)
    exact hr_throwW X XE kT5_249_275_253 dX5_checkTask_9 dX5_checkTask_12 dX5_checkTask_13 dX5_checkTask_16 dX5_checkTask_19 rfl ⟨(Nat.le_of_ble_eq_true rfl), (Nat.le_of_ble_eq_true rfl), (Nat.le_of_ble_eq_true rfl), (Nat.le_of_ble_eq_true rfl)⟩ (Nat.le_of_ble_eq_true rfl) (Nat.le_of_ble_eq_true rfl) ⟨hz, rfl, rfl⟩
  · refine hr_iload_n X dX5_checkTask_4 rfl ?_
    refine hr_iconst (5) X dX5_checkTask_5 (by decide) ?_
    refine hr_icmp_lt 20 X dX5_checkTask_6 (by decide) (fun c6 => ?_) (fun c6 => ?_)
    · have hz : sp_in v 0 4 = true := sp_in_t c1 (sb_5.mp c6)
      exact hr_vretX X dX5_checkTask_20 (Nat.le_of_ble_eq_true rfl) (Nat.le_of_ble_eq_true rfl) ⟨hz, rfl, rfl⟩
    · have hz : sp_in v 0 4 = false := sb_inF (Or.inr (Classical.not_not.mp (fun q => c6 (sb_5.mpr q))))
      exact hr_throwW X XE kT5_249_275_253 dX5_checkTask_9 dX5_checkTask_12 dX5_checkTask_13 dX5_checkTask_16 dX5_checkTask_19 rfl ⟨(Nat.le_of_ble_eq_true rfl), (Nat.le_of_ble_eq_true rfl), (Nat.le_of_ble_eq_true rfl), (Nat.le_of_ble_eq_true rfl)⟩ (Nat.le_of_ble_eq_true rfl) (Nat.le_of_ble_eq_true rfl) ⟨hz, rfl, rfl⟩
set_option maxHeartbeats 4000000 in
set_option maxRecDepth 100000 in
theorem c_X5_checkRange (cA : Nat → ClassId) {M : hm_M} (v lo hi : Int32) : hm_XMet cA yX5_checkRange cX5_checkRange 3 none r_X5_checkRange [.int v, .int lo, .int hi] M (fun v' M' => sp_in v lo hi = true ∧ v' = none ∧ M = M') (fun E M' => sp_in v lo hi = false ∧ E = "java/lang/IllegalArgumentException" ∧ M = M') := by
  refine hm_xmet 0 (by decide +kernel) (fun w h => by simp only [List.mem_cons, List.not_mem_nil, or_false] at h; rcases h with rfl | rfl | rfl <;> rfl) rfl (fun C X XE => ?_)
  show hm_W C 0 0 _ M 0 [some (.int v), some (.int lo), some (.int hi)] []
  refine hr_iload_n X dX5_checkRange_0 rfl ?_
  refine hr_iload_n X dX5_checkRange_1 rfl ?_
  refine hr_icmp_lt 10 X dX5_checkRange_2 (by decide) (fun c2 => ?_) (fun c2 => ?_)
  · have hz : sp_in v lo hi = false := sb_inF (Or.inl c2)
    exact hr_throwW X XE kT5_277_279_281 dX5_checkRange_10 dX5_checkRange_13 dX5_checkRange_14 dX5_checkRange_17 dX5_checkRange_20 rfl ⟨(Nat.le_of_ble_eq_true rfl), (Nat.le_of_ble_eq_true rfl), (Nat.le_of_ble_eq_true rfl), (Nat.le_of_ble_eq_true rfl)⟩ (Nat.le_of_ble_eq_true rfl) (Nat.le_of_ble_eq_true rfl) ⟨hz, rfl, rfl⟩
  · refine hr_iload_n X dX5_checkRange_5 rfl ?_
    refine hr_iload_n X dX5_checkRange_6 rfl ?_
    refine hr_icmp_le 21 X dX5_checkRange_7 (by decide) (fun c7 => ?_) (fun c7 => ?_)
    · have hz : sp_in v lo hi = true := sp_in_t c2 (Int32.not_lt.mpr c7)
      exact hr_vretX X dX5_checkRange_21 (Nat.le_of_ble_eq_true rfl) (Nat.le_of_ble_eq_true rfl) ⟨hz, rfl, rfl⟩
    · have hz : sp_in v lo hi = false := sb_inF (Or.inr (Int32.not_le.mp c7))
      exact hr_throwW X XE kT5_277_279_281 dX5_checkRange_10 dX5_checkRange_13 dX5_checkRange_14 dX5_checkRange_17 dX5_checkRange_20 rfl ⟨(Nat.le_of_ble_eq_true rfl), (Nat.le_of_ble_eq_true rfl), (Nat.le_of_ble_eq_true rfl), (Nat.le_of_ble_eq_true rfl)⟩ (Nat.le_of_ble_eq_true rfl) (Nat.le_of_ble_eq_true rfl) ⟨hz, rfl, rfl⟩
set_option maxHeartbeats 4000000 in
set_option maxRecDepth 100000 in
theorem c_X5_checkNumberRule (cA : Nat → ClassId) {M : hm_M} (value slack : Int32) : hm_XMet cA yX5_checkNumberRule cX5_checkNumberRule 2 none r_X5_checkNumberRule [.int value, .int slack] M (fun v' M' => (sp_in value (-1000) 1000 && sp_in slack 0 100) = true ∧ v' = none ∧ M = M') (fun E M' => (sp_in value (-1000) 1000 && sp_in slack 0 100) = false ∧ E = "java/lang/IllegalArgumentException" ∧ M = M') := by
  refine hm_xmet 0 (by decide +kernel) (fun w h => by simp only [List.mem_cons, List.not_mem_nil, or_false] at h; rcases h with rfl | rfl <;> rfl) rfl (fun C X XE => ?_)
  show hm_W C 0 0 _ M 0 [some (.int value), some (.int slack)] []
  refine hr_iload_n X dX5_checkNumberRule_0 rfl ?_
  refine hr_sipush (-1000) X dX5_checkNumberRule_1 (by decide) ?_
  refine hr_sipush (1000) X dX5_checkNumberRule_4 (by decide) ?_
  refine hr_callSX X XE kC5_56 dX5_checkNumberRule_7 (c_X5_checkRange cA (M := M) value (-1000) 1000) rfl rfl rfl (Nat.le_of_ble_eq_true rfl) ⟨⟨(Nat.le_of_ble_eq_true rfl), (Nat.le_of_ble_eq_true rfl)⟩, (Nat.le_of_ble_eq_true rfl), (Nat.le_of_ble_eq_true rfl)⟩ (Nat.le_of_ble_eq_true rfl) (Nat.le_of_ble_eq_true rfl) (fun _ _ h => ⟨sb_andF1 h.1, h.2⟩) (fun v M7 hp7 => ?_)
  obtain ⟨h7, rfl, rfl⟩ := hp7
  refine hr_iload_n X dX5_checkNumberRule_10 rfl ?_
  refine hr_iconst (0) X dX5_checkNumberRule_11 (by decide) ?_
  refine hr_bipush (100) X dX5_checkNumberRule_12 (by decide) ?_
  refine hr_callSX X XE kC5_56 dX5_checkNumberRule_14 (c_X5_checkRange cA (M := M) slack 0 100) rfl rfl rfl (Nat.le_of_ble_eq_true rfl) ⟨⟨(Nat.le_of_ble_eq_true rfl), (Nat.le_of_ble_eq_true rfl)⟩, (Nat.le_of_ble_eq_true rfl), (Nat.le_of_ble_eq_true rfl)⟩ (Nat.le_of_ble_eq_true rfl) (Nat.le_of_ble_eq_true rfl) (fun _ _ h => ⟨sb_andF2 h.1, h.2⟩) (fun v M14 hp14 => ?_)
  obtain ⟨h14, rfl, rfl⟩ := hp14
  exact hr_vretX X dX5_checkNumberRule_17 (Nat.le_of_ble_eq_true rfl) (Nat.le_of_ble_eq_true rfl) ⟨sb_andT h7 h14, rfl, rfl⟩
set_option maxHeartbeats 4000000 in
set_option maxRecDepth 100000 in
theorem c_X5_checkSaid (cA : Nat → ClassId) {M : hm_M} (kind said : Int32) : hm_XMet cA yX5_checkSaid cX5_checkSaid 2 none r_X5_checkSaid [.int kind, .int said] M (fun v' M' => sb_said kind said = true ∧ v' = none ∧ M = M') (fun E M' => sb_said kind said = false ∧ E = "java/lang/IllegalArgumentException" ∧ M = M') := by
  refine hm_xmet 0 (by decide +kernel) (fun w h => by simp only [List.mem_cons, List.not_mem_nil, or_false] at h; rcases h with rfl | rfl <;> rfl) rfl (fun C X XE => ?_)
  show hm_W C 0 0 _ M 0 [some (.int kind), some (.int said)] []
  refine hr_iload_n X dX5_checkSaid_0 rfl ?_
  refine hr_if_ne 17 X dX5_checkSaid_1 (by decide) (fun c1 => ?_) (fun c1 => ?_)
  · refine hr_iload_n X dX5_checkSaid_17 rfl ?_
    refine hr_iconst (1) X dX5_checkSaid_18 (by decide) ?_
    refine hr_icmp_ne 31 X dX5_checkSaid_19 (by decide) (fun c19 => ?_) (fun c19 => ?_)
    · have e1 : sb_said kind said = sp_in said 1 31 := (if_neg c1).trans (if_neg c19)
      refine hr_iload_n X dX5_checkSaid_31 rfl ?_
      refine hr_iconst (1) X dX5_checkSaid_32 (by decide) ?_
      refine hr_bipush (31) X dX5_checkSaid_33 (by decide) ?_
      refine hr_callSX X XE kC5_56 dX5_checkSaid_35 (c_X5_checkRange cA (M := M) said 1 31) rfl rfl rfl (Nat.le_of_ble_eq_true rfl) ⟨⟨(Nat.le_of_ble_eq_true rfl), (Nat.le_of_ble_eq_true rfl)⟩, (Nat.le_of_ble_eq_true rfl), (Nat.le_of_ble_eq_true rfl)⟩ (Nat.le_of_ble_eq_true rfl) (Nat.le_of_ble_eq_true rfl) (fun _ _ h => ⟨e1.trans h.1, h.2⟩) (fun v M35 hp35 => ?_)
      obtain ⟨hs, rfl, rfl⟩ := hp35
      have hz := e1.trans hs
      exact hr_vretX X dX5_checkSaid_38 (Nat.le_of_ble_eq_true rfl) (Nat.le_of_ble_eq_true rfl) ⟨hz, rfl, rfl⟩
    · have e1 : sb_said kind said = sp_in said 0 4 := (if_neg c1).trans (if_pos c19)
      refine hr_iload_n X dX5_checkSaid_22 rfl ?_
      refine hr_iconst (0) X dX5_checkSaid_23 (by decide) ?_
      refine hr_iconst (4) X dX5_checkSaid_24 (by decide) ?_
      refine hr_callSX X XE kC5_56 dX5_checkSaid_25 (c_X5_checkRange cA (M := M) said 0 4) rfl rfl rfl (Nat.le_of_ble_eq_true rfl) ⟨⟨(Nat.le_of_ble_eq_true rfl), (Nat.le_of_ble_eq_true rfl)⟩, (Nat.le_of_ble_eq_true rfl), (Nat.le_of_ble_eq_true rfl)⟩ (Nat.le_of_ble_eq_true rfl) (Nat.le_of_ble_eq_true rfl) (fun _ _ h => ⟨e1.trans h.1, h.2⟩) (fun v M25 hp25 => ?_)
      obtain ⟨hs, rfl, rfl⟩ := hp25
      have hz := e1.trans hs
      refine hr_goto 38 X dX5_checkSaid_28 (by decide) ?_
      exact hr_vretX X dX5_checkSaid_38 (Nat.le_of_ble_eq_true rfl) (Nat.le_of_ble_eq_true rfl) ⟨hz, rfl, rfl⟩
  · have e1 : sb_said kind said = sp_in said (-1000) 1000 := if_pos c1
    refine hr_iload_n X dX5_checkSaid_4 rfl ?_
    refine hr_sipush (-1000) X dX5_checkSaid_5 (by decide) ?_
    refine hr_sipush (1000) X dX5_checkSaid_8 (by decide) ?_
    refine hr_callSX X XE kC5_56 dX5_checkSaid_11 (c_X5_checkRange cA (M := M) said (-1000) 1000) rfl rfl rfl (Nat.le_of_ble_eq_true rfl) ⟨⟨(Nat.le_of_ble_eq_true rfl), (Nat.le_of_ble_eq_true rfl)⟩, (Nat.le_of_ble_eq_true rfl), (Nat.le_of_ble_eq_true rfl)⟩ (Nat.le_of_ble_eq_true rfl) (Nat.le_of_ble_eq_true rfl) (fun _ _ h => ⟨e1.trans h.1, h.2⟩) (fun v M11 hp11 => ?_)
    obtain ⟨hs, rfl, rfl⟩ := hp11
    have hz := e1.trans hs
    refine hr_goto 38 X dX5_checkSaid_14 (by decide) ?_
    exact hr_vretX X dX5_checkSaid_38 (Nat.le_of_ble_eq_true rfl) (Nat.le_of_ble_eq_true rfl) ⟨hz, rfl, rfl⟩
set_option maxHeartbeats 4000000 in
set_option maxRecDepth 100000 in
theorem c_X5_checkWordsRule (cA : Nat → ClassId) {M : hm_M} (row : Int32) : hm_XMet cA yX5_checkWordsRule cX5_checkWordsRule 2 none r_X5_checkWordsRule [.int row] M (fun v' M' => sp_row row = true ∧ v' = none ∧ M = M') (fun E M' => sp_row row = false ∧ E = "java/lang/IllegalArgumentException" ∧ M = M') := by
  refine hm_xmet 1 (by decide +kernel) (fun w h => by simp only [List.mem_cons, List.not_mem_nil, or_false] at h; rcases h with rfl <;> rfl) rfl (fun C X XE => ?_)
  show hm_W C 0 0 _ M 0 [some (.int row), none] []
  refine hr_iload_n X dX5_checkWordsRule_0 rfl ?_
  refine hr_callS X kC5_282 dX5_checkWordsRule_1 (c_X5_rowLength cA (M := M) row) rfl rfl rfl (Nat.le_of_ble_eq_true rfl) ⟨⟨(Nat.le_of_ble_eq_true rfl), (Nat.le_of_ble_eq_true rfl)⟩, (Nat.le_of_ble_eq_true rfl), (Nat.le_of_ble_eq_true rfl)⟩ (fun v M1 hp => ?_)
  obtain ⟨rfl, rfl⟩ := hp
  refine hr_istore_n X dX5_checkWordsRule_4 (Nat.le_of_ble_eq_true rfl) ?_
  refine hr_iload_n X dX5_checkWordsRule_5 rfl ?_
  refine hr_if_eq 17 X dX5_checkWordsRule_6 (by decide) (fun c6 => ?_) (fun c6 => ?_)
  · have hz : sp_row row = false := Bool.eq_false_iff.mpr (fun q => ((sb_row row).mp q).1 c6)
    exact hr_throwW X XE kT5_277_285_281 dX5_checkWordsRule_17 dX5_checkWordsRule_20 dX5_checkWordsRule_21 dX5_checkWordsRule_24 dX5_checkWordsRule_27 rfl ⟨(Nat.le_of_ble_eq_true rfl), (Nat.le_of_ble_eq_true rfl), (Nat.le_of_ble_eq_true rfl), (Nat.le_of_ble_eq_true rfl)⟩ (Nat.le_of_ble_eq_true rfl) (Nat.le_of_ble_eq_true rfl) ⟨hz, rfl, rfl⟩
  · refine hr_iload_n X dX5_checkWordsRule_9 rfl ?_
    refine hr_iload_n X dX5_checkWordsRule_10 rfl ?_
    refine hr_iconst (5) X dX5_checkWordsRule_11 (by decide) ?_
    refine hr_imul X dX5_checkWordsRule_12 ?_
    refine hr_iushr X dX5_checkWordsRule_13 ?_
    refine hr_if_eq 28 X dX5_checkWordsRule_14 (by decide) (fun c14 => ?_) (fun c14 => ?_)
    · have hz : sp_row row = true := (sb_rowU row).mpr ⟨c6, c14⟩
      exact hr_vretX X dX5_checkWordsRule_28 (Nat.le_of_ble_eq_true rfl) (Nat.le_of_ble_eq_true rfl) ⟨hz, rfl, rfl⟩
    · have hz : sp_row row = false := Bool.eq_false_iff.mpr (fun q => c14 ((sb_rowU row).mp q).2)
      exact hr_throwW X XE kT5_277_285_281 dX5_checkWordsRule_17 dX5_checkWordsRule_20 dX5_checkWordsRule_21 dX5_checkWordsRule_24 dX5_checkWordsRule_27 rfl ⟨(Nat.le_of_ble_eq_true rfl), (Nat.le_of_ble_eq_true rfl), (Nat.le_of_ble_eq_true rfl), (Nat.le_of_ble_eq_true rfl)⟩ (Nat.le_of_ble_eq_true rfl) (Nat.le_of_ble_eq_true rfl) ⟨hz, rfl, rfl⟩
set_option maxHeartbeats 4000000 in
set_option maxRecDepth 100000 in
theorem c_X5_classOf (cA : Nat → ClassId) {M : hm_M} (p : Int32) : hm_Met cA yX5_classOf cX5_classOf 1 (some .int) r_X5_classOf [.int p] M (hm_pu (some (.int (p / 3))) M) := by
  refine hm_met 0 (by decide +kernel) (fun w h => by simp only [List.mem_cons, List.not_mem_nil, or_false] at h; rcases h with rfl <;> rfl) rfl (fun C X => ?_)
  show hm_W C 0 0 _ M 0 [some (.int p)] []
  refine hr_iload_n X dX5_classOf_0 rfl ?_
  refine hr_iconst (3) X dX5_classOf_1 (by decide) ?_
  refine hr_idiv X dX5_classOf_2 (by decide) ?_
  exact hr_iret X dX5_classOf_3 (Nat.le_of_ble_eq_true rfl) (Nat.le_of_ble_eq_true rfl) ⟨rfl, rfl⟩
set_option maxHeartbeats 4000000 in
set_option maxRecDepth 100000 in
theorem c_X5_isClass (cA : Nat → ClassId) {M : hm_M} (v : Int32) : hm_Met cA yX5_isClass cX5_isClass 1 (some .boolean) r_X5_isClass [.int v] M (hm_pu (some (.int (hm_bI (sp_in v 0 3)))) M) := by
  refine hm_met 0 (by decide +kernel) (fun w h => by simp only [List.mem_cons, List.not_mem_nil, or_false] at h; rcases h with rfl <;> rfl) rfl (fun C X => ?_)
  show hm_W C 0 0 _ M 0 [some (.int v)] []
  refine hr_iload_n X dX5_isClass_0 rfl ?_
  refine hr_if_lt 13 X dX5_isClass_1 (by decide) (fun c1 => ?_) (fun c1 => ?_)
  · have hz : sp_in v 0 3 = false := sb_inF (Or.inl c1)
    refine hr_iconst (0) X dX5_isClass_13 (by decide) ?_
    exact hr_zret X dX5_isClass_14 (by rfl) (Nat.le_of_ble_eq_true rfl) (Nat.le_of_ble_eq_true rfl) ⟨by rw [hz]; rfl, rfl⟩
  · refine hr_iload_n X dX5_isClass_4 rfl ?_
    refine hr_iconst (4) X dX5_isClass_5 (by decide) ?_
    refine hr_icmp_ge 13 X dX5_isClass_6 (by decide) (fun c6 => ?_) (fun c6 => ?_)
    · have hz : sp_in v 0 3 = false := sb_inF (Or.inr (Classical.not_not.mp (fun q => Int32.not_lt.mpr c6 (sb_4.mpr q))))
      refine hr_iconst (0) X dX5_isClass_13 (by decide) ?_
      exact hr_zret X dX5_isClass_14 (by rfl) (Nat.le_of_ble_eq_true rfl) (Nat.le_of_ble_eq_true rfl) ⟨by rw [hz]; rfl, rfl⟩
    · have hz : sp_in v 0 3 = true := sp_in_t c1 (sb_4.mp (Int32.not_le.mp c6))
      refine hr_iconst (1) X dX5_isClass_9 (by decide) ?_
      refine hr_goto 14 X dX5_isClass_10 (by decide) ?_
      exact hr_zret X dX5_isClass_14 (by rfl) (Nat.le_of_ble_eq_true rfl) (Nat.le_of_ble_eq_true rfl) ⟨by rw [hz]; rfl, rfl⟩
set_option maxHeartbeats 4000000 in
set_option maxRecDepth 100000 in
theorem c_X5_likenessBy (cA : Nat → ClassId) {M : hm_M} (c a b : Int32) : hm_Met cA yX5_likenessBy cX5_likenessBy 4 (some .int) r_X5_likenessBy [.int c, .int a, .int b] M (hm_pu (some (.int (sb_lk c a b))) M) := by
  refine hm_met 1 (by decide +kernel) (fun w h => by simp only [List.mem_cons, List.not_mem_nil, or_false] at h; rcases h with rfl | rfl | rfl <;> rfl) rfl (fun C X => ?_)
  show hm_W C 0 0 _ M 0 [some (.int c), some (.int a), some (.int b), none] []
  refine hr_iload_n X dX5_likenessBy_0 rfl ?_
  refine hr_iload_n X dX5_likenessBy_1 rfl ?_
  refine hr_mmin X kC5_371 dX5_likenessBy_2 rfl ⟨(Nat.le_of_ble_eq_true rfl), (Nat.le_of_ble_eq_true rfl), (Nat.le_of_ble_eq_true rfl), (Nat.le_of_ble_eq_true rfl)⟩ ?_
  refine hr_istore_n X dX5_likenessBy_5 (Nat.le_of_ble_eq_true rfl) ?_
  refine hr_iload_n X dX5_likenessBy_6 rfl ?_
  refine hr_if_gt 14 X dX5_likenessBy_7 (by decide) (fun c7 => ?_) (fun c7 => ?_)
  · have hz : sb_lk c a b = 100 * c / sb_min a b := if_pos c7
    refine hr_bipush (100) X dX5_likenessBy_14 (by decide) ?_
    refine hr_iload_n X dX5_likenessBy_16 rfl ?_
    refine hr_imul X dX5_likenessBy_17 ?_
    refine hr_iload_n X dX5_likenessBy_18 rfl ?_
    refine hr_idiv X dX5_likenessBy_19 (fun q => by rw [q] at c7; exact absurd c7 (by decide)) ?_
    exact hr_iret X dX5_likenessBy_20 (Nat.le_of_ble_eq_true rfl) (Nat.le_of_ble_eq_true rfl) ⟨by rw [hz], rfl⟩
  · have hz : sb_lk c a b = 0 := if_neg c7
    refine hr_iconst (0) X dX5_likenessBy_10 (by decide) ?_
    refine hr_goto 20 X dX5_likenessBy_11 (by decide) ?_
    exact hr_iret X dX5_likenessBy_20 (Nat.le_of_ble_eq_true rfl) (Nat.le_of_ble_eq_true rfl) ⟨by rw [hz], rfl⟩
set_option maxHeartbeats 4000000 in
set_option maxRecDepth 100000 in
theorem c_X5_isPairBy (cA : Nat → ClassId) {M : hm_M} (c a b : Int32) : hm_Met cA yX5_isPairBy cX5_isPairBy 3 (some .boolean) r_X5_isPairBy [.int c, .int a, .int b] M (hm_pu (some (.int (hm_bI (sb_pp c a b)))) M) := by
  refine hm_met 0 (by decide +kernel) (fun w h => by simp only [List.mem_cons, List.not_mem_nil, or_false] at h; rcases h with rfl | rfl | rfl <;> rfl) rfl (fun C X => ?_)
  show hm_W C 0 0 _ M 0 [some (.int c), some (.int a), some (.int b)] []
  refine hr_iload_n X dX5_isPairBy_0 rfl ?_
  refine hr_iconst (2) X dX5_isPairBy_1 (by decide) ?_
  refine hr_icmp_lt 20 X dX5_isPairBy_2 (by decide) (fun c2 => ?_) (fun c2 => ?_)
  · have hz : sb_pp c a b = false := by simp [sb_pp, c2]
    refine hr_iconst (0) X dX5_isPairBy_20 (by decide) ?_
    exact hr_zret X dX5_isPairBy_21 (by rfl) (Nat.le_of_ble_eq_true rfl) (Nat.le_of_ble_eq_true rfl) ⟨by rw [hz]; rfl, rfl⟩
  · refine hr_iload_n X dX5_isPairBy_5 rfl ?_
    refine hr_iload_n X dX5_isPairBy_6 rfl ?_
    refine hr_iload_n X dX5_isPairBy_7 rfl ?_
    refine hr_callS X kC5_242 dX5_isPairBy_8 (c_X5_likenessBy cA (M := M) c a b) rfl rfl rfl (Nat.le_of_ble_eq_true rfl) ⟨⟨(Nat.le_of_ble_eq_true rfl), (Nat.le_of_ble_eq_true rfl)⟩, (Nat.le_of_ble_eq_true rfl), (Nat.le_of_ble_eq_true rfl)⟩ (fun v M8 hp => ?_)
    obtain ⟨rfl, rfl⟩ := hp
    refine hr_bipush (60) X dX5_isPairBy_11 (by decide) ?_
    refine hr_icmp_lt 20 X dX5_isPairBy_13 (by decide) (fun c13 => ?_) (fun c13 => ?_)
    · have hz : sb_pp c a b = false := by simp [sb_pp, c13]
      refine hr_iconst (0) X dX5_isPairBy_20 (by decide) ?_
      exact hr_zret X dX5_isPairBy_21 (by rfl) (Nat.le_of_ble_eq_true rfl) (Nat.le_of_ble_eq_true rfl) ⟨by rw [hz]; rfl, rfl⟩
    · have hz : sb_pp c a b = true := by simp only [sb_pp, decide_eq_false c2, decide_eq_false c13]; rfl
      refine hr_iconst (1) X dX5_isPairBy_16 (by decide) ?_
      refine hr_goto 21 X dX5_isPairBy_17 (by decide) ?_
      exact hr_zret X dX5_isPairBy_21 (by rfl) (Nat.le_of_ble_eq_true rfl) (Nat.le_of_ble_eq_true rfl) ⟨by rw [hz]; rfl, rfl⟩
set_option maxHeartbeats 4000000 in
set_option maxRecDepth 100000 in
theorem c_X2_sizeOfSigns (cA : Nat → ClassId) {M : hm_M} (s : Int32) : hm_Met cA yX2_sizeOfSigns cX2_sizeOfSigns 1 (some .int) r_X2_sizeOfSigns [.int s] M (hm_pu (some (.int (if s = 0 then 0 else 1))) M) := by
  refine hm_met 0 (by decide +kernel) (fun w h => by simp only [List.mem_cons, List.not_mem_nil, or_false] at h; rcases h with rfl <;> rfl) rfl (fun C X => ?_)
  show hm_W C 0 0 _ M 0 [some (.int s)] []
  refine hr_iload_n X dX2_sizeOfSigns_0 rfl ?_
  refine hr_if_ne 8 X dX2_sizeOfSigns_1 (by decide) (fun c1 => ?_) (fun c1 => ?_)
  · have hz : (if s = 0 then (0 : Int32) else 1) = 1 := if_neg c1
    refine hr_iconst (1) X dX2_sizeOfSigns_8 (by decide) ?_
    exact hr_iret X dX2_sizeOfSigns_9 (Nat.le_of_ble_eq_true rfl) (Nat.le_of_ble_eq_true rfl) ⟨by rw [hz], rfl⟩
  · have hz : (if s = 0 then (0 : Int32) else 1) = 0 := if_pos c1
    refine hr_iconst (0) X dX2_sizeOfSigns_4 (by decide) ?_
    refine hr_goto 9 X dX2_sizeOfSigns_5 (by decide) ?_
    exact hr_iret X dX2_sizeOfSigns_9 (Nat.le_of_ble_eq_true rfl) (Nat.le_of_ble_eq_true rfl) ⟨by rw [hz], rfl⟩
