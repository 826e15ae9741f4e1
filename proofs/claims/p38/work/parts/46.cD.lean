/-! what was said for a task; an entry: the leaf methods -/
def sb_nz (x : Int32) : Int32 := if x = 0 then 0 else 1
theorem sb_nz_0 {x : Int32} (h : x = 0) : sb_nz x = 0 := if_pos h
theorem sb_nz_1 {x : Int32} (h : ¬ x = 0) : sb_nz x = 1 := if_neg h
def sb_full (kind wc : Int32) : Bool := decide (kind = 2) && decide (12 ≤ wc)
def sb_gro (kind said sf ss : Int32) : Int32 := if kind = 0 then (if sf = 0 then 1 else 0) else if kind = 1 then sb_nz (ss ^^^ (1 <<< (said &&& 31))) - sb_nz ss else 1
def sb_sz (kd r : Int32) : Int32 := if kd = 0 then 2 else if kd = 2 then nI (sp_len r) else 1
theorem sb_zdiv (x : Int32) : (0 : Int32) / x = 0 := by
  apply Int32.toBitVec_inj.mp
  show BitVec.sdiv 0#32 x.toBitVec = 0#32
  exact BitVec.zero_sdiv
theorem sb_cho {pt rule signs d : Int32} (hr : ¬ rule = 0) (e : nI (sp_pop (nN (signs &&& rule))) - nI (sp_pop (nN (signs &&& (rule ^^^ -1)))) = d) : pt * sb_max d 0 / nI (sp_pop (nN rule)) = sp_cho pt rule signs := by
  unfold sp_cho sb_max
  rw [if_neg hr, e]
  by_cases h : 0 < d
  · rw [if_pos h, if_neg (Int32.not_lt.mpr (Int32.le_of_lt h))]
  · rw [if_neg h]
    by_cases h2 : d < 0
    · rw [if_pos h2, Int32.mul_zero, sb_zdiv]
    · rw [if_neg h2, show d = 0 from Int32.le_antisymm (Int32.not_lt.mp h) (Int32.not_lt.mp h2), Int32.mul_zero, sb_zdiv]
def sb_ear (kd pt rl sl sf sn ss common : Int32) : Int32 :=
  if kd = 0 then (if sf = 0 then 0 else if sb_abs (sn - rl) ≤ sl then pt else 0)
  else if kd = 1 then sp_cho pt rl ss
  else if nI (sp_len rl) = 0 then 0 else pt * common / nI (sp_len rl)
theorem sp_pop_ne : ∀ a, a < 64 → nI (sp_pop a) = 0 → a = 0 := by decide +kernel

set_option maxHeartbeats 4000000 in
set_option maxRecDepth 100000 in
theorem c_X2_size (cA : Nat → ClassId) {M : hm_M} {b w : Nat} {sf sn ss wc : Int32} (hS : M b = some (.inr (2, [.int sf, .int sn, .int ss, .ref w, .int wc])))  : hm_Met cA yX2_size cX2_size 1 (some .int) r_X2_size [.ref b] M (hm_pu (some (.int ((sb_nz sf + sb_nz ss) + wc))) M) := by
  refine hm_met 0 (by decide +kernel) (fun w h => by simp only [List.mem_cons, List.not_mem_nil, or_false] at h; rcases h with rfl <;> rfl) rfl (fun C X => ?_)
  show hm_W C 0 0 _ M 0 [some (.ref b)] []
  refine hr_aload_n X dX2_size_0 rfl (Or.inr ⟨_, rfl⟩) ?_
  refine hr_get X kF2_9 dX2_size_1 hS rfl ?_
  refine hr_if_eq 11 X dX2_size_4 (by decide) (fun c4 => ?_) (fun c4 => ?_)
  · have hz := sb_nz_0 c4
    refine hr_iconst (0) X dX2_size_11 (by decide) ?_
    refine hr_aload_n X dX2_size_12 rfl (Or.inr ⟨_, rfl⟩) ?_
    refine hr_get X kF2_19 dX2_size_13 hS rfl ?_
    refine hr_callS X kC2_29 dX2_size_16 (c_X2_sizeOfSigns cA (M := M) ss) rfl rfl rfl (Nat.le_of_ble_eq_true rfl) ⟨⟨(Nat.le_of_ble_eq_true rfl), (Nat.le_of_ble_eq_true rfl)⟩, (Nat.le_of_ble_eq_true rfl), (Nat.le_of_ble_eq_true rfl)⟩ (fun v M16 hp => ?_)
    obtain ⟨rfl, rfl⟩ := hp
    refine hr_iadd X dX2_size_19 ?_
    refine hr_aload_n X dX2_size_20 rfl (Or.inr ⟨_, rfl⟩) ?_
    refine hr_get X kF2_26 dX2_size_21 hS rfl ?_
    refine hr_iadd X dX2_size_24 ?_
    exact hr_iret X dX2_size_25 (Nat.le_of_ble_eq_true rfl) (Nat.le_of_ble_eq_true rfl) ⟨by rw [hz]; rfl, rfl⟩
  · have hz := sb_nz_1 c4
    refine hr_iconst (1) X dX2_size_7 (by decide) ?_
    refine hr_goto 12 X dX2_size_8 (by decide) ?_
    refine hr_aload_n X dX2_size_12 rfl (Or.inr ⟨_, rfl⟩) ?_
    refine hr_get X kF2_19 dX2_size_13 hS rfl ?_
    refine hr_callS X kC2_29 dX2_size_16 (c_X2_sizeOfSigns cA (M := M) ss) rfl rfl rfl (Nat.le_of_ble_eq_true rfl) ⟨⟨(Nat.le_of_ble_eq_true rfl), (Nat.le_of_ble_eq_true rfl)⟩, (Nat.le_of_ble_eq_true rfl), (Nat.le_of_ble_eq_true rfl)⟩ (fun v M16 hp => ?_)
    obtain ⟨rfl, rfl⟩ := hp
    refine hr_iadd X dX2_size_19 ?_
    refine hr_aload_n X dX2_size_20 rfl (Or.inr ⟨_, rfl⟩) ?_
    refine hr_get X kF2_26 dX2_size_21 hS rfl ?_
    refine hr_iadd X dX2_size_24 ?_
    exact hr_iret X dX2_size_25 (Nat.le_of_ble_eq_true rfl) (Nat.le_of_ble_eq_true rfl) ⟨by rw [hz]; rfl, rfl⟩
set_option maxHeartbeats 4000000 in
set_option maxRecDepth 100000 in
theorem c_X2_isFull (cA : Nat → ClassId) {M : hm_M} {b w : Nat} {sf sn ss wc : Int32} (hS : M b = some (.inr (2, [.int sf, .int sn, .int ss, .ref w, .int wc]))) (kind : Int32) : hm_Met cA yX2_isFull cX2_isFull 2 (some .boolean) r_X2_isFull [.ref b, .int kind] M (hm_pu (some (.int (hm_bI (sb_full kind wc)))) M) := by
  refine hm_met 0 (by decide +kernel) (fun w h => by simp only [List.mem_cons, List.not_mem_nil, or_false] at h; rcases h with rfl | rfl <;> rfl) rfl (fun C X => ?_)
  show hm_W C 0 0 _ M 0 [some (.ref b), some (.int kind)] []
  refine hr_iload_n X dX2_isFull_0 rfl ?_
  refine hr_iconst (2) X dX2_isFull_1 (by decide) ?_
  refine hr_icmp_ne 18 X dX2_isFull_2 (by decide) (fun c2 => ?_) (fun c2 => ?_)
  · have hz : sb_full kind wc = false := by simp [sb_full, c2]
    refine hr_iconst (0) X dX2_isFull_18 (by decide) ?_
    exact hr_zret X dX2_isFull_19 (by rfl) (Nat.le_of_ble_eq_true rfl) (Nat.le_of_ble_eq_true rfl) ⟨by rw [hz]; rfl, rfl⟩
  · refine hr_aload_n X dX2_isFull_5 rfl (Or.inr ⟨_, rfl⟩) ?_
    refine hr_get X kF2_26 dX2_isFull_6 hS rfl ?_
    refine hr_bipush (12) X dX2_isFull_9 (by decide) ?_
    refine hr_icmp_lt 18 X dX2_isFull_11 (by decide) (fun c11 => ?_) (fun c11 => ?_)
    · have hz : sb_full kind wc = false := by
        rw [sb_full, decide_eq_false (p := 12 ≤ wc) (Int32.not_le.mpr c11)]
        exact Bool.and_false _
      refine hr_iconst (0) X dX2_isFull_18 (by decide) ?_
      exact hr_zret X dX2_isFull_19 (by rfl) (Nat.le_of_ble_eq_true rfl) (Nat.le_of_ble_eq_true rfl) ⟨by rw [hz]; rfl, rfl⟩
    · have hz : sb_full kind wc = true := by
        rw [sb_full, decide_eq_true c2, decide_eq_true (Int32.not_lt.mp c11)]
        rfl
      refine hr_iconst (1) X dX2_isFull_14 (by decide) ?_
      refine hr_goto 19 X dX2_isFull_15 (by decide) ?_
      exact hr_zret X dX2_isFull_19 (by rfl) (Nat.le_of_ble_eq_true rfl) (Nat.le_of_ble_eq_true rfl) ⟨by rw [hz]; rfl, rfl⟩
set_option maxHeartbeats 4000000 in
set_option maxRecDepth 100000 in
theorem c_X2_growthBy (cA : Nat → ClassId) {M : hm_M} {b w : Nat} {sf sn ss wc : Int32} (hS : M b = some (.inr (2, [.int sf, .int sn, .int ss, .ref w, .int wc]))) (kind said : Int32) : hm_Met cA yX2_growthBy cX2_growthBy 3 (some .int) r_X2_growthBy [.ref b, .int kind, .int said] M (hm_pu (some (.int (sb_gro kind said sf ss))) M) := by
  refine hm_met 0 (by decide +kernel) (fun w h => by simp only [List.mem_cons, List.not_mem_nil, or_false] at h; rcases h with rfl | rfl | rfl <;> rfl) rfl (fun C X => ?_)
  show hm_W C 0 0 _ M 0 [some (.ref b), some (.int kind), some (.int said)] []
  refine hr_iload_n X dX2_growthBy_0 rfl ?_
  refine hr_if_ne 17 X dX2_growthBy_1 (by decide) (fun c1 => ?_) (fun c1 => ?_)
  · refine hr_iload_n X dX2_growthBy_17 rfl ?_
    refine hr_iconst (1) X dX2_growthBy_18 (by decide) ?_
    refine hr_icmp_ne 42 X dX2_growthBy_19 (by decide) (fun c19 => ?_) (fun c19 => ?_)
    · have hz : sb_gro kind said sf ss = 1 := by rw [sb_gro, if_neg c1, if_neg c19]
      refine hr_iconst (1) X dX2_growthBy_42 (by decide) ?_
      exact hr_iret X dX2_growthBy_43 (Nat.le_of_ble_eq_true rfl) (Nat.le_of_ble_eq_true rfl) ⟨by rw [hz], rfl⟩
    · have hz : sb_gro kind said sf ss = sb_nz (ss ^^^ (1 <<< (said &&& 31))) - sb_nz ss := by rw [sb_gro, if_neg c1, if_pos c19]
      refine hr_aload_n X dX2_growthBy_22 rfl (Or.inr ⟨_, rfl⟩) ?_
      refine hr_get X kF2_19 dX2_growthBy_23 hS rfl ?_
      refine hr_iconst (1) X dX2_growthBy_26 (by decide) ?_
      refine hr_iload_n X dX2_growthBy_27 rfl ?_
      refine hr_ishl X dX2_growthBy_28 ?_
      refine hr_ixor X dX2_growthBy_29 ?_
      refine hr_callS X kC2_29 dX2_growthBy_30 (c_X2_sizeOfSigns cA (M := M) (ss ^^^ (1 <<< (said &&& 31)))) rfl rfl rfl (Nat.le_of_ble_eq_true rfl) ⟨⟨(Nat.le_of_ble_eq_true rfl), (Nat.le_of_ble_eq_true rfl)⟩, (Nat.le_of_ble_eq_true rfl), (Nat.le_of_ble_eq_true rfl)⟩ (fun v M30 hp => ?_)
      obtain ⟨rfl, rfl⟩ := hp
      refine hr_aload_n X dX2_growthBy_33 rfl (Or.inr ⟨_, rfl⟩) ?_
      refine hr_get X kF2_19 dX2_growthBy_34 hS rfl ?_
      refine hr_callS X kC2_29 dX2_growthBy_37 (c_X2_sizeOfSigns cA (M := M) ss) rfl rfl rfl (Nat.le_of_ble_eq_true rfl) ⟨⟨(Nat.le_of_ble_eq_true rfl), (Nat.le_of_ble_eq_true rfl)⟩, (Nat.le_of_ble_eq_true rfl), (Nat.le_of_ble_eq_true rfl)⟩ (fun v M37 hp => ?_)
      obtain ⟨rfl, rfl⟩ := hp
      refine hr_isub X dX2_growthBy_40 ?_
      exact hr_iret X dX2_growthBy_41 (Nat.le_of_ble_eq_true rfl) (Nat.le_of_ble_eq_true rfl) ⟨by rw [hz]; rfl, rfl⟩
  · refine hr_aload_n X dX2_growthBy_4 rfl (Or.inr ⟨_, rfl⟩) ?_
    refine hr_get X kF2_9 dX2_growthBy_5 hS rfl ?_
    refine hr_if_eq 15 X dX2_growthBy_8 (by decide) (fun c8 => ?_) (fun c8 => ?_)
    · have hz : sb_gro kind said sf ss = 1 := by rw [sb_gro, if_pos c1, if_pos c8]
      refine hr_iconst (1) X dX2_growthBy_15 (by decide) ?_
      exact hr_iret X dX2_growthBy_16 (Nat.le_of_ble_eq_true rfl) (Nat.le_of_ble_eq_true rfl) ⟨by rw [hz], rfl⟩
    · have hz : sb_gro kind said sf ss = 0 := by rw [sb_gro, if_pos c1, if_neg c8]
      refine hr_iconst (0) X dX2_growthBy_11 (by decide) ?_
      refine hr_goto 16 X dX2_growthBy_12 (by decide) ?_
      exact hr_iret X dX2_growthBy_16 (Nat.le_of_ble_eq_true rfl) (Nat.le_of_ble_eq_true rfl) ⟨by rw [hz], rfl⟩
set_option maxHeartbeats 4000000 in
set_option maxRecDepth 100000 in
theorem c_X2_printAt (cA : Nat → ClassId) {M : hm_M} {b w : Nat} {sf sn ss wc : Int32} (hS : M b = some (.inr (2, [.int sf, .int sn, .int ss, .ref w, .int wc]))) {f : Nat → Int32} (hW : M w = some (.inl (cA 0, 12, .inl f))) (i : Nat) (hi : i + 2 < 12) : hm_Met cA yX2_printAt cX2_printAt 2 (some .int) r_X2_printAt [.ref b, .int (nI i)] M (hm_pu (some (.int (sp_pr (f i) (f (i + 1)) (f (i + 2))))) M) := by
  refine hm_met 0 (by decide +kernel) (fun w h => by simp only [List.mem_cons, List.not_mem_nil, or_false] at h; rcases h with rfl | rfl <;> rfl) rfl (fun C X => ?_)
  show hm_W C 0 0 _ M 0 [some (.ref b), some (.int (nI i))] []
  refine hr_aload_n X dX2_printAt_0 rfl (Or.inr ⟨_, rfl⟩) ?_
  refine hr_get X kF2_22 dX2_printAt_1 hS rfl ?_
  refine hr_iload_n X dX2_printAt_4 rfl ?_
  refine hr_iald X dX2_printAt_5 hW (mm_in rfl (by omega) (by decide)).1 ?_
  rw [nI_clamp (by omega)]
  refine hr_aload_n X dX2_printAt_6 rfl (Or.inr ⟨_, rfl⟩) ?_
  refine hr_get X kF2_22 dX2_printAt_7 hS rfl ?_
  refine hr_iload_n X dX2_printAt_10 rfl ?_
  refine hr_iconst (1) X dX2_printAt_11 (by decide) ?_
  refine hr_iadd X dX2_printAt_12 ?_
  rw [mm_a1]
  refine hr_iald X dX2_printAt_13 hW (mm_in rfl (by omega) (by decide)).1 ?_
  rw [nI_clamp (by omega)]
  refine hr_aload_n X dX2_printAt_14 rfl (Or.inr ⟨_, rfl⟩) ?_
  refine hr_get X kF2_22 dX2_printAt_15 hS rfl ?_
  refine hr_iload_n X dX2_printAt_18 rfl ?_
  refine hr_iconst (2) X dX2_printAt_19 (by decide) ?_
  refine hr_iadd X dX2_printAt_20 ?_
  rw [mm_a2]
  refine hr_iald X dX2_printAt_21 hW (mm_in rfl (by omega) (by decide)).1 ?_
  rw [nI_clamp (by omega)]
  refine hr_callSN X kC2_33 dX2_printAt_22 (c_X5_printOf cA (M := M) (f i) (f (i + 1)) (f (i + 2))) rfl rfl rfl (Nat.le_of_ble_eq_true rfl) ⟨⟨(Nat.le_of_ble_eq_true rfl), (Nat.le_of_ble_eq_true rfl)⟩, (Nat.le_of_ble_eq_true rfl), (Nat.le_of_ble_eq_true rfl)⟩ (fun v M22 hp => ?_)
  obtain ⟨rfl, rfl⟩ := hp
  exact hr_iret X dX2_printAt_25 (Nat.le_of_ble_eq_true rfl) (Nat.le_of_ble_eq_true rfl) ⟨rfl, rfl⟩
set_option maxHeartbeats 4000000 in
set_option maxRecDepth 100000 in
theorem c_X1_sizeWith (cA : Nat → ClassId) {M : hm_M} {e : Nat} {kd pt rl sl : Int32} (hE : M e = some (.inr (1, [.int kd, .int pt, .int rl, .int sl]))) (r : Int32) : hm_Met cA yX1_sizeWith cX1_sizeWith 2 (some .int) r_X1_sizeWith [.ref e, .int r] M (hm_pu (some (.int (sb_sz kd r))) M) := by
  refine hm_met 0 (by decide +kernel) (fun w h => by simp only [List.mem_cons, List.not_mem_nil, or_false] at h; rcases h with rfl | rfl <;> rfl) rfl (fun C X => ?_)
  show hm_W C 0 0 _ M 0 [some (.ref e), some (.int r)] []
  refine hr_aload_n X dX1_sizeWith_0 rfl (Or.inr ⟨_, rfl⟩) ?_
  refine hr_get X kF1_9 dX1_sizeWith_1 hE rfl ?_
  refine hr_if_ne 9 X dX1_sizeWith_4 (by decide) (fun c4 => ?_) (fun c4 => ?_)
  · refine hr_aload_n X dX1_sizeWith_9 rfl (Or.inr ⟨_, rfl⟩) ?_
    refine hr_get X kF1_9 dX1_sizeWith_10 hE rfl ?_
    refine hr_iconst (2) X dX1_sizeWith_13 (by decide) ?_
    refine hr_icmp_ne 24 X dX1_sizeWith_14 (by decide) (fun c14 => ?_) (fun c14 => ?_)
    · have hz : sb_sz kd r = 1 := by rw [sb_sz, if_neg c4, if_neg c14]
      refine hr_iconst (1) X dX1_sizeWith_24 (by decide) ?_
      exact hr_iret X dX1_sizeWith_25 (Nat.le_of_ble_eq_true rfl) (Nat.le_of_ble_eq_true rfl) ⟨by rw [hz], rfl⟩
    · have hz : sb_sz kd r = nI (sp_len r) := by rw [sb_sz, if_neg c4, if_pos c14]
      refine hr_iload_n X dX1_sizeWith_17 rfl ?_
      refine hr_callSN X kC1_28 dX1_sizeWith_18 (c_X5_rowLength cA (M := M) r) rfl rfl rfl (Nat.le_of_ble_eq_true rfl) ⟨⟨(Nat.le_of_ble_eq_true rfl), (Nat.le_of_ble_eq_true rfl)⟩, (Nat.le_of_ble_eq_true rfl), (Nat.le_of_ble_eq_true rfl)⟩ (fun v M18 hp => ?_)
      obtain ⟨rfl, rfl⟩ := hp
      refine hr_goto 25 X dX1_sizeWith_21 (by decide) ?_
      exact hr_iret X dX1_sizeWith_25 (Nat.le_of_ble_eq_true rfl) (Nat.le_of_ble_eq_true rfl) ⟨by rw [hz], rfl⟩
  · have hz : sb_sz kd r = 2 := if_pos c4
    refine hr_iconst (2) X dX1_sizeWith_7 (by decide) ?_
    exact hr_iret X dX1_sizeWith_8 (Nat.le_of_ble_eq_true rfl) (Nat.le_of_ble_eq_true rfl) ⟨by rw [hz], rfl⟩
set_option maxHeartbeats 4000000 in
set_option maxRecDepth 100000 in
theorem c_X1_size (cA : Nat → ClassId) {M : hm_M} {e : Nat} {kd pt rl sl : Int32} (hE : M e = some (.inr (1, [.int kd, .int pt, .int rl, .int sl])))  : hm_Met cA yX1_size cX1_size 1 (some .int) r_X1_size [.ref e] M (hm_pu (some (.int (sb_sz kd rl))) M) := by
  refine hm_met 0 (by decide +kernel) (fun w h => by simp only [List.mem_cons, List.not_mem_nil, or_false] at h; rcases h with rfl <;> rfl) rfl (fun C X => ?_)
  show hm_W C 0 0 _ M 0 [some (.ref e)] []
  refine hr_aload_n X dX1_size_0 rfl (Or.inr ⟨_, rfl⟩) ?_
  refine hr_aload_n X dX1_size_1 rfl (Or.inr ⟨_, rfl⟩) ?_
  refine hr_get X kF1_18 dX1_size_2 hE rfl ?_
  refine hr_callV X kC1_24 dX1_size_5 (c_X1_sizeWith cA (M := M) hE rl) hE rfl rfl rfl rfl (Nat.le_of_ble_eq_true rfl) ⟨⟨(Nat.le_of_ble_eq_true rfl), (Nat.le_of_ble_eq_true rfl)⟩, (Nat.le_of_ble_eq_true rfl), (Nat.le_of_ble_eq_true rfl)⟩ (fun v M5 hp => ?_)
  obtain ⟨rfl, rfl⟩ := hp
  exact hr_iret X dX1_size_8 (Nat.le_of_ble_eq_true rfl) (Nat.le_of_ble_eq_true rfl) ⟨rfl, rfl⟩
set_option maxHeartbeats 4000000 in
set_option maxRecDepth 100000 in
theorem c_X1_earnedByChoice (cA : Nat → ClassId) {M : hm_M} {e : Nat} {kd pt sl : Int32} {r : Nat} (hr : r < 32) (hE : M e = some (.inr (1, [.int kd, .int pt, .int (nI r), .int sl]))) (s : Nat) (hs : s < 32) : hm_Met cA yX1_earnedByChoice cX1_earnedByChoice 5 (some .int) r_X1_earnedByChoice [.ref e, .int (nI s)] M (hm_pu (some (.int (sp_cho pt (nI r) (nI s)))) M) := by
  refine hm_met 3 (by decide +kernel) (fun w h => by simp only [List.mem_cons, List.not_mem_nil, or_false] at h; rcases h with rfl | rfl <;> rfl) rfl (fun C X => ?_)
  show hm_W C 0 0 _ M 0 [some (.ref e), some (.int (nI s)), none, none, none] []
  obtain ⟨a1, a2, a3, a4⟩ := sp_and32 s hs r hr
  refine hr_aload_n X dX1_earnedByChoice_0 rfl (Or.inr ⟨_, rfl⟩) ?_
  refine hr_get X kF1_18 dX1_earnedByChoice_1 hE rfl ?_
  refine hr_callS X kC1_51 dX1_earnedByChoice_4 (c_J6_bitCount_0f7a4 cA (M := M) r (by omega)) rfl rfl rfl (Nat.le_of_ble_eq_true rfl) ⟨⟨(Nat.le_of_ble_eq_true rfl), (Nat.le_of_ble_eq_true rfl)⟩, (Nat.le_of_ble_eq_true rfl), (Nat.le_of_ble_eq_true rfl)⟩ (fun v M4 hp => ?_)
  obtain ⟨rfl, rfl⟩ := hp
  refine hr_istore_n X dX1_earnedByChoice_7 (Nat.le_of_ble_eq_true rfl) ?_
  refine hr_iload_n X dX1_earnedByChoice_8 rfl ?_
  refine hr_if_ne 25 X dX1_earnedByChoice_9 (by decide) (fun c9 => ?_) (fun c9 => ?_)
  · have hr0 : ¬ nI r = 0 := fun q => c9 (by rw [show r = 0 from (nI_eq (by omega) (by decide)).mp q]; rfl)
    refine hr_iload_n X dX1_earnedByChoice_25 rfl ?_
    refine hr_aload_n X dX1_earnedByChoice_26 rfl (Or.inr ⟨_, rfl⟩) ?_
    refine hr_get X kF1_18 dX1_earnedByChoice_27 hE rfl ?_
    refine hr_iand X dX1_earnedByChoice_30 ?_
    rw [a1]
    refine hr_callS X kC1_51 dX1_earnedByChoice_31 (c_J6_bitCount_0f7a4 cA (M := M) (s &&& r) a3) rfl rfl rfl (Nat.le_of_ble_eq_true rfl) ⟨⟨(Nat.le_of_ble_eq_true rfl), (Nat.le_of_ble_eq_true rfl)⟩, (Nat.le_of_ble_eq_true rfl), (Nat.le_of_ble_eq_true rfl)⟩ (fun v M31 hp => ?_)
    obtain ⟨rfl, rfl⟩ := hp
    refine hr_istore_n X dX1_earnedByChoice_34 (Nat.le_of_ble_eq_true rfl) ?_
    refine hr_iload_n X dX1_earnedByChoice_35 rfl ?_
    refine hr_aload_n X dX1_earnedByChoice_36 rfl (Or.inr ⟨_, rfl⟩) ?_
    refine hr_get X kF1_18 dX1_earnedByChoice_37 hE rfl ?_
    refine hr_iconst (-1) X dX1_earnedByChoice_40 (by decide) ?_
    refine hr_ixor X dX1_earnedByChoice_41 ?_
    refine hr_iand X dX1_earnedByChoice_42 ?_
    rw [a2]
    refine hr_callS X kC1_51 dX1_earnedByChoice_43 (c_J6_bitCount_0f7a4 cA (M := M) (s - (s &&& r)) a4) rfl rfl rfl (Nat.le_of_ble_eq_true rfl) ⟨⟨(Nat.le_of_ble_eq_true rfl), (Nat.le_of_ble_eq_true rfl)⟩, (Nat.le_of_ble_eq_true rfl), (Nat.le_of_ble_eq_true rfl)⟩ (fun v M43 hp => ?_)
    obtain ⟨rfl, rfl⟩ := hp
    refine hr_istore X dX1_earnedByChoice_46 (Nat.le_of_ble_eq_true rfl) ?_
    refine hr_aload_n X dX1_earnedByChoice_48 rfl (Or.inr ⟨_, rfl⟩) ?_
    refine hr_get X kF1_15 dX1_earnedByChoice_49 hE rfl ?_
    refine hr_iload_n X dX1_earnedByChoice_52 rfl ?_
    refine hr_iload X dX1_earnedByChoice_53 rfl ?_
    refine hr_isub X dX1_earnedByChoice_55 ?_
    refine hr_iconst (0) X dX1_earnedByChoice_56 (by decide) ?_
    refine hr_mmax X kC1_56 dX1_earnedByChoice_57 rfl ⟨(Nat.le_of_ble_eq_true rfl), (Nat.le_of_ble_eq_true rfl), (Nat.le_of_ble_eq_true rfl), (Nat.le_of_ble_eq_true rfl)⟩ ?_
    refine hr_imul X dX1_earnedByChoice_60 ?_
    refine hr_iload_n X dX1_earnedByChoice_61 rfl ?_
    refine hr_idiv X dX1_earnedByChoice_62 (fun q => c9 q) ?_
    exact hr_iret X dX1_earnedByChoice_63 (Nat.le_of_ble_eq_true rfl) (Nat.le_of_ble_eq_true rfl) ⟨congrArg (fun z => some (Value.int z)) (by
        have h := sb_cho (pt := pt) hr0 (signs := nI s) (d := nI (sp_pop (s &&& r)) - nI (sp_pop (s - (s &&& r)))) (by rw [a1, a2, show nN (nI (s &&& r)) = s &&& r from nI_clamp (by omega), show nN (nI (s - (s &&& r))) = s - (s &&& r) from nI_clamp (by omega)])
        rw [show nN (nI r) = r from nI_clamp (by omega)] at h
        exact h), rfl⟩
  · have hr0 : nI r = 0 := by rw [sp_pop_ne r (by omega) c9]; rfl
    refine hr_iload_n X dX1_earnedByChoice_12 rfl ?_
    refine hr_if_ne 23 X dX1_earnedByChoice_13 (by decide) (fun c13 => ?_) (fun c13 => ?_)
    · have hz : sp_cho pt (nI r) (nI s) = 0 := by rw [sp_cho, if_pos hr0, if_neg c13]
      refine hr_iconst (0) X dX1_earnedByChoice_23 (by decide) ?_
      exact hr_iret X dX1_earnedByChoice_24 (Nat.le_of_ble_eq_true rfl) (Nat.le_of_ble_eq_true rfl) ⟨by rw [hz], rfl⟩
    · have hz : sp_cho pt (nI r) (nI s) = pt := by rw [sp_cho, if_pos hr0, if_pos c13]
      refine hr_aload_n X dX1_earnedByChoice_16 rfl (Or.inr ⟨_, rfl⟩) ?_
      refine hr_get X kF1_15 dX1_earnedByChoice_17 hE rfl ?_
      refine hr_goto 24 X dX1_earnedByChoice_20 (by decide) ?_
      exact hr_iret X dX1_earnedByChoice_24 (Nat.le_of_ble_eq_true rfl) (Nat.le_of_ble_eq_true rfl) ⟨by rw [hz], rfl⟩
set_option maxHeartbeats 4000000 in
set_option maxRecDepth 100000 in
theorem c_X1_earned (cA : Nat → ClassId) {M : hm_M} {e : Nat} {kd pt rl sl : Int32} (hE : M e = some (.inr (1, [.int kd, .int pt, .int rl, .int sl]))) {b w : Nat} {sf sn ss wc : Int32} (hS : M b = some (.inr (2, [.int sf, .int sn, .int ss, .ref w, .int wc]))) (common : Int32) (hb : kd = 1 → ∃ r s, r < 32 ∧ s < 32 ∧ rl = nI r ∧ ss = nI s) : hm_Met cA yX1_earned cX1_earned 4 (some .int) r_X1_earned [.ref e, .ref b, .int common] M (hm_pu (some (.int (sb_ear kd pt rl sl sf sn ss common))) M) := by
  refine hm_met 1 (by decide +kernel) (fun w h => by simp only [List.mem_cons, List.not_mem_nil, or_false] at h; rcases h with rfl | rfl | rfl <;> rfl) rfl (fun C X => ?_)
  show hm_W C 0 0 _ M 0 [some (.ref e), some (.ref b), some (.int common), none] []
  refine hr_aload_n X dX1_earned_0 rfl (Or.inr ⟨_, rfl⟩) ?_
  refine hr_get X kF1_9 dX1_earned_1 hE rfl ?_
  refine hr_if_ne 42 X dX1_earned_4 (by decide) (fun c4 => ?_) (fun c4 => ?_)
  · refine hr_aload_n X dX1_earned_42 rfl (Or.inr ⟨_, rfl⟩) ?_
    refine hr_get X kF1_9 dX1_earned_43 hE rfl ?_
    refine hr_iconst (1) X dX1_earned_46 (by decide) ?_
    refine hr_icmp_ne 59 X dX1_earned_47 (by decide) (fun c47 => ?_) (fun c47 => ?_)
    · refine hr_aload_n X dX1_earned_59 rfl (Or.inr ⟨_, rfl⟩) ?_
      refine hr_get X kF1_18 dX1_earned_60 hE rfl ?_
      refine hr_callSN X kC1_28 dX1_earned_63 (c_X5_rowLength cA (M := M) rl) rfl rfl rfl (Nat.le_of_ble_eq_true rfl) ⟨⟨(Nat.le_of_ble_eq_true rfl), (Nat.le_of_ble_eq_true rfl)⟩, (Nat.le_of_ble_eq_true rfl), (Nat.le_of_ble_eq_true rfl)⟩ (fun v M63 hp => ?_)
      obtain ⟨rfl, rfl⟩ := hp
      refine hr_istore_n X dX1_earned_66 (Nat.le_of_ble_eq_true rfl) ?_
      refine hr_iload_n X dX1_earned_67 rfl ?_
      refine hr_if_ne 75 X dX1_earned_68 (by decide) (fun c68 => ?_) (fun c68 => ?_)
      · have hz : sb_ear kd pt rl sl sf sn ss common = pt * common / nI (sp_len rl) := by rw [sb_ear, if_neg c4, if_neg c47, if_neg c68]
        refine hr_aload_n X dX1_earned_75 rfl (Or.inr ⟨_, rfl⟩) ?_
        refine hr_get X kF1_15 dX1_earned_76 hE rfl ?_
        refine hr_iload_n X dX1_earned_79 rfl ?_
        refine hr_imul X dX1_earned_80 ?_
        refine hr_iload_n X dX1_earned_81 rfl ?_
        refine hr_idiv X dX1_earned_82 c68 ?_
        exact hr_iret X dX1_earned_83 (Nat.le_of_ble_eq_true rfl) (Nat.le_of_ble_eq_true rfl) ⟨by rw [hz], rfl⟩
      · have hz : sb_ear kd pt rl sl sf sn ss common = 0 := by rw [sb_ear, if_neg c4, if_neg c47, if_pos c68]
        refine hr_iconst (0) X dX1_earned_71 (by decide) ?_
        refine hr_goto 83 X dX1_earned_72 (by decide) ?_
        exact hr_iret X dX1_earned_83 (Nat.le_of_ble_eq_true rfl) (Nat.le_of_ble_eq_true rfl) ⟨by rw [hz], rfl⟩
    · obtain ⟨r, s, h1, h2, h3, h4⟩ := hb c47
      have hz : sb_ear kd pt rl sl sf sn ss common = sp_cho pt (nI r) (nI s) := by rw [sb_ear, if_neg c4, if_pos c47, h3, h4]
      subst h3 h4
      refine hr_aload_n X dX1_earned_50 rfl (Or.inr ⟨_, rfl⟩) ?_
      refine hr_aload_n X dX1_earned_51 rfl (Or.inr ⟨_, rfl⟩) ?_
      refine hr_get X kF1_45 dX1_earned_52 hS rfl ?_
      refine hr_callV X kC1_48 dX1_earned_55 (c_X1_earnedByChoice cA (M := M) h1 hE s h2) hE rfl rfl rfl rfl (Nat.le_of_ble_eq_true rfl) ⟨⟨(Nat.le_of_ble_eq_true rfl), (Nat.le_of_ble_eq_true rfl)⟩, (Nat.le_of_ble_eq_true rfl), (Nat.le_of_ble_eq_true rfl)⟩ (fun v M55 hp => ?_)
      obtain ⟨rfl, rfl⟩ := hp
      exact hr_iret X dX1_earned_58 (Nat.le_of_ble_eq_true rfl) (Nat.le_of_ble_eq_true rfl) ⟨by rw [hz], rfl⟩
  · refine hr_aload_n X dX1_earned_7 rfl (Or.inr ⟨_, rfl⟩) ?_
    refine hr_get X kF1_31 dX1_earned_8 hS rfl ?_
    refine hr_if_eq 40 X dX1_earned_11 (by decide) (fun c11 => ?_) (fun c11 => ?_)
    · have hz : sb_ear kd pt rl sl sf sn ss common = 0 := by rw [sb_ear, if_pos c4, if_pos c11]
      refine hr_iconst (0) X dX1_earned_40 (by decide) ?_
      exact hr_iret X dX1_earned_41 (Nat.le_of_ble_eq_true rfl) (Nat.le_of_ble_eq_true rfl) ⟨by rw [hz], rfl⟩
    · refine hr_aload_n X dX1_earned_14 rfl (Or.inr ⟨_, rfl⟩) ?_
      refine hr_get X kF1_37 dX1_earned_15 hS rfl ?_
      refine hr_aload_n X dX1_earned_18 rfl (Or.inr ⟨_, rfl⟩) ?_
      refine hr_get X kF1_18 dX1_earned_19 hE rfl ?_
      refine hr_isub X dX1_earned_22 ?_
      refine hr_mabs X kC1_40 dX1_earned_23 rfl ⟨(Nat.le_of_ble_eq_true rfl), (Nat.le_of_ble_eq_true rfl), (Nat.le_of_ble_eq_true rfl), (Nat.le_of_ble_eq_true rfl)⟩ ?_
      refine hr_aload_n X dX1_earned_26 rfl (Or.inr ⟨_, rfl⟩) ?_
      refine hr_get X kF1_21 dX1_earned_27 hE rfl ?_
      refine hr_icmp_gt 40 X dX1_earned_30 (by decide) (fun c30 => ?_) (fun c30 => ?_)
      · have hz : sb_ear kd pt rl sl sf sn ss common = 0 := by rw [sb_ear, if_pos c4, if_neg c11, if_neg (Int32.not_le.mpr c30)]
        refine hr_iconst (0) X dX1_earned_40 (by decide) ?_
        exact hr_iret X dX1_earned_41 (Nat.le_of_ble_eq_true rfl) (Nat.le_of_ble_eq_true rfl) ⟨by rw [hz], rfl⟩
      · have hz : sb_ear kd pt rl sl sf sn ss common = pt := by rw [sb_ear, if_pos c4, if_neg c11, if_pos (Int32.not_lt.mp c30)]
        refine hr_aload_n X dX1_earned_33 rfl (Or.inr ⟨_, rfl⟩) ?_
        refine hr_get X kF1_15 dX1_earned_34 hE rfl ?_
        refine hr_goto 41 X dX1_earned_37 (by decide) ?_
        exact hr_iret X dX1_earned_41 (Nat.le_of_ble_eq_true rfl) (Nat.le_of_ble_eq_true rfl) ⟨by rw [hz], rfl⟩
