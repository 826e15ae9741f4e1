/-! what versions and answers take; what a group uses, found anew -/
/-- further words that each state keeps -/
def sp_J (sg : mm_S) : Prop := (∀ y, y < 64 → sp_n sg ≤ y / 16 → sg 2 y = 0) ∧ (∀ k, k < 48 → ¬ sg 13 k = 2 → sg 16 k = 0) ∧ ∀ s, sp_n sg ≤ s → s < 4 → ∀ g, g < 4 → sg 10 (4 * s + g) = 0 ∧ sg 11 (4 * s + g) = 0
theorem cr_cost {sg : mm_S} {e : Nat} (h4 : ¬ sg 6 e = 4) : sb_sz (cr_kd sg e) (sg 8 e) = sp_cost sg e := by
  unfold sb_sz sp_cost cr_kd
  rw [if_neg h4]
  by_cases h : sg 6 e = 3
  · rw [if_pos h, h]
    rfl
  · rw [if_neg h]
theorem sp_cost_4 {sg : mm_S} {e : Nat} (h4 : sg 6 e = 4) : sp_cost sg e = 0 := if_pos h4
theorem cr_isE_V {sg : mm_S} {y t : Nat} (hy : cr_isV sg y = true) (ht : t < 5) (h4 : ¬ sg 6 (5 * y + t) = 4) : cr_isE sg (5 * y + t) = true := by
  unfold cr_isV at hy
  rw [Bool.and_eq_true] at hy
  unfold cr_isE
  rw [show (5 * y + t) / 5 = y by omega, hy.1, decide_eq_false h4]
  rfl
theorem sp_is_add (f : Nat → Int32) (m : Nat) : ∀ n, sp_is f (m + n) = sp_is f m + sp_is (fun j => f (m + j)) n
  | 0 => (Int32.add_zero _).symm
  | n + 1 => by
    show sp_is f (m + n) + f (m + n) = sp_is f m + (sp_is (fun j => f (m + j)) n + f (m + n))
    rw [sp_is_add f m n, Int32.add_assoc]
theorem sp_is_mul (f : Nat → Int32) (b : Nat) : ∀ a, sp_is f (b * a) = sp_is (fun i => sp_is (fun j => f (b * i + j)) b) a
  | 0 => rfl
  | a + 1 => by
    rw [Nat.mul_succ, sp_is_add, sp_is_mul f b a]
    rfl
theorem sp_is_zero {f : Nat → Int32} : ∀ n : Nat, (∀ k, k < n → f k = 0) → sp_is f n = 0
  | 0, _ => rfl
  | n + 1, h => by rw [sp_is, sp_is_zero n (fun k hk => h k (Nat.lt_succ_of_lt hk)), h n (Nat.lt_succ_self n)]; rfl
theorem sp_is_sum (f g : Nat → Int32) : ∀ n : Nat, sp_is (fun k => f k + g k) n = sp_is f n + sp_is g n
  | 0 => rfl
  | n + 1 => by
    show sp_is (fun k => f k + g k) n + (f n + g n) = sp_is f n + f n + (sp_is g n + g n)
    rw [sp_is_sum f g n, Int32.add_assoc, Int32.add_assoc, ← Int32.add_assoc (sp_is g n), Int32.add_comm (sp_is g n) (f n), Int32.add_assoc]
def cr_svT (sg : mm_S) (s : Nat) (g : Int32) (v : Nat) : Int32 := if sg 2 (16 * s + v) = 0 then 0 else if sg 4 (16 * s + v) = g then sp_pass sg (16 * s + v) none false else 0
def cr_saT (sg : mm_S) (s : Nat) (g : Int32) (p : Nat) : Int32 := if nI p / 3 = g then sp_taken sg (12 * s + p) else 0
def cr_sv (sg : mm_S) (s : Nat) (g : Int32) : Int32 := sp_is (cr_svT sg s g) 16
def cr_sa (sg : mm_S) (s : Nat) (g : Int32) : Int32 := sp_is (cr_saT sg s g) 12
theorem sp_pass_all (sg : mm_S) (y : Nat) : sp_pass sg y none false = sp_is (fun t => sp_cost sg (5 * y + t)) 5 := sp_is_congr 5 (fun t _ => if_pos rfl)
/-- what a group uses, by sheets -/
theorem sp_used_by (sg : mm_S) (g : Int32) : sp_used sg g = sp_is (fun s => cr_sv sg s g + cr_sa sg s g) 4 := by
  rw [sp_is_sum]
  unfold sp_used
  rw [show (320 : Nat) = 80 * 4 from rfl, sp_is_mul, show (48 : Nat) = 12 * 4 from rfl, sp_is_mul (sp_usA sg g)]
  rw [sp_is_congr (f := fun i => sp_is (fun j => sp_usE sg g (80 * i + j)) 80) (g := fun s => cr_sv sg s g) 4 (fun s _ => ?_), sp_is_congr (f := fun i => sp_is (fun j => sp_usA sg g (12 * i + j)) 12) (g := fun s => cr_sa sg s g) 4 (fun s _ => ?_)]
  · refine sp_is_congr 12 (fun p hp => ?_)
    unfold sp_usA cr_saT
    rw [show (12 * s + p) % 12 = p by omega, mm_d3 (by omega)]
  · show sp_is (fun j => sp_usE sg g (80 * s + j)) (5 * 16) = _
    rw [sp_is_mul]
    refine sp_is_congr 16 (fun v hv => ?_)
    unfold cr_svT
    rw [sp_pass_all]
    have e : ∀ t, t < 5 → sp_usE sg g (80 * s + (5 * v + t)) = if sg 2 (16 * s + v) = 0 then 0 else if sg 4 (16 * s + v) = g then sp_cost sg (5 * (16 * s + v) + t) else 0 := fun t ht => by
      unfold sp_usE
      rw [show (80 * s + (5 * v + t)) / 5 = 16 * s + v by omega, show 80 * s + (5 * v + t) = 5 * (16 * s + v) + t by omega]
    rw [sp_is_congr 5 e]
    by_cases h2 : sg 2 (16 * s + v) = 0
    · rw [if_pos h2]
      exact sp_is_zero 5 (fun t _ => if_pos h2)
    · rw [if_neg h2]
      by_cases h4 : sg 4 (16 * s + v) = g
      · rw [if_pos h4]
        exact sp_is_congr 5 (fun t _ => by rw [if_neg h2, if_pos h4])
      · rw [if_neg h4]
        exact sp_is_zero 5 (fun t _ => by rw [if_neg h2, if_neg h4])
theorem sp_taken_0 {sg : mm_S} (hI : sp_I sg) {s p : Nat} (hs : s < 4) (hp : p < 12) (h : sg 13 (12 * s + p) = 0) : sp_taken sg (12 * s + p) = 0 := by
  rcases hI.i9 s p hs hp with ⟨-, h1⟩ | ⟨h1, -⟩
  · refine sp_is_zero 5 (fun t ht => ?_)
    obtain ⟨a, b, c⟩ := h1 t ht
    unfold sp_tk
    rw [a, b, c]
    rfl
  · rw [h] at h1
    rcases h1 with h1 | h1 <;> exact absurd h1 (by decide)
theorem cr_s_none {sg : mm_S} (hI : sp_I sg) (hJ : sp_J sg) {s : Nat} {g : Int32} (hs : s < 4) (h : cr_isS sg s = false) : cr_sv sg s g + cr_sa sg s g = 0 := by
  have hn : sp_n sg ≤ s := Nat.not_lt.mp (of_decide_eq_false h)
  have e1 : cr_sv sg s g = 0 := sp_is_zero 16 (fun v hv => if_pos (hJ.1 _ (by omega) (by omega)))
  have e2 : cr_sa sg s g = 0 := sp_is_zero 12 (fun p hp => by
    unfold cr_saT
    split
    · refine sp_taken_0 hI hs hp ?_
      rcases hI.i9 s p hs hp with ⟨h1, -⟩ | ⟨-, h1, -⟩
      · exact h1
      · omega
    · rfl)
  rw [e1, e2]
  rfl
set_option maxHeartbeats 4000000 in
set_option maxRecDepth 100000 in
theorem c_X4_size (cA : Nat → ClassId) {sg ta : mm_S} {ad : Nat → Nat → Nat} {M0 M : hm_M} (hR : cr_R cA sg ta ad M0 M) (hI : sp_I sg) (y : Nat) (hy : cr_isV sg y = true) : hm_Met cA yX4_size cX4_size 3 (some .int) r_X4_size [.ref (ad 13 y)] M (hm_pu (some (.int (sp_pass sg y none false))) M) := by
  refine hm_met 2 (by decide +kernel) (fun w h => by simp only [List.mem_cons, List.not_mem_nil, or_false] at h; rcases h with rfl <;> rfl) rfl (fun C X => ?_)
  show hm_W C 0 0 _ M 0 [some (.ref (ad 13 y)), none, none] []
  refine hr_iconst (0) X dX4_size_0 (by decide) ?_
  refine hr_istore_n X dX4_size_1 (Nat.le_of_ble_eq_true rfl) ?_
  refine hr_iconst (0) X dX4_size_2 (by decide) ?_
  refine hr_istore_n X dX4_size_3 (Nat.le_of_ble_eq_true rfl) ?_
  have lp4 : ∀ (f : Nat) (n : Nat), 5 < n + f → n ≤ 5 → hm_W C 0 0 (hm_T C (hm_pu (some (.int (sp_pass sg y none false))) M) r_X4_size.cells r_X4_size.slots) M 4 [some (.ref (ad 13 y)), some (.int (sp_is (fun k => if sp_goes sg none k = false then sp_cost sg (5 * y + k) else 0) n)), some (.int (nI n))] [] := by
    intro f
    induction f with
    | zero => intro n h1 h2; exact absurd h1 (by omega)
    | succ f ih =>
      intro n h1 h2
      refine hr_iload_n X dX4_size_4 rfl ?_
      refine hr_iconst (5) X dX4_size_5 (by decide) ?_
      refine hr_icmp_ge 36 X dX4_size_6 (by decide) (fun c6 => ?_) (fun c6 => ?_)
      · have hz : n = 5 := by have := (nI_leI (a := 5) (by decide) (by omega)).mp c6; omega
        subst hz
        refine hr_iload_n X dX4_size_36 rfl ?_
        exact hr_iret X dX4_size_37 (Nat.le_of_ble_eq_true rfl) (Nat.le_of_ble_eq_true rfl) ⟨rfl, rfl⟩
      · have hn : n < 5 := by
          rcases Nat.lt_or_ge n 5 with q | q
          · exact q
          · exact absurd (nI_le (by omega) (by omega)) c6
        refine hr_aload_n X dX4_size_9 rfl (Or.inr ⟨_, rfl⟩) ?_
        refine hr_get X kF4_11 dX4_size_10 (hR.c13 hy) rfl ?_
        refine hr_iload_n X dX4_size_13 rfl ?_
        refine hr_aald 5 X rfl dX4_size_14 (hR.c14 hy) (mm_in rfl (by omega) (by decide)).1 ?_
        rw [nI_clamp (by omega)]
        have J30 : hm_W C 0 0 (hm_T C (hm_pu (some (.int (sp_pass sg y none false))) M) r_X4_size.cells r_X4_size.slots) M 30 [some (.ref (ad 13 y)), some (.int (sp_is (fun k => if sp_goes sg none k = false then sp_cost sg (5 * y + k) else 0) (n + 1))), some (.int (nI n))] [] := by
          refine hr_iinc (1) X dX4_size_30 rfl (by decide) ?_
          refine hr_goto 4 X dX4_size_33 (by decide) ?_
          rw [nI_1]
          exact ih (n + 1) (by omega) (by omega)
        refine hr_ifnull 30 X dX4_size_15 (by decide) (fun c15 => ?_) (fun a15 c15 => ?_)
        · have h4 : sg 6 (5 * y + n) = 4 := by
            by_cases q : sg 6 (5 * y + n) = 4
            · exact q
            · rw [if_neg q] at c15; cases c15
          have hz : sp_is (fun k => if sp_goes sg none k = false then sp_cost sg (5 * y + k) else 0) (n + 1) = sp_is (fun k => if sp_goes sg none k = false then sp_cost sg (5 * y + k) else 0) n := sp_is_st ((if_pos rfl).trans (sp_cost_4 h4))
          exact hl_loc (by rw [hz] <;> rfl) J30
        · have h4 : ¬ sg 6 (5 * y + n) = 4 := fun q => by rw [if_pos q] at c15; cases c15
          have hE := cr_isE_V hy hn h4
          have hz : sp_is (fun k => if sp_goes sg none k = false then sp_cost sg (5 * y + k) else 0) (n + 1) = sp_is (fun k => if sp_goes sg none k = false then sp_cost sg (5 * y + k) else 0) n + sb_sz (cr_kd sg (5 * y + n)) (sg 8 (5 * y + n)) := sp_is_up ((if_pos rfl).trans (cr_cost h4).symm)
          refine hr_iload_n X dX4_size_18 rfl ?_
          refine hr_aload_n X dX4_size_19 rfl (Or.inr ⟨_, rfl⟩) ?_
          refine hr_get X kF4_11 dX4_size_20 (hR.c13 hy) rfl ?_
          refine hr_iload_n X dX4_size_23 rfl ?_
          refine hr_aald 5 X rfl dX4_size_24 (hR.c14 hy) (mm_in rfl (by omega) (by decide)).1 ?_
          rw [nI_clamp (by omega), if_neg h4]
          refine hr_callV X kC4_28 dX4_size_25 (c_X1_size cA (hR.c15 hE)) (hR.c15 hE) rfl rfl rfl rfl (Nat.le_of_ble_eq_true rfl) ⟨⟨(Nat.le_of_ble_eq_true rfl), (Nat.le_of_ble_eq_true rfl)⟩, (Nat.le_of_ble_eq_true rfl), (Nat.le_of_ble_eq_true rfl)⟩ (fun v M25 hp => ?_)
          obtain ⟨rfl, rfl⟩ := hp
          refine hr_iadd X dX4_size_28 ?_
          refine hr_istore_n X dX4_size_29 (Nat.le_of_ble_eq_true rfl) ?_
          exact hl_loc (by rw [hz] <;> rfl) J30
  exact lp4 6 0 (by decide) (by decide)
set_option maxHeartbeats 4000000 in
set_option maxRecDepth 100000 in
theorem c_X4_sizeMissingIn (cA : Nat → ClassId) {sg ta : mm_S} {ad : Nat → Nat → Nat} {M0 M : hm_M} (hR : cr_R cA sg ta ad M0 M) (hI : sp_I sg) (y z : Nat) (hy : cr_isV sg y = true) (hw : cr_isV sg z = true) : hm_Met cA yX4_sizeMissingIn cX4_sizeMissingIn 4 (some .int) r_X4_sizeMissingIn [.ref (ad 13 y), .ref (ad 13 z)] M (hm_pu (some (.int (sp_pass sg y (some z) true))) M) := by
  refine hm_met 2 (by decide +kernel) (fun w h => by simp only [List.mem_cons, List.not_mem_nil, or_false] at h; rcases h with rfl | rfl <;> rfl) rfl (fun C X => ?_)
  show hm_W C 0 0 _ M 0 [some (.ref (ad 13 y)), some (.ref (ad 13 z)), none, none] []
  refine hr_iconst (0) X dX4_sizeMissingIn_0 (by decide) ?_
  refine hr_istore_n X dX4_sizeMissingIn_1 (Nat.le_of_ble_eq_true rfl) ?_
  refine hr_iconst (0) X dX4_sizeMissingIn_2 (by decide) ?_
  refine hr_istore_n X dX4_sizeMissingIn_3 (Nat.le_of_ble_eq_true rfl) ?_
  have lp4 : ∀ (f : Nat) (n : Nat), 5 < n + f → n ≤ 5 → hm_W C 0 0 (hm_T C (hm_pu (some (.int (sp_pass sg y (some z) true))) M) r_X4_sizeMissingIn.cells r_X4_sizeMissingIn.slots) M 4 [some (.ref (ad 13 y)), some (.ref (ad 13 z)), some (.int (sp_is (fun k => if sp_goes sg (some z) k = true then sp_cost sg (5 * y + k) else 0) n)), some (.int (nI n))] [] := by
    intro f
    induction f with
    | zero => intro n h1 h2; exact absurd h1 (by omega)
    | succ f ih =>
      intro n h1 h2
      refine hr_iload_n X dX4_sizeMissingIn_4 rfl ?_
      refine hr_iconst (5) X dX4_sizeMissingIn_5 (by decide) ?_
      refine hr_icmp_ge 45 X dX4_sizeMissingIn_6 (by decide) (fun c6 => ?_) (fun c6 => ?_)
      · have hz : n = 5 := by have := (nI_leI (a := 5) (by decide) (by omega)).mp c6; omega
        subst hz
        refine hr_iload_n X dX4_sizeMissingIn_45 rfl ?_
        exact hr_iret X dX4_sizeMissingIn_46 (Nat.le_of_ble_eq_true rfl) (Nat.le_of_ble_eq_true rfl) ⟨rfl, rfl⟩
      · have hn : n < 5 := by
          rcases Nat.lt_or_ge n 5 with q | q
          · exact q
          · exact absurd (nI_le (by omega) (by omega)) c6
        refine hr_aload_n X dX4_sizeMissingIn_9 rfl (Or.inr ⟨_, rfl⟩) ?_
        refine hr_get X kF4_11 dX4_sizeMissingIn_10 (hR.c13 hy) rfl ?_
        refine hr_iload_n X dX4_sizeMissingIn_13 rfl ?_
        refine hr_aald 5 X rfl dX4_sizeMissingIn_14 (hR.c14 hy) (mm_in rfl (by omega) (by decide)).1 ?_
        rw [nI_clamp (by omega)]
        have J39 : hm_W C 0 0 (hm_T C (hm_pu (some (.int (sp_pass sg y (some z) true))) M) r_X4_sizeMissingIn.cells r_X4_sizeMissingIn.slots) M 39 [some (.ref (ad 13 y)), some (.ref (ad 13 z)), some (.int (sp_is (fun k => if sp_goes sg (some z) k = true then sp_cost sg (5 * y + k) else 0) (n + 1))), some (.int (nI n))] [] := by
          refine hr_iinc (1) X dX4_sizeMissingIn_39 rfl (by decide) ?_
          refine hr_goto 4 X dX4_sizeMissingIn_42 (by decide) ?_
          rw [nI_1]
          exact ih (n + 1) (by omega) (by omega)
        refine hr_ifnull 39 X dX4_sizeMissingIn_15 (by decide) (fun c15 => ?_) (fun a15 c15 => ?_)
        · have h4 : sg 6 (5 * y + n) = 4 := by
            by_cases q : sg 6 (5 * y + n) = 4
            · exact q
            · rw [if_neg q] at c15; cases c15
          have hz : sp_is (fun k => if sp_goes sg (some z) k = true then sp_cost sg (5 * y + k) else 0) (n + 1) = sp_is (fun k => if sp_goes sg (some z) k = true then sp_cost sg (5 * y + k) else 0) n := sp_is_st (by rw [sp_cost_4 h4]; exact ite_self _)
          exact hl_loc (by rw [hz] <;> rfl) J39
        · have h4 : ¬ sg 6 (5 * y + n) = 4 := fun q => by rw [if_pos q] at c15; cases c15
          have hE := cr_isE_V hy hn h4
          refine hr_aload_n X dX4_sizeMissingIn_18 rfl (Or.inr ⟨_, rfl⟩) ?_
          refine hr_get X kF4_11 dX4_sizeMissingIn_19 (hR.c13 hw) rfl ?_
          refine hr_iload_n X dX4_sizeMissingIn_22 rfl ?_
          refine hr_aald 5 X rfl dX4_sizeMissingIn_23 (hR.c14 hw) (mm_in rfl (by omega) (by decide)).1 ?_
          rw [nI_clamp (by omega)]
          refine hr_ifnonnull 39 X dX4_sizeMissingIn_24 (by decide) (fun a24 c24 => ?_) (fun c24 => ?_)
          · have h5 : ¬ sg 6 (5 * z + n) = 4 := fun q => by rw [if_pos q] at c24; cases c24
            have hz : sp_is (fun k => if sp_goes sg (some z) k = true then sp_cost sg (5 * y + k) else 0) (n + 1) = sp_is (fun k => if sp_goes sg (some z) k = true then sp_cost sg (5 * y + k) else 0) n := sp_is_st (if_neg (fun q => h5 (of_decide_eq_true q)))
            exact hl_loc (by rw [hz] <;> rfl) J39
          · have h5 : sg 6 (5 * z + n) = 4 := by
              by_cases q : sg 6 (5 * z + n) = 4
              · exact q
              · rw [if_neg q] at c24; cases c24
            have hz : sp_is (fun k => if sp_goes sg (some z) k = true then sp_cost sg (5 * y + k) else 0) (n + 1) = sp_is (fun k => if sp_goes sg (some z) k = true then sp_cost sg (5 * y + k) else 0) n + sb_sz (cr_kd sg (5 * y + n)) (sg 8 (5 * y + n)) := sp_is_up ((if_pos (decide_eq_true h5)).trans (cr_cost h4).symm)
            refine hr_iload_n X dX4_sizeMissingIn_27 rfl ?_
            refine hr_aload_n X dX4_sizeMissingIn_28 rfl (Or.inr ⟨_, rfl⟩) ?_
            refine hr_get X kF4_11 dX4_sizeMissingIn_29 (hR.c13 hy) rfl ?_
            refine hr_iload_n X dX4_sizeMissingIn_32 rfl ?_
            refine hr_aald 5 X rfl dX4_sizeMissingIn_33 (hR.c14 hy) (mm_in rfl (by omega) (by decide)).1 ?_
            rw [nI_clamp (by omega), if_neg h4]
            refine hr_callV X kC4_28 dX4_sizeMissingIn_34 (c_X1_size cA (hR.c15 hE)) (hR.c15 hE) rfl rfl rfl rfl (Nat.le_of_ble_eq_true rfl) ⟨⟨(Nat.le_of_ble_eq_true rfl), (Nat.le_of_ble_eq_true rfl)⟩, (Nat.le_of_ble_eq_true rfl), (Nat.le_of_ble_eq_true rfl)⟩ (fun v M34 hp => ?_)
            obtain ⟨rfl, rfl⟩ := hp
            refine hr_iadd X dX4_sizeMissingIn_37 ?_
            refine hr_istore_n X dX4_sizeMissingIn_38 (Nat.le_of_ble_eq_true rfl) ?_
            exact hl_loc (by rw [hz] <;> rfl) J39
  exact lp4 6 0 (by decide) (by decide)
set_option maxHeartbeats 4000000 in
set_option maxRecDepth 100000 in
theorem c_X0_size (cA : Nat → ClassId) {sg ta : mm_S} {ad : Nat → Nat → Nat} {M0 M : hm_M} (hR : cr_R cA sg ta ad M0 M) (k : Nat) (hK : cr_isK sg k = true) : hm_Met cA yX0_size cX0_size 3 (some .int) r_X0_size [.ref (ad 16 k)] M (hm_pu (some (.int (sp_taken sg k))) M) := by
  refine hm_met 2 (by decide +kernel) (fun w h => by simp only [List.mem_cons, List.not_mem_nil, or_false] at h; rcases h with rfl <;> rfl) rfl (fun C X => ?_)
  show hm_W C 0 0 _ M 0 [some (.ref (ad 16 k)), none, none] []
  refine hr_iconst (0) X dX0_size_0 (by decide) ?_
  refine hr_istore_n X dX0_size_1 (Nat.le_of_ble_eq_true rfl) ?_
  refine hr_iconst (0) X dX0_size_2 (by decide) ?_
  refine hr_istore_n X dX0_size_3 (Nat.le_of_ble_eq_true rfl) ?_
  have lp4 : ∀ (f : Nat) (n : Nat), 5 < n + f → n ≤ 5 → hm_W C 0 0 (hm_T C (hm_pu (some (.int (sp_taken sg k))) M) r_X0_size.cells r_X0_size.slots) M 4 [some (.ref (ad 16 k)), some (.int (sp_is (fun t => sp_tk sg (5 * k + t)) n)), some (.int (nI n))] [] := by
    intro f
    induction f with
    | zero => intro n h1 h2; exact absurd h1 (by omega)
    | succ f ih =>
      intro n h1 h2
      refine hr_iload_n X dX0_size_4 rfl ?_
      refine hr_iconst (5) X dX0_size_5 (by decide) ?_
      refine hr_icmp_ge 36 X dX0_size_6 (by decide) (fun c6 => ?_) (fun c6 => ?_)
      · have hz : n = 5 := by have := (nI_leI (a := 5) (by decide) (by omega)).mp c6; omega
        subst hz
        refine hr_iload_n X dX0_size_36 rfl ?_
        exact hr_iret X dX0_size_37 (Nat.le_of_ble_eq_true rfl) (Nat.le_of_ble_eq_true rfl) ⟨rfl, rfl⟩
      · have hn : n < 5 := by
          rcases Nat.lt_or_ge n 5 with q | q
          · exact q
          · exact absurd (nI_le (by omega) (by omega)) c6
        have hK5 : cr_isK sg ((5 * k + n) / 5) = true := by rw [show (5 * k + n) / 5 = k by omega]; exact hK
        refine hr_aload_n X dX0_size_9 rfl (Or.inr ⟨_, rfl⟩) ?_
        refine hr_get X kF0_11 dX0_size_10 (hR.c16 hK) rfl ?_
        refine hr_iload_n X dX0_size_13 rfl ?_
        refine hr_aald 7 X rfl dX0_size_14 (hR.c17 hK) (mm_in rfl (by omega) (by decide)).1 ?_
        rw [nI_clamp (by omega)]
        refine hr_ifnullR X dX0_size_15 ?_
        refine hr_iload_n X dX0_size_18 rfl ?_
        refine hr_aload_n X dX0_size_19 rfl (Or.inr ⟨_, rfl⟩) ?_
        refine hr_get X kF0_11 dX0_size_20 (hR.c16 hK) rfl ?_
        refine hr_iload_n X dX0_size_23 rfl ?_
        refine hr_aald 7 X rfl dX0_size_24 (hR.c17 hK) (mm_in rfl (by omega) (by decide)).1 ?_
        rw [nI_clamp (by omega)]
        refine hr_callV X kC0_43 dX0_size_25 (c_X2_size cA (hR.c19 hK5)) (hR.c19 hK5) rfl rfl rfl rfl (Nat.le_of_ble_eq_true rfl) ⟨⟨(Nat.le_of_ble_eq_true rfl), (Nat.le_of_ble_eq_true rfl)⟩, (Nat.le_of_ble_eq_true rfl), (Nat.le_of_ble_eq_true rfl)⟩ (fun v M25 hp => ?_)
        obtain ⟨rfl, rfl⟩ := hp
        refine hr_iadd X dX0_size_28 ?_
        refine hr_istore_n X dX0_size_29 (Nat.le_of_ble_eq_true rfl) ?_
        refine hr_iinc (1) X dX0_size_30 rfl (by decide) ?_
        refine hr_goto 4 X dX0_size_33 (by decide) ?_
        rw [nI_1]
        exact ih (n + 1) (by omega) (by omega)
  exact lp4 6 0 (by decide) (by decide)
set_option maxHeartbeats 4000000 in
set_option maxRecDepth 100000 in
theorem c_X3_sizeOfVersions (cA : Nat → ClassId) {sg ta : mm_S} {ad : Nat → Nat → Nat} {M0 M : hm_M} (hR : cr_R cA sg ta ad M0 M) (hI : sp_I sg) (a : Nat) (hs : cr_isS sg a = true) (g : Int32) : hm_Met cA yX3_sizeOfVersions cX3_sizeOfVersions 4 (some .int) r_X3_sizeOfVersions [.ref (ad 8 a), .int g] M (hm_pu (some (.int (cr_sv sg a g))) M) := by
  refine hm_met 2 (by decide +kernel) (fun w h => by simp only [List.mem_cons, List.not_mem_nil, or_false] at h; rcases h with rfl | rfl <;> rfl) rfl (fun C X => ?_)
  show hm_W C 0 0 _ M 0 [some (.ref (ad 8 a)), some (.int g), none, none] []
  obtain ⟨ha1, ha4⟩ := cr_isS_4 hI hs
  refine hr_iconst (0) X dX3_sizeOfVersions_0 (by decide) ?_
  refine hr_istore_n X dX3_sizeOfVersions_1 (Nat.le_of_ble_eq_true rfl) ?_
  refine hr_iconst (0) X dX3_sizeOfVersions_2 (by decide) ?_
  refine hr_istore_n X dX3_sizeOfVersions_3 (Nat.le_of_ble_eq_true rfl) ?_
  have lp4 : ∀ (f : Nat) (n : Nat), 16 < n + f → n ≤ 16 → hm_W C 0 0 (hm_T C (hm_pu (some (.int (cr_sv sg a g))) M) r_X3_sizeOfVersions.cells r_X3_sizeOfVersions.slots) M 4 [some (.ref (ad 8 a)), some (.int g), some (.int (sp_is (cr_svT sg a g) n)), some (.int (nI n))] [] := by
    intro f
    induction f with
    | zero => intro n h1 h2; exact absurd h1 (by omega)
    | succ f ih =>
      intro n h1 h2
      refine hr_iload_n X dX3_sizeOfVersions_4 rfl ?_
      refine hr_bipush (16) X dX3_sizeOfVersions_5 (by decide) ?_
      refine hr_icmp_ge 50 X dX3_sizeOfVersions_7 (by decide) (fun c7 => ?_) (fun c7 => ?_)
      · have hz : n = 16 := by have := (nI_leI (a := 16) (by decide) (by omega)).mp c7; omega
        subst hz
        refine hr_iload_n X dX3_sizeOfVersions_50 rfl ?_
        exact hr_iret X dX3_sizeOfVersions_51 (Nat.le_of_ble_eq_true rfl) (Nat.le_of_ble_eq_true rfl) ⟨rfl, rfl⟩
      · have hn : n < 16 := by
          rcases Nat.lt_or_ge n 16 with q | q
          · exact q
          · exact absurd (nI_le (by omega) (by omega)) c7
        refine hr_aload_n X dX3_sizeOfVersions_10 rfl (Or.inr ⟨_, rfl⟩) ?_
        refine hr_get X kF3_11 dX3_sizeOfVersions_11 (hR.c8 hs) rfl ?_
        refine hr_iload_n X dX3_sizeOfVersions_14 rfl ?_
        refine hr_aald 4 X rfl dX3_sizeOfVersions_15 (hR.c9 hs) (mm_in rfl (by omega) (by decide)).1 ?_
        rw [nI_clamp (by omega)]
        have J44 : hm_W C 0 0 (hm_T C (hm_pu (some (.int (cr_sv sg a g))) M) r_X3_sizeOfVersions.cells r_X3_sizeOfVersions.slots) M 44 [some (.ref (ad 8 a)), some (.int g), some (.int (sp_is (cr_svT sg a g) (n + 1))), some (.int (nI n))] [] := by
          refine hr_iinc (1) X dX3_sizeOfVersions_44 rfl (by decide) ?_
          refine hr_goto 4 X dX3_sizeOfVersions_47 (by decide) ?_
          rw [nI_1]
          exact ih (n + 1) (by omega) (by omega)
        refine hr_ifnull 44 X dX3_sizeOfVersions_16 (by decide) (fun c16 => ?_) (fun a16 c16 => ?_)
        · have h2 : sg 2 (16 * a + n) = 0 := by
            by_cases q : sg 2 (16 * a + n) = 0
            · exact q
            · rw [if_neg q] at c16; cases c16
          have hz : sp_is (cr_svT sg a g) (n + 1) = sp_is (cr_svT sg a g) n := sp_is_st (if_pos h2)
          exact hl_loc (by rw [hz] <;> rfl) J44
        · have h2 : ¬ sg 2 (16 * a + n) = 0 := fun q => by rw [if_pos q] at c16; cases c16
          have hx := cr_isV_th ha1 (show sp_th sg a n from ⟨hn, h2⟩)
          refine hr_aload_n X dX3_sizeOfVersions_19 rfl (Or.inr ⟨_, rfl⟩) ?_
          refine hr_get X kF3_11 dX3_sizeOfVersions_20 (hR.c8 hs) rfl ?_
          refine hr_iload_n X dX3_sizeOfVersions_23 rfl ?_
          refine hr_aald 4 X rfl dX3_sizeOfVersions_24 (hR.c9 hs) (mm_in rfl (by omega) (by decide)).1 ?_
          rw [nI_clamp (by omega), if_neg h2]
          refine hr_get X kF3_69 dX3_sizeOfVersions_25 (hR.c13 hx) rfl ?_
          refine hr_iload_n X dX3_sizeOfVersions_28 rfl ?_
          refine hr_icmp_ne 44 X dX3_sizeOfVersions_29 (by decide) (fun c29 => ?_) (fun c29 => ?_)
          · have hz : sp_is (cr_svT sg a g) (n + 1) = sp_is (cr_svT sg a g) n := sp_is_st ((if_neg h2).trans (if_neg c29))
            exact hl_loc (by rw [hz] <;> rfl) J44
          · have hz : sp_is (cr_svT sg a g) (n + 1) = sp_is (cr_svT sg a g) n + sp_pass sg (16 * a + n) none false := sp_is_up ((if_neg h2).trans (if_pos c29))
            refine hr_iload_n X dX3_sizeOfVersions_32 rfl ?_
            refine hr_aload_n X dX3_sizeOfVersions_33 rfl (Or.inr ⟨_, rfl⟩) ?_
            refine hr_get X kF3_11 dX3_sizeOfVersions_34 (hR.c8 hs) rfl ?_
            refine hr_iload_n X dX3_sizeOfVersions_37 rfl ?_
            refine hr_aald 4 X rfl dX3_sizeOfVersions_38 (hR.c9 hs) (mm_in rfl (by omega) (by decide)).1 ?_
            rw [nI_clamp (by omega), if_neg h2]
            refine hr_callV X kC3_72 dX3_sizeOfVersions_39 (c_X4_size cA hR hI _ hx) (hR.c13 hx) rfl rfl rfl rfl (Nat.le_of_ble_eq_true rfl) ⟨⟨(Nat.le_of_ble_eq_true rfl), (Nat.le_of_ble_eq_true rfl)⟩, (Nat.le_of_ble_eq_true rfl), (Nat.le_of_ble_eq_true rfl)⟩ (fun v M39 hp => ?_)
            obtain ⟨rfl, rfl⟩ := hp
            refine hr_iadd X dX3_sizeOfVersions_42 ?_
            refine hr_istore_n X dX3_sizeOfVersions_43 (Nat.le_of_ble_eq_true rfl) ?_
            exact hl_loc (by rw [hz] <;> rfl) J44
  exact lp4 17 0 (by decide) (by decide)
set_option maxHeartbeats 4000000 in
set_option maxRecDepth 100000 in
theorem c_X3_sizeOfAnswers (cA : Nat → ClassId) {sg ta : mm_S} {ad : Nat → Nat → Nat} {M0 M : hm_M} (hR : cr_R cA sg ta ad M0 M) (hI : sp_I sg) (a : Nat) (hs : cr_isS sg a = true) (g : Int32) : hm_Met cA yX3_sizeOfAnswers cX3_sizeOfAnswers 4 (some .int) r_X3_sizeOfAnswers [.ref (ad 8 a), .int g] M (hm_pu (some (.int (cr_sa sg a g))) M) := by
  refine hm_met 2 (by decide +kernel) (fun w h => by simp only [List.mem_cons, List.not_mem_nil, or_false] at h; rcases h with rfl | rfl <;> rfl) rfl (fun C X => ?_)
  show hm_W C 0 0 _ M 0 [some (.ref (ad 8 a)), some (.int g), none, none] []
  obtain ⟨ha1, ha4⟩ := cr_isS_4 hI hs
  refine hr_iconst (0) X dX3_sizeOfAnswers_0 (by decide) ?_
  refine hr_istore_n X dX3_sizeOfAnswers_1 (Nat.le_of_ble_eq_true rfl) ?_
  refine hr_iconst (0) X dX3_sizeOfAnswers_2 (by decide) ?_
  refine hr_istore_n X dX3_sizeOfAnswers_3 (Nat.le_of_ble_eq_true rfl) ?_
  have lp4 : ∀ (f : Nat) (n : Nat), 12 < n + f → n ≤ 12 → hm_W C 0 0 (hm_T C (hm_pu (some (.int (cr_sa sg a g))) M) r_X3_sizeOfAnswers.cells r_X3_sizeOfAnswers.slots) M 4 [some (.ref (ad 8 a)), some (.int g), some (.int (sp_is (cr_saT sg a g) n)), some (.int (nI n))] [] := by
    intro f
    induction f with
    | zero => intro n h1 h2; exact absurd h1 (by omega)
    | succ f ih =>
      intro n h1 h2
      refine hr_iload_n X dX3_sizeOfAnswers_4 rfl ?_
      refine hr_bipush (12) X dX3_sizeOfAnswers_5 (by decide) ?_
      refine hr_icmp_ge 45 X dX3_sizeOfAnswers_7 (by decide) (fun c7 => ?_) (fun c7 => ?_)
      · have hz : n = 12 := by have := (nI_leI (a := 12) (by decide) (by omega)).mp c7; omega
        subst hz
        refine hr_iload_n X dX3_sizeOfAnswers_45 rfl ?_
        exact hr_iret X dX3_sizeOfAnswers_46 (Nat.le_of_ble_eq_true rfl) (Nat.le_of_ble_eq_true rfl) ⟨rfl, rfl⟩
      · have hn : n < 12 := by
          rcases Nat.lt_or_ge n 12 with q | q
          · exact q
          · exact absurd (nI_le (by omega) (by omega)) c7
        refine hr_aload_n X dX3_sizeOfAnswers_10 rfl (Or.inr ⟨_, rfl⟩) ?_
        refine hr_get X kF3_30 dX3_sizeOfAnswers_11 (hR.c8 hs) rfl ?_
        refine hr_iload_n X dX3_sizeOfAnswers_14 rfl ?_
        refine hr_aald 6 X rfl dX3_sizeOfAnswers_15 (hR.c12 hs) (mm_in rfl (by omega) (by decide)).1 ?_
        rw [nI_clamp (by omega)]
        have J39 : hm_W C 0 0 (hm_T C (hm_pu (some (.int (cr_sa sg a g))) M) r_X3_sizeOfAnswers.cells r_X3_sizeOfAnswers.slots) M 39 [some (.ref (ad 8 a)), some (.int g), some (.int (sp_is (cr_saT sg a g) (n + 1))), some (.int (nI n))] [] := by
          refine hr_iinc (1) X dX3_sizeOfAnswers_39 rfl (by decide) ?_
          refine hr_goto 4 X dX3_sizeOfAnswers_42 (by decide) ?_
          rw [nI_1]
          exact ih (n + 1) (by omega) (by omega)
        refine hr_ifnull 39 X dX3_sizeOfAnswers_16 (by decide) (fun c16 => ?_) (fun a16 c16 => ?_)
        · have h3 : sg 13 (12 * a + n) = 0 := by
            by_cases q : sg 13 (12 * a + n) = 0
            · exact q
            · rw [if_neg q] at c16; cases c16
          have hz : sp_is (cr_saT sg a g) (n + 1) = sp_is (cr_saT sg a g) n := sp_is_st (by unfold cr_saT; rw [sp_taken_0 hI ha4 hn h3]; exact ite_self _)
          exact hl_loc (by rw [hz] <;> rfl) J39
        · have h3 : ¬ sg 13 (12 * a + n) = 0 := fun q => by rw [if_pos q] at c16; cases c16
          have hK := cr_isK_at ha1 hn h3
          refine hr_iload_n X dX3_sizeOfAnswers_19 rfl ?_
          refine hr_callSN X kC3_76 dX3_sizeOfAnswers_20 (c_X5_classOf cA (M := M) (nI n)) rfl rfl rfl (Nat.le_of_ble_eq_true rfl) ⟨⟨(Nat.le_of_ble_eq_true rfl), (Nat.le_of_ble_eq_true rfl)⟩, (Nat.le_of_ble_eq_true rfl), (Nat.le_of_ble_eq_true rfl)⟩ (fun v M20 hp => ?_)
          obtain ⟨rfl, rfl⟩ := hp
          refine hr_iload_n X dX3_sizeOfAnswers_23 rfl ?_
          refine hr_icmp_ne 39 X dX3_sizeOfAnswers_24 (by decide) (fun c24 => ?_) (fun c24 => ?_)
          · have hz : sp_is (cr_saT sg a g) (n + 1) = sp_is (cr_saT sg a g) n := sp_is_st (if_neg c24)
            exact hl_loc (by rw [hz] <;> rfl) J39
          · have hz : sp_is (cr_saT sg a g) (n + 1) = sp_is (cr_saT sg a g) n + sp_taken sg (12 * a + n) := sp_is_up (if_pos c24)
            refine hr_iload_n X dX3_sizeOfAnswers_27 rfl ?_
            refine hr_aload_n X dX3_sizeOfAnswers_28 rfl (Or.inr ⟨_, rfl⟩) ?_
            refine hr_get X kF3_30 dX3_sizeOfAnswers_29 (hR.c8 hs) rfl ?_
            refine hr_iload_n X dX3_sizeOfAnswers_32 rfl ?_
            refine hr_aald 6 X rfl dX3_sizeOfAnswers_33 (hR.c12 hs) (mm_in rfl (by omega) (by decide)).1 ?_
            rw [nI_clamp (by omega), if_neg h3]
            refine hr_callV X kC3_80 dX3_sizeOfAnswers_34 (c_X0_size cA hR _ hK) (hR.c16 hK) rfl rfl rfl rfl (Nat.le_of_ble_eq_true rfl) ⟨⟨(Nat.le_of_ble_eq_true rfl), (Nat.le_of_ble_eq_true rfl)⟩, (Nat.le_of_ble_eq_true rfl), (Nat.le_of_ble_eq_true rfl)⟩ (fun v M34 hp => ?_)
            obtain ⟨rfl, rfl⟩ := hp
            refine hr_iadd X dX3_sizeOfAnswers_37 ?_
            refine hr_istore_n X dX3_sizeOfAnswers_38 (Nat.le_of_ble_eq_true rfl) ?_
            exact hl_loc (by rw [hz] <;> rfl) J39
  exact lp4 13 0 (by decide) (by decide)
set_option maxHeartbeats 4000000 in
set_option maxRecDepth 100000 in
theorem c_X5_usedAnew (cA : Nat → ClassId) {sg ta : mm_S} {ad : Nat → Nat → Nat} {M0 M : hm_M} (hR : cr_R cA sg ta ad M0 M) (hI : sp_I sg) (hJ : sp_J sg) (g : Int32) : hm_XMet cA yX5_usedAnew cX5_usedAnew 5 (some .int) r_X5_usedAnew [.ref (ad 0 0), .int g] M (fun v' M' => sp_in g 0 3 = true ∧ v' = some (.int (sp_used sg g)) ∧ M = M') (fun E M' => sp_in g 0 3 = false ∧ E = "java/lang/IndexOutOfBoundsException" ∧ M = M') := by
  refine hm_xmet 3 (by decide +kernel) (fun w h => by simp only [List.mem_cons, List.not_mem_nil, or_false] at h; rcases h with rfl | rfl <;> rfl) rfl (fun C X XE => ?_)
  show hm_W C 0 0 _ M 0 [some (.ref (ad 0 0)), some (.int g), none, none, none] []
  refine hr_iload_n X dX5_usedAnew_0 rfl ?_
  refine hr_callSX X XE kC5_45 dX5_usedAnew_1 (c_X5_checkClass cA (M := M) g) rfl rfl rfl (Nat.le_of_ble_eq_true rfl) ⟨⟨(Nat.le_of_ble_eq_true rfl), (Nat.le_of_ble_eq_true rfl)⟩, (Nat.le_of_ble_eq_true rfl), (Nat.le_of_ble_eq_true rfl)⟩ (Nat.le_of_ble_eq_true rfl) (Nat.le_of_ble_eq_true rfl) (fun _ _ h => ⟨h.1, h.2⟩) (fun v M1 hp1 => ?_)
  obtain ⟨h1, rfl, rfl⟩ := hp1
  refine hr_iconst (0) X dX5_usedAnew_4 (by decide) ?_
  refine hr_istore_n X dX5_usedAnew_5 (Nat.le_of_ble_eq_true rfl) ?_
  refine hr_iconst (0) X dX5_usedAnew_6 (by decide) ?_
  refine hr_istore_n X dX5_usedAnew_7 (Nat.le_of_ble_eq_true rfl) ?_
  have lp8 : ∀ (f : Nat) (n : Nat) (y4 : Option Value), 4 < n + f → n ≤ 4 → hm_W C (0 + r_X5_checkClass.cells) (0 + r_X5_checkClass.slots) (hm_TX C (fun v' M' => sp_in g 0 3 = true ∧ v' = some (.int (sp_used sg g)) ∧ M = M') (fun E M' => sp_in g 0 3 = false ∧ E = "java/lang/IndexOutOfBoundsException" ∧ M = M') r_X5_usedAnew.cells r_X5_usedAnew.slots) M 8 [some (.ref (ad 0 0)), some (.int g), some (.int (sp_is (fun s => cr_sv sg s g + cr_sa sg s g) n)), some (.int (nI n)), y4] [] := by
    intro f
    induction f with
    | zero => intro n y4 h2 h3; exact absurd h2 (by omega)
    | succ f ih =>
      intro n y4 h2 h3
      refine hr_iload_n X dX5_usedAnew_8 rfl ?_
      refine hr_iconst (4) X dX5_usedAnew_9 (by decide) ?_
      refine hr_icmp_ge 48 X dX5_usedAnew_10 (by decide) (fun c10 => ?_) (fun c10 => ?_)
      · have hz : n = 4 := by have := (nI_leI (a := 4) (by decide) (by omega)).mp c10; omega
        subst hz
        refine hr_iload_n X dX5_usedAnew_48 rfl ?_
        exact hr_iretX X dX5_usedAnew_49 (Nat.le_of_ble_eq_true rfl) (Nat.le_of_ble_eq_true rfl) ⟨h1, by rw [sp_used_by], rfl⟩
      · have hn : n < 4 := by
          rcases Nat.lt_or_ge n 4 with q | q
          · exact q
          · exact absurd (nI_le (by omega) (by omega)) c10
        refine hr_aload_n X dX5_usedAnew_13 rfl (Or.inr ⟨_, rfl⟩) ?_
        refine hr_get X kF5_11 dX5_usedAnew_14 hR.c0 rfl ?_
        refine hr_iload_n X dX5_usedAnew_17 rfl ?_
        refine hr_aald 3 X rfl dX5_usedAnew_18 hR.c1 (mm_in rfl (by omega) (by decide)).1 ?_
        rw [nI_clamp (by omega)]
        refine hr_astore X dX5_usedAnew_19 (Nat.le_of_ble_eq_true rfl) (hm_rf _) ?_
        refine hr_aload X dX5_usedAnew_21 rfl (hm_rf _) ?_
        have J42 : ∀ y4 : Option Value, hm_W C (0 + r_X5_checkClass.cells) (0 + r_X5_checkClass.slots) (hm_TX C (fun v' M' => sp_in g 0 3 = true ∧ v' = some (.int (sp_used sg g)) ∧ M = M') (fun E M' => sp_in g 0 3 = false ∧ E = "java/lang/IndexOutOfBoundsException" ∧ M = M') r_X5_usedAnew.cells r_X5_usedAnew.slots) M 42 [some (.ref (ad 0 0)), some (.int g), some (.int (sp_is (fun s => cr_sv sg s g + cr_sa sg s g) (n + 1))), some (.int (nI n)), y4] [] := by
          intro y4
          refine hr_iinc (1) X dX5_usedAnew_42 rfl (by decide) ?_
          refine hr_goto 8 X dX5_usedAnew_45 (by decide) ?_
          rw [nI_1]
          exact ih (n + 1) _ (by omega) (by omega)
        refine hr_ifnull 42 X dX5_usedAnew_23 (by decide) (fun c23 => ?_) (fun a23 c23 => ?_)
        · have hs : cr_isS sg n = false := by
            by_cases q : cr_isS sg n = true
            · rw [if_pos q] at c23; cases c23
            · exact Bool.eq_false_iff.mpr q
          have hz : sp_is (fun s => cr_sv sg s g + cr_sa sg s g) (n + 1) = sp_is (fun s => cr_sv sg s g + cr_sa sg s g) n := sp_is_st (cr_s_none hI hJ hn hs)
          exact hl_loc (by rw [hz] <;> rfl) (J42 _)
        · have hs : cr_isS sg n = true := by
            by_cases q : cr_isS sg n = true
            · exact q
            · rw [if_neg q] at c23; cases c23
          have hz : sp_is (fun s => cr_sv sg s g + cr_sa sg s g) (n + 1) = sp_is (fun s => cr_sv sg s g + cr_sa sg s g) n + (cr_sv sg n g + cr_sa sg n g) := sp_is_up rfl
          rw [if_pos hs]
          refine hr_iload_n X dX5_usedAnew_26 rfl ?_
          refine hr_aload X dX5_usedAnew_27 rfl (hm_rf _) ?_
          refine hr_iload_n X dX5_usedAnew_29 rfl ?_
          refine hr_callV X kC5_265 dX5_usedAnew_30 (c_X3_sizeOfVersions cA hR hI n hs g) (hR.c8 hs) rfl rfl rfl rfl (Nat.le_of_ble_eq_true rfl) ⟨⟨(Nat.le_of_ble_eq_true rfl), (Nat.le_of_ble_eq_true rfl)⟩, (Nat.le_of_ble_eq_true rfl), (Nat.le_of_ble_eq_true rfl)⟩ (fun v M30 hp => ?_)
          obtain ⟨rfl, rfl⟩ := hp
          refine hr_aload X dX5_usedAnew_33 rfl (hm_rf _) ?_
          refine hr_iload_n X dX5_usedAnew_35 rfl ?_
          refine hr_callV X kC5_268 dX5_usedAnew_36 (c_X3_sizeOfAnswers cA hR hI n hs g) (hR.c8 hs) rfl rfl rfl rfl (Nat.le_of_ble_eq_true rfl) ⟨⟨(Nat.le_of_ble_eq_true rfl), (Nat.le_of_ble_eq_true rfl)⟩, (Nat.le_of_ble_eq_true rfl), (Nat.le_of_ble_eq_true rfl)⟩ (fun v M36 hp => ?_)
          obtain ⟨rfl, rfl⟩ := hp
          refine hr_iadd X dX5_usedAnew_39 ?_
          refine hr_iadd X dX5_usedAnew_40 ?_
          refine hr_istore_n X dX5_usedAnew_41 (Nat.le_of_ble_eq_true rfl) ?_
          exact hl_loc (by rw [hz] <;> rfl) (J42 _)
  exact lp8 5 0 _ (by decide) (by decide)
