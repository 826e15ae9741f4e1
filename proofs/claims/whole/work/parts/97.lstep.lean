/-! the law's own rows: the script, the switch, an argument taken from the script, the end of a case -/
def hm_Scr (C : hm_C) (sc N : Nat) (xs : Nat → Int32) : Prop := match C with | (_, _, _, _, s, _, _, _, _, _, _, _, A) => va_X sc N xs s s.heap ∧ sc < s.heap.size ∧ ¬ A sc
section HRS
variable {C : hm_C} {own : String} {cc : ByteArray} {nL : Nat} {ret : Option FieldType} {nm : String} {rm : Room} {cA : Nat → ClassId} {k n : Nat} {Q : State → Prop} {M : hm_M} {pc : Nat} {L : List (Option Value)} {st : List Value} {sc N : Nat} {xs : Nat → Int32}
theorem hr_sald {i : Int32} (X : hm_X C own cc nL ret nm rm cA) (S : hm_Scr C sc N xs) (d : decode cc pc = .ok (.iaload, 1)) (hi : vp_in i N) (kk : hm_W C k n Q M (pc + 1) L (.int (xs i.toNatClampNeg) :: st)) : hm_W C k n Q M pc L (.int i :: .ref sc :: st) := by
  obtain ⟨p, l, e, R, s, m, args, below, meth, c, D, cA', A⟩ := C
  obtain ⟨hx, hb, hr, hml, hown, hts, hlk, hG, hnm, rfl, rfl, hst⟩ := X
  exact fun H locs ls hP hA hS hl => va_sld hx hb S.1 S.2.1 S.2.2 hS hi d (kk H locs ls hP hA hS hl)
theorem hr_slen (X : hm_X C own cc nL ret nm rm cA) (S : hm_Scr C sc N xs) (d : decode cc pc = .ok (.arraylength, 1)) (kk : hm_W C k n Q M (pc + 1) L (.int (Int32.ofNat N) :: st)) : hm_W C k n Q M pc L (.ref sc :: st) := by
  obtain ⟨p, l, e, R, s, m, args, below, meth, c, D, cA', A⟩ := C
  obtain ⟨hx, hb, hr, hml, hown, hts, hlk, hG, hnm, rfl, rfl, hst⟩ := X
  exact fun H locs ls hP hA hS hl => va_slen hx hb S.1 S.2.1 S.2.2 hS d (kk H locs ls hP hA hS hl)
theorem hr_tableOut {dflt lo hi : Int} {offs : Array Int} {len : Nat} {x : Int32} (tgt : Nat) (X : hm_X C own cc nL ret nm rm cA) (d : decode cc pc = .ok (.tableswitch dflt lo hi offs, len)) (h : x.toInt < lo ∨ hi < x.toInt) (ht : (pc : Int) + dflt = (tgt : Int)) (kk : hm_W C k n Q M tgt L st) : hm_W C k n Q M pc L (.int x :: st) := by
  obtain ⟨p, l, e, R, s, m, args, below, meth, c, D, cA', A⟩ := C
  obtain ⟨hx, hb, hr, hml, hown, hts, hlk, hG, hnm, rfl, rfl, hst⟩ := X
  exact fun H locs ls hP hA hS hl => lv_tableOut hx hb d h ht (kk H locs ls hP hA hS hl)
theorem hr_tableIn {dflt lo hi : Int} {offs : Array Int} {len : Nat} {x : Int32} {off : Int} (tgt : Nat) (X : hm_X C own cc nL ret nm rm cA) (d : decode cc pc = .ok (.tableswitch dflt lo hi offs, len)) (h1 : ¬ x.toInt < lo) (h2 : ¬ hi < x.toInt) (ho : offs[(x.toInt - lo).toNat]? = some off) (ht : (pc : Int) + off = (tgt : Int)) (kk : hm_W C k n Q M tgt L st) : hm_W C k n Q M pc L (.int x :: st) := by
  obtain ⟨p, l, e, R, s, m, args, below, meth, c, D, cA', A⟩ := C
  obtain ⟨hx, hb, hr, hml, hown, hts, hlk, hG, hnm, rfl, rfl, hst⟩ := X
  exact fun H locs ls hP hA hS hl => lv_tableIn hx hb d h1 h2 ho ht (kk H locs ls hP hA hS hl)
/-- script[i + j] is laid on the stack -/
theorem lr_arg {i : Nat} (j : Nat) {z : Int} (X : hm_X C own cc nL ret nm rm cA) (S : hm_Scr C sc N xs) (h0 : L[0]? = some (some (.ref sc))) (h4 : L[4]? = some (some (.int (nI i)))) (hz : Int32.ofInt z = nI j) (hi : i + j < N) (hN : N < 4096) (d0 : decode cc pc = .ok (.aload_n 0, 1)) (d1 : decode cc (pc + 1) = .ok (.iload 4, 2)) (d2 : decode cc (pc + 3) = .ok (.iconst z, 1)) (d3 : decode cc (pc + 4) = .ok (.iadd, 1)) (d4 : decode cc (pc + 5) = .ok (.iaload, 1))
    (kk : hm_W C k n Q M (pc + 6) L (.int (xs (i + j)) :: st)) : hm_W C k n Q M pc L st := by
  refine hr_aload_n X d0 h0 (Or.inr ⟨_, rfl⟩) ?_
  refine hr_iload X d1 h4 ?_
  refine hr_iconst (nI j) X d2 hz ?_
  refine hr_iadd X d3 ?_
  have e : nI i + nI j = nI (i + j) := nI_add i j
  rw [e]
  refine hr_sald X S d4 (mm_in rfl hi (by omega)).1 ?_
  rw [nI_clamp (by omega)]
  exact kk
theorem lr_arg6 {i : Nat} (j : Nat) {z : Int} (X : hm_X C own cc nL ret nm rm cA) (S : hm_Scr C sc N xs) (h0 : L[0]? = some (some (.ref sc))) (h4 : L[4]? = some (some (.int (nI i)))) (hz : (Int8.ofInt z).toInt32 = nI j) (hi : i + j < N) (hN : N < 4096) (d0 : decode cc pc = .ok (.aload_n 0, 1)) (d1 : decode cc (pc + 1) = .ok (.iload 4, 2)) (d2 : decode cc (pc + 3) = .ok (.bipush z, 2)) (d3 : decode cc (pc + 5) = .ok (.iadd, 1)) (d4 : decode cc (pc + 6) = .ok (.iaload, 1))
    (kk : hm_W C k n Q M (pc + 7) L (.int (xs (i + j)) :: st)) : hm_W C k n Q M pc L st := by
  refine hr_aload_n X d0 h0 (Or.inr ⟨_, rfl⟩) ?_
  refine hr_iload X d1 h4 ?_
  refine hr_bipush (nI j) X d2 hz ?_
  refine hr_iadd X d3 ?_
  have e : nI i + nI j = nI (i + j) := nI_add i j
  rw [e]
  refine hr_sald X S d4 (mm_in rfl hi (by omega)).1 ?_
  rw [nI_clamp (by omega)]
  exact kk
theorem lg_cmp_same (x : Int64) : lg_cmp x x = 0 := (lg_cmp_eq x x).mpr rfl
/-- the end of a case: what was thrown is compared; the answers are, where nothing was -/
theorem lr_tail {p b o mo : Nat} {i th x : Int32} {sg ta : mm_S} {ad : Nat → Nat} {M1 : hm_M} {f : Nat → Int64} {off : Int} (X : hm_X C RL cc nL ret nm rm cA)
    (d0 : decode cc p = .ok (.aload_n 2, 1)) (d1 : decode cc (p + 1) = .ok (.invokevirtual 134, 3)) (d2 : decode cc (p + 4) = .ok (.iload 5, 2)) (d3 : decode cc (p + 6) = .ok (.if_icmp .eq 5, 3)) (d4 : decode cc (p + 11) = .ok (.iload 5, 2)) (d5 : decode cc (p + 13) = .ok (.ifCond .ne 15, 3)) (d6 : decode cc (p + 16) = .ok (.aload_n 3, 1)) (d7 : decode cc (p + 17) = .ok (.iconst 0, 1)) (d8 : decode cc (p + 18) = .ok (.laload, 1)) (d9 : decode cc (p + 19) = .ok (.iload 6, 2)) (d10 : decode cc (p + 21) = .ok (.i2l, 1)) (d11 : decode cc (p + 22) = .ok (.lcmp, 1)) (d12 : decode cc (p + 23) = .ok (.ifCond .eq 5, 3)) (d13 : decode cc (p + 28) = .ok (.goto off, 3)) (ht : ((p + 28 : Nat) : Int) + off = (2727 : Int))
    (hR : mm_R cA sg ta ad mo M1 M) (hth : ta 0 0 = th) (ho : M o = some (lw_o cA f)) (hx : th = 0 → f 0 = x.toInt64) (hL : 7 = nL) (hf : hm_fit rm r_X6_thrown 1 k n)
    (kk : hm_W C k n Q M 2727 [some (.ref sc), some (.ref b), some (.ref mo), some (.ref o), some (.int i), some (.int th), some (.int x)] []) : hm_W C k n Q M p [some (.ref sc), some (.ref b), some (.ref mo), some (.ref o), some (.int i), some (.int th), some (.int x)] [] := by
  refine hr_aload_n X d0 rfl (Or.inr ⟨_, rfl⟩) ?_
  refine hr_callV X kCL_134 d1 (c_X6_thrown cA hR) hR.1 rfl rfl rfl hL (Nat.le_of_ble_eq_true rfl) hf (fun v M2 hp => ?_)
  obtain ⟨rfl, rfl⟩ := hp
  refine hr_iload X d2 rfl ?_
  refine hr_icmp_eq (p + 11) X d3 (by omega) (fun _ => ?_) (fun c => absurd hth c)
  refine hr_iload X d4 rfl ?_
  refine hr_if_ne (p + 28) X d5 (by omega) (fun c => ?_) (fun c => ?_)
  · exact hr_goto 2727 X d13 ht kk
  · refine hr_aload_n X d6 rfl (Or.inr ⟨_, rfl⟩) ?_
    refine hr_iconst 0 X d7 (by decide) ?_
    refine hr_lald X d8 ho (mm_in (show (0 : Int32) = nI 0 from rfl) (by decide) (by decide)).1 ?_
    refine hr_iload X d9 rfl ?_
    refine hr_i2l X d10 ?_
    refine hr_lcmp X d11 ?_
    rw [show f (0 : Int32).toNatClampNeg = x.toInt64 from hx c, lg_cmp_same]
    refine hr_if_eq (p + 28) X d12 (by omega) (fun _ => ?_) (fun c => absurd rfl c)
    exact hr_goto 2727 X d13 ht kk
end HRS
/-! the state of the law's loop -/
section LJ
variable {cA : Nat → ClassId} {sg sg' ta ta' : mm_S} {ad : Nat → Nat} {mo b o : Nat} {M0 M1 M2 M : hm_M} {f f1 : Nat → Int64}
def lw_J (cA : Nat → ClassId) (b o mo : Nat) (ad : Nat → Nat) (sg : mm_S) (f : Nat → Int64) (M : hm_M) : Prop := sp_I sg ∧ sp_J sg ∧ ∃ (M0 : hm_M) (ta : mm_S), mm_R cA sg ta ad mo M0 M0 ∧ M0 o = some (lw_o cA f) ∧ ls_Q cA M0 b sg M
theorem lw_om (hM : mm_R cA sg ta ad mo M0 M) (ho : M o = some (lw_o cA f)) : o ≠ mo := fun e => by
  rw [e, hM.1] at ho
  cases ho
theorem lw_oa (hM : mm_R cA sg ta ad mo M0 M) (ho : M o = some (lw_o cA f)) {j : Nat} (hj : mm_ar j = true) : o ≠ ad j := fun e => by
  rw [e, hM.2.1 j hj] at ho
  have := Option.some.inj ho
  unfold lw_o at this
  have h2 := (Prod.mk.inj (Prod.mk.inj (Sum.inl.inj this)).2).2
  cases h2
theorem lw_sub (h : ls_Q cA M0 b sg M) {a : Nat} {e : va_E} (ha : M0 a = some e) : M a = some e := by
  obtain ⟨ta, ad, hR, -, -⟩ := h
  exact hR.2.2 a e ha
/-- the reference is seen in the whole memory too -/
theorem lw_mm (hM : mm_R cA sg ta ad mo M0 M0) (ho : M0 o = some (lw_o cA f)) (hQ : ls_Q cA (hm_up M0 o (lw_o cA f1)) b sg' M1) : mm_R cA sg ta ad mo M1 M1 ∧ M1 o = some (lw_o cA f1) := by
  refine ⟨⟨lw_sub hQ ((hm_up_n (lw_om hM ho).symm).trans hM.1), fun j hj => lw_sub hQ ((hm_up_n (lw_oa hM ho hj).symm).trans (hM.2.1 j hj)), hM.2.2.1, fun _ _ _ => rfl⟩, lw_sub hQ hm_up_s⟩
/-- behind the reference's own call: the state of the loop again -/
theorem lw_ref (hI : sp_I sg') (hJ : sp_J sg') (hM : mm_R cA sg ta ad mo M0 M0) (ho : M0 o = some (lw_o cA f)) (hQ : ls_Q cA (hm_up M0 o (lw_o cA f1)) b sg' M1) (h2 : mm_R cA sg' ta' ad mo M1 M2) : lw_J cA b o mo ad sg' f1 M2 ∧ M2 o = some (lw_o cA f1) := by
  obtain ⟨hM1, ho1⟩ := lw_mm hM ho hQ
  have hom := lw_om hM1 ho1
  have hoa : ∀ j, mm_ar j = true → o ≠ ad j := fun j hj => lw_oa hM1 ho1 hj
  have ho2 : M2 o = some (lw_o cA f1) := (h2.2.2.2 o hom hoa).trans ho1
  refine ⟨⟨hI, hJ, fun a => match hm_up M0 o (lw_o cA f1) a with | none => none | some _ => M2 a, ta', ⟨?_, fun j hj => ?_, h2.2.2.1, fun _ _ _ => rfl⟩, ?_, ?_⟩, ho2⟩
  · dsimp only
    rw [hm_up_n hom.symm, hM.1]
    exact h2.1
  · dsimp only
    rw [hm_up_n (hoa j hj).symm, hM.2.1 j hj]
    exact h2.2.1 j hj
  · dsimp only
    rw [hm_up_s]
    exact ho2
  · obtain ⟨ta5, ad5, hR, hok, hb⟩ := hQ
    refine ⟨ta5, ad5, ⟨fun q x e he => ?_, hR.2.1, fun a e ha => ?_⟩, hok, hb⟩
    · obtain ⟨h3, h4⟩ := hR.1 q x e he
      refine ⟨?_, by dsimp only; rw [h4]⟩
      rw [h2.2.2.2 _ (fun z => ?_) (fun j hj z => ?_), h3]
      · rw [z, hm_up_n hom.symm, hM.1] at h4
        cases h4
      · rw [z, hm_up_n (hoa j hj).symm, hM.2.1 j hj] at h4
        cases h4
    · dsimp only at ha
      cases z : hm_up M0 o (lw_o cA f1) a with
      | none => rw [z] at ha; cases ha
      | some e0 => rw [z] at ha; exact ha
theorem lw_ij {th : Int32} {sgn : mm_S} (hI : sp_I sg) (hJ : sp_J sg) (h : th = 0 → sp_I sgn ∧ sp_J sgn) : sp_I (if th = 0 then sgn else sg) ∧ sp_J (if th = 0 then sgn else sg) := by
  by_cases z : th = 0
  · rw [if_pos z]; exact h z
  · rw [if_neg z]; exact ⟨hI, hJ⟩
theorem lw_addE : (if sg 1 0 = 4 then sg else sp_addS sg) = (if sp_w (!decide (sg 1 0 = 4)) = 0 then sp_addS sg else sg) := by
  by_cases z : sg 1 0 = 4
  · rw [if_pos z, decide_eq_true z, if_neg (by decide)]
  · rw [if_neg z, decide_eq_false z, if_pos (by decide)]
end LJ
