/-! the law's own rows: the script, the switch, the helpers' calls; two servers in one memory -/
def hm_Scr (C : hm_C) (sc N : Nat) (xs : Nat → Int32) : Prop := match C with | (_, _, _, _, s, _, _, _, _, _, _, _, A) => va_X sc N xs s s.heap ∧ sc < s.heap.size ∧ ¬ A sc
section HRS
variable {C : hm_C} {own : String} {cc : ByteArray} {nL : Nat} {ret : Option FieldType} {nm : String} {rm : Room} {cA : Nat → ClassId} {k n : Nat} {Q : State → Prop} {M : hm_M} {pc : Nat} {L : List (Option Value)} {st : List Value} {sc N : Nat} {xs : Nat → Int32}
theorem hr_sald {i : Int32} (X : hm_X C own cc nL ret nm rm cA) (S : hm_Scr C sc N xs) (d : decode cc pc = .ok (.iaload, 1)) (hi : vp_in i N) (kk : hm_W C k n Q M (pc + 1) L (.int (xs i.toNatClampNeg) :: st)) : hm_W C k n Q M pc L (.int i :: .ref sc :: st) := by
  obtain ⟨p, l, e, R, s, m, args, below, meth, c, D, cA', A⟩ := C
  obtain ⟨hx, hb, hr, hml, hown, hts, hlk, hG, hnm, rfl, rfl, hst⟩ := X
  exact fun H locs ls hP hA hS hl => va_sld hx hb S.1 S.2.1 S.2.2 hS hi d (kk H locs ls hP hA hS hl)
theorem hr_slen (X : hm_X C own cc nL ret nm rm cA) (S : hm_Scr C sc N xs) (d : decode cc pc = .ok (.arraylength, 1)) (kk : hm_W C k n Q M (pc + 1) L (.int (Int32.ofNat N) :: st)) : hm_W C k n Q M pc L (.ref sc :: st) := by
  obtain ⟨p, l, e, R, s, m, args, below, meth, c, D, cA', A⟩ := C
  obtain ⟨hx, hb, hr, hml, hown, hts, hlk, hG, hnm, rfl, rfl, hst⟩ := X
  exact fun H locs ls hP hA hS hl => va_slen hx hb S.1 S.2.1 S.2.2 hS d (kk H locs ls hP hA hS hl)
theorem hr_tableOut {dflt lo hi : Int} {offs : Array Int} {len : Nat} {x : Int32} (tgt : Nat) (X : hm_X C own cc nL ret nm rm cA) (d : decode cc pc = .ok (.tableswitch dflt lo hi offs, len)) (h : x.toInt < lo ∨ hi < x.toInt) (ht : (pc : Int) + dflt = (tgt : Int)) (kk : hm_W C k n Q M tgt L st) : hm_W C k n Q M pc L (.int x :: st) := by
  obtain ⟨p, l, e, R, s, m, args, below, meth, c, D, cA', A⟩ := C
  obtain ⟨hx, hb, hr, hml, hown, hts, hlk, hG, hnm, rfl, rfl, hst⟩ := X
  exact fun H locs ls hP hA hS hl => lv_tableOut hx hb d h ht (kk H locs ls hP hA hS hl)
theorem hr_tableIn {dflt lo hi : Int} {offs : Array Int} {len : Nat} {x : Int32} {off : Int} (tgt : Nat) (X : hm_X C own cc nL ret nm rm cA) (d : decode cc pc = .ok (.tableswitch dflt lo hi offs, len)) (h1 : ¬ x.toInt < lo) (h2 : ¬ hi < x.toInt) (ho : offs[(x.toInt - lo).toNat]? = some off) (ht : (pc : Int) + off = (tgt : Int)) (kk : hm_W C k n Q M tgt L st) : hm_W C k n Q M pc L (.int x :: st) := by
  obtain ⟨p, l, e, R, s, m, args, below, meth, c, D, cA', A⟩ := C
  obtain ⟨hx, hb, hr, hml, hown, hts, hlk, hG, hnm, rfl, rfl, hst⟩ := X
  exact fun H locs ls hP hA hS hl => lv_tableIn hx hb d h1 h2 ho ht (kk H locs ls hP hA hS hl)
end HRS
/-- a contract of a method that reads the script too -/
def hm_SMet (cA : Nat → ClassId) (y : MethodName) (cc : ByteArray) (maxL : Nat) (ret : Option FieldType) (rm : Room) (vs : List Value) (M : hm_M) (sc N : Nat) (xs : Nat → Int32) (post : Option Value → hm_M → Prop) : Prop :=
  ∀ (l : Launch) (D : va_G) (A : Nat → Prop), l.stackTraces = false → Met l y (hm_ws y cc maxL ret) rm (va_Pc vs (fun U => hm_B D cA A hm_oth hm_strs M U ∧ va_X sc N xs U U.heap ∧ sc < U.heap.size ∧ ¬ A sc)) (hm_Q D A post) rm.cells rm.slots A
theorem hm_blindS {D : va_G} {cA : Nat → ClassId} {A : Nat → Prop} {oth : List Cond} {strs : List (String × Nat × String)} {M : hm_M} {vs : List Value} {sc N : Nat} {xs : Nat → Int32} : FrameBlind (va_Pc vs (fun U => hm_B D cA A oth strs M U ∧ va_X sc N xs U U.heap ∧ sc < U.heap.size ∧ ¬ A sc)) := fun a U g mk h => ⟨h.1, ⟨h.2.1.1, h.2.1.2.1, hm_G.same (u := U) (U := U.calling g mk a) rfl rfl h.2.1.2.2⟩, h.2.2.1, h.2.2.2⟩
theorem hm_smet {cA : Nat → ClassId} {y : MethodName} {cc : ByteArray} {maxL : Nat} {ret : Option FieldType} {rm : Room} {vs : List Value} {M : hm_M} {sc N : Nat} {xs : Nat → Int32} {post : Option Value → hm_M → Prop} (j : Nat) (hy : plainName y.cls = true) (hc : ∀ w ∈ vs, w.category = 1) (hn : vs.length + j = maxL)
    (body : ∀ C : hm_C, hm_X C y.cls cc maxL ret y.name rm cA → hm_Scr C sc N xs → hm_W C 0 0 (hm_T C post rm.cells rm.slots) M 0 (vs.map some ++ List.replicate j none) []) : hm_SMet cA y cc maxL ret rm vs M sc N xs post := by
  intro l D A hst
  refine Met.ofW (cc := cc) (maxL := maxL) (ret := ret) hy rfl ?_
  intro p e s m args below meth c s₁ B hml hv
  obtain ⟨rfl, ⟨hP, hA, hG⟩, hX⟩ := hv
  have hts := atoms_spec (ws := hm_ws y cc maxL ret) B.pre
  have hown : s.vm.findClass y.cls = some m.cls := findClass_of_methodNamed B.named
  have X : hm_X (p, l, e, rm, s, m, vs.toArray, below, meth, c, D, cA, A) y.cls cc maxL ret y.name rm cA := ⟨B.exec, B.bytes, B.returns, hml, hown, fun w h => hts w (List.mem_cons_of_mem _ h), B.notSynchronized, hG, (name_of_methodNamed B.named B.method).1, rfl, rfl, hst⟩
  have hl := lv_entry vs (n := maxL) (by rw [hm_sl vs hc]; omega)
  rw [lg_entry_eq]
  exact body _ X hX s.heap [] _ hP hA va_S.rf (hm_entry hc hn hl)
section HLC
variable {C : hm_C} {own : String} {cc : ByteArray} {nL : Nat} {ret : Option FieldType} {nm : String} {rm : Room} {cA : Nat → ClassId} {k n : Nat} {Q : State → Prop} {M : hm_M} {pc : Nat} {L : List (Option Value)} {st st0 : List Value} {sc N0 : Nat} {xs : Nat → Int32}
variable {y : MethodName} {cc' : ByteArray} {maxL' j idx : Nat} {ret' : Option FieldType} {rm' : Room} {vs : List Value} {post : Option Value → hm_M → Prop} {hh : List (Nat × Nat × Nat × Nat)} {v : Int32} {sg sg' sg2 : mm_S} {N Z : hm_M} {b a : Nat}
theorem hr_callSS (X : hm_X C own cc nL ret nm rm cA) (S : hm_Scr C sc N0 xs) (lk : hm_lS own idx y cc' maxL' ret' j) (d : decode cc pc = .ok (.invokestatic idx, 3)) (hm : hm_SMet cA y cc' maxL' ret' rm' vs M sc N0 xs post) (hst : st0 = vs.reverse ++ st) (hn : vs.length = j) (hL : L.length = nL) (hcat : (st.map fun v => v.category).sum ≤ 8) (hf : hm_fit rm rm' maxL' k n)
    (kk : ∀ (v : Option Value) (M' : hm_M), post v M' → hm_W C (k + rm'.cells) (n + rm'.slots) Q M' (pc + 3) L (v.toList ++ st)) : hm_W C k n Q M pc L st0 := by
  obtain ⟨p, l, e, R, s, m, args, below, meth, c, D, cA', A⟩ := C
  obtain ⟨hx, hb, hr, hml, hown, hts, hlk, hG, hnm, rfl, rfl, hst'⟩ := X
  obtain ⟨h1, h2, h3, h4, h5⟩ := lk
  obtain ⟨s1, s2, s3⟩ := S
  subst hst
  intro H locs ls hP hA hS hl
  refine hm_back (va_runS (Ts := hm_tbl) ⟨hx, hb, hml, hown, hts⟩ (hm l D A hst') (va_cwS j hts (goodIn_app (fun w hw => ?_) (hm_gw h4)) rfl rfl rfl h5 hf.1) ⟨hm_blindS, fun U hU hW => ⟨rfl, ⟨by rw [hU]; exact hP, hA, hG.warm hW (by rw [hU]; exact hS)⟩, by rw [hU]; exact (s1.kept (hS.2.1 sc s2 s3)).moved hW.alike, by rw [hU]; exact Nat.lt_of_lt_of_le s2 hS.1, s3⟩⟩ rfl hn (hl.1.trans hL) rfl (lv_room hcat) d hf.2) hS (fun v M' H1 locs1 hp p1 a1 s1 => kk v M' hp H1 locs1 ls p1 a1 s1 hl)
  rcases List.mem_cons.mp hw with rfl | hw
  · exact ⟨h1, hm_gd h1⟩
  rcases List.mem_cons.mp hw with rfl | hw
  · exact ⟨h2, hm_gd h2⟩
  rcases List.mem_cons.mp hw with rfl | hw
  · exact ⟨h3, hm_gd h3⟩
  · cases hw
/-- a helper is called: its answer, the server as it is then; room rounded up -/
theorem hl_call (X : hm_X C own cc nL ret nm rm cA) (lk : hm_lSH own idx y cc' maxL' (some .int) hh j) (d : decode cc pc = .ok (.invokestatic idx, 3)) (hm : hm_HMet cA y cc' maxL' (some .int) hh rm' vs M (lw_R cA N b v sg')) (hst : st0 = vs.reverse ++ st) (hn : vs.length = j) (hL : L.length = nL) (hcat : (st.map fun v => v.category).sum ≤ 8) (k2 n2 : Nat) (hf : hm_fit rm rm' maxL' k n) (hk : k + rm'.cells ≤ k2) (hn2 : n + rm'.slots ≤ n2)
    (kk : ∀ M' : hm_M, ls_Q cA N b sg' M' → hm_W C k2 n2 Q M' (pc + 3) L (.int v :: st)) : hm_W C k n Q M pc L st0 := by
  refine hr_callSH X lk d hm hst hn hL hcat hf (fun v' M' hp => ?_)
  obtain ⟨rfl, hQ⟩ := hp
  exact hr_widen hk hn2 (kk M' hQ)
theorem hl_callS (X : hm_X C own cc nL ret nm rm cA) (lk : hm_lS own idx y cc' maxL' ret' j) (d : decode cc pc = .ok (.invokestatic idx, 3)) (hm : hm_Met cA y cc' maxL' ret' rm' vs M (lw_R cA N b v sg')) (hst : st0 = vs.reverse ++ st) (hn : vs.length = j) (hL : L.length = nL) (hcat : (st.map fun v => v.category).sum ≤ 8) (k2 n2 : Nat) (hf : hm_fit rm rm' maxL' k n) (hk : k + rm'.cells ≤ k2) (hn2 : n + rm'.slots ≤ n2)
    (kk : ∀ M' : hm_M, ls_Q cA N b sg' M' → hm_W C k2 n2 Q M' (pc + 3) L (.int v :: st)) : hm_W C k n Q M pc L st0 := by
  refine hr_callS X lk d hm hst hn hL hcat hf (fun v' M' hp => ?_)
  obtain ⟨rfl, hQ⟩ := hp
  exact hr_widen hk hn2 (kk M' hQ)
end HLC
/-! two servers in one memory -/
section LT
variable {cA : Nat → ClassId} {sg sg' : mm_S} {a b : Nat} {M N Z : hm_M}
theorem ls_at (h : ls_Q cA N b sg M) {x : Nat} {e : va_E} (hx : N x = some e) : M x = some e := by
  obtain ⟨ta, ad, hR, -, -⟩ := h
  exact hR.2.2 x e hx
def lsN (M N Z : hm_M) : hm_M := fun x => match N x, Z x with
  | some _, none => none
  | _, _ => M x
theorem lsN_1 {x : Nat} {e : va_E} (h1 : N x = some e) (h2 : Z x = none) : lsN M N Z x = none := by unfold lsN; rw [h1, h2]
theorem lsN_2 {x : Nat} (h1 : N x = none) : lsN M N Z x = M x := by unfold lsN; rw [h1]
theorem lsN_3 {x : Nat} {e e2 : va_E} (h1 : N x = some e) (h2 : Z x = some e2) : lsN M N Z x = M x := by unfold lsN; rw [h1, h2]
theorem lsN_le {x : Nat} {e : va_E} (h : lsN M N Z x = some e) : M x = some e := by
  cases h1 : N x with
  | none => rw [lsN_2 h1] at h; exact h
  | some e1 =>
    cases h2 : Z x with
    | none => rw [lsN_1 h1 h2] at h; cases h
    | some e2 => rw [lsN_3 h1 h2] at h; exact h
/-- either of two servers may be taken as the one that is worked with -/
theorem ls_swap (h1 : ls_Q cA N a sg M) (h2 : ls_Q cA Z b sg' N) : ls_Q cA (lsN M N Z) b sg' M ∧ ls_Q cA Z a sg (lsN M N Z) := by
  obtain ⟨ta, ad, hR, hok, ha⟩ := h1
  obtain ⟨tb, bd, hS, hok2, hb⟩ := h2
  refine ⟨⟨tb, bd, ⟨fun q x e he => ?_, hS.2.1, fun x e h => lsN_le h⟩, hok2, hb⟩, ta, ad, ⟨fun q x e he => ?_, hR.2.1, fun x e h => ?_⟩, hok, ha⟩
  · obtain ⟨h3, h4⟩ := hS.1 q x e he
    exact ⟨hR.2.2 _ _ h3, lsN_1 h3 h4⟩
  · obtain ⟨h3, h4⟩ := hR.1 q x e he
    refine ⟨(lsN_2 h4).trans h3, ?_⟩
    cases hz : Z (ad q x) with
    | none => rfl
    | some e2 =>
      have := hS.2.2 _ _ hz
      rw [h4] at this
      cases this
  · have h3 := hS.2.2 _ _ h
    exact (lsN_3 h3 h).trans (hR.2.2 _ _ h3)
/-- two servers, the first at a, the second at b; all else is Z -/
def lt_Q (cA : Nat → ClassId) (Z : hm_M) (a b : Nat) (sg sg' : mm_S) (M : hm_M) : Prop := ∃ N : hm_M, ls_Q cA N a sg M ∧ ls_Q cA Z b sg' N
theorem lt_Q.swap (h : lt_Q cA Z a b sg sg' M) : lt_Q cA Z b a sg' sg M := by
  obtain ⟨N, h1, h2⟩ := h
  exact ⟨_, (ls_swap h1 h2).1, (ls_swap h1 h2).2⟩
theorem lt_Q.at (h : lt_Q cA Z a b sg sg' M) {x : Nat} {e : va_E} (hx : Z x = some e) : M x = some e := by
  obtain ⟨N, h1, h2⟩ := h
  exact ls_at h1 (ls_at h2 hx)
end LT
section HL2
variable {C : hm_C} {own : String} {cc : ByteArray} {nL : Nat} {ret : Option FieldType} {nm : String} {rm : Room} {cA : Nat → ClassId} {k n : Nat} {Q : State → Prop} {M : hm_M} {pc : Nat} {L : List (Option Value)} {st st0 : List Value}
variable {y : MethodName} {cc' : ByteArray} {maxL' j idx : Nat} {ret' : Option FieldType} {rm' : Room} {vs : List Value} {hh : List (Nat × Nat × Nat × Nat)} {v : Int32} {sg sg' sg2 : mm_S} {Z : hm_M} {b a : Nat}
/-- a helper is called with the first of two servers; with the second -/
theorem hl_call1 (X : hm_X C own cc nL ret nm rm cA) (lk : hm_lSH own idx y cc' maxL' (some .int) hh j) (d : decode cc pc = .ok (.invokestatic idx, 3)) (hT : lt_Q cA Z a b sg sg' M) (hm : ∀ N : hm_M, ls_Q cA N a sg M → hm_HMet cA y cc' maxL' (some .int) hh rm' vs M (lw_R cA N a v sg2)) (hst : st0 = vs.reverse ++ st) (hn : vs.length = j) (hL : L.length = nL) (hcat : (st.map fun v => v.category).sum ≤ 8) (k2 n2 : Nat) (hf : hm_fit rm rm' maxL' k n) (hk : k + rm'.cells ≤ k2) (hn2 : n + rm'.slots ≤ n2)
    (kk : ∀ M' : hm_M, lt_Q cA Z a b sg2 sg' M' → hm_W C k2 n2 Q M' (pc + 3) L (.int v :: st)) : hm_W C k n Q M pc L st0 := by
  obtain ⟨N, h1, h2⟩ := hT
  exact hl_call X lk d (hm N h1) hst hn hL hcat k2 n2 hf hk hn2 (fun M' hQ => kk M' ⟨N, hQ, h2⟩)
theorem hl_call2 (X : hm_X C own cc nL ret nm rm cA) (lk : hm_lSH own idx y cc' maxL' (some .int) hh j) (d : decode cc pc = .ok (.invokestatic idx, 3)) (hT : lt_Q cA Z a b sg sg' M) (hm : ∀ N : hm_M, ls_Q cA N b sg' M → hm_HMet cA y cc' maxL' (some .int) hh rm' vs M (lw_R cA N b v sg2)) (hst : st0 = vs.reverse ++ st) (hn : vs.length = j) (hL : L.length = nL) (hcat : (st.map fun v => v.category).sum ≤ 8) (k2 n2 : Nat) (hf : hm_fit rm rm' maxL' k n) (hk : k + rm'.cells ≤ k2) (hn2 : n + rm'.slots ≤ n2)
    (kk : ∀ M' : hm_M, lt_Q cA Z a b sg sg2 M' → hm_W C k2 n2 Q M' (pc + 3) L (.int v :: st)) : hm_W C k n Q M pc L st0 := by
  refine hl_call1 X lk d hT.swap hm hst hn hL hcat k2 n2 hf hk hn2 (fun M' hQ => kk M' hQ.swap)
end HL2
/-! numbers that aren't negative -/
section HLN
variable {C : hm_C} {own : String} {cc : ByteArray} {nL : Nat} {ret : Option FieldType} {nm : String} {rm : Room} {cA : Nat → ClassId} {k n : Nat} {Q : State → Prop} {M : hm_M} {pc : Nat} {L : List (Option Value)} {st : List Value} {a b : Nat}
theorem hl_irem (X : hm_X C own cc nL ret nm rm cA) (d : decode cc pc = .ok (.irem, 1)) (ha : a < 2 ^ 31) (hb : b < 2 ^ 31) (h0 : 0 < b) (kk : hm_W C k n Q M (pc + 1) L (.int (nI (a % b)) :: st)) : hm_W C k n Q M pc L (.int (nI b) :: .int (nI a) :: st) := by
  refine hr_irem X d (nI_ne0 h0 hb) ?_
  rw [mm_remN ha hb (by omega)]
  exact kk
theorem hl_idiv (X : hm_X C own cc nL ret nm rm cA) (d : decode cc pc = .ok (.idiv, 1)) (ha : a < 2 ^ 31) (hb : b < 2 ^ 31) (h0 : 0 < b) (kk : hm_W C k n Q M (pc + 1) L (.int (nI (a / b)) :: st)) : hm_W C k n Q M pc L (.int (nI b) :: .int (nI a) :: st) := by
  refine hr_idiv X d (nI_ne0 h0 hb) ?_
  rw [nI_divN ha hb (by omega)]
  exact kk
theorem hl_iadd (X : hm_X C own cc nL ret nm rm cA) (d : decode cc pc = .ok (.iadd, 1)) (kk : hm_W C k n Q M (pc + 1) L (.int (nI (a + b)) :: st)) : hm_W C k n Q M pc L (.int (nI b) :: .int (nI a) :: st) := by
  refine hr_iadd X d ?_
  rw [nI_add]
  exact kk
theorem hl_imul (X : hm_X C own cc nL ret nm rm cA) (d : decode cc pc = .ok (.imul, 1)) (kk : hm_W C k n Q M (pc + 1) L (.int (nI (a * b)) :: st)) : hm_W C k n Q M pc L (.int (nI b) :: .int (nI a) :: st) := by
  refine hr_imul X d ?_
  rw [nI_mul]
  exact kk
theorem hl_iinc {i : Nat} (X : hm_X C own cc nL ret nm rm cA) (d : decode cc pc = .ok (.iinc i 1, 3)) (h : L[i]? = some (some (.int (nI a)))) (kk : hm_W C k n Q M (pc + 3) (L.set i (some (.int (nI (a + 1))))) st) : hm_W C k n Q M pc L st := by
  refine hr_iinc (nI 1) X d h (by decide) ?_
  rw [nI_add]
  exact kk
theorem hl_iald {N x : Nat} {f : Nat → Int32} (X : hm_X C own cc nL ret nm rm cA) (d : decode cc pc = .ok (.iaload, 1)) (hM : M x = some (cr_iw cA 0 N f)) (ha : a < N) (hN : N < 2 ^ 31) (kk : hm_W C k n Q M (pc + 1) L (.int (f a) :: st)) : hm_W C k n Q M pc L (.int (nI a) :: .ref x :: st) := by
  refine hr_iald X d hM (mm_in rfl ha hN).1 ?_
  rw [nI_clamp (by omega)]
  exact kk
theorem hl_iast {N x : Nat} {f : Nat → Int32} {v : Int32} (X : hm_X C own cc nL ret nm rm cA) (d : decode cc pc = .ok (.iastore, 1)) (hM : M x = some (cr_iw cA 0 N f)) (ha : a < N) (hN : N < 2 ^ 31) (kk : hm_W C k n Q (hm_up M x (cr_iw cA 0 N (upd f a v))) (pc + 1) L st) : hm_W C k n Q M pc L (.int v :: .int (nI a) :: .ref x :: st) := by
  refine hr_iast X d hM (mm_in rfl ha hN).1 ?_
  rw [nI_clamp (by omega)]
  exact kk
end HLN
/-! refused calls -/
section HLR
variable {C : hm_C} {own : String} {cc : ByteArray} {nL : Nat} {ret : Option FieldType} {nm : String} {rm : Room} {cA : Nat → ClassId} {k n : Nat} {Q : State → Prop} {M : hm_M} {pc : Nat} {L : List (Option Value)} {st st0 : List Value}
variable {y : MethodName} {cc' : ByteArray} {maxL' j idx : Nat} {rm' : Room} {vs : List Value} {hh : List (Nat × Nat × Nat × Nat)} {e1 e2 e3 th r : Int32} {sg sgn : mm_S} {N : hm_M} {b : Nat}
theorem hl_rq1 (X : hm_X C own cc nL ret nm rm cA) (lk : hm_lSH own idx y cc' maxL' (some .int) hh j) (d : decode cc pc = .ok (.invokestatic idx, 3)) (hm : hm_HMet cA y cc' maxL' (some .int) hh rm' vs M (lw_R cA N b (lcf e1 e2 e3 th r) sg)) (hth : th = 1) (hst : st0 = vs.reverse ++ st) (hn : vs.length = j) (hL : L.length = nL) (hcat : (st.map fun v => v.category).sum ≤ 8) (k2 n2 : Nat) (hf : hm_fit rm rm' maxL' k n) (hk : k + rm'.cells ≤ k2) (hn2 : n + rm'.slots ≤ n2)
    (kk : ∀ M' : hm_M, ls_Q cA N b sg M' → hm_W C k2 n2 Q M' (pc + 3) L (.int e1 :: st)) : hm_W C k n Q M pc L st0 := by
  rw [lcf_1 hth] at hm
  exact hl_call X lk d hm hst hn hL hcat k2 n2 hf hk hn2 kk
theorem hl_rq0 (X : hm_X C own cc nL ret nm rm cA) (lk : hm_lSH own idx y cc' maxL' (some .int) hh j) (d : decode cc pc = .ok (.invokestatic idx, 3)) (hm : hm_HMet cA y cc' maxL' (some .int) hh rm' vs M (lw_R cA N b (lcf e1 e2 e3 th r) sg)) (hth : th = 0) (hst : st0 = vs.reverse ++ st) (hn : vs.length = j) (hL : L.length = nL) (hcat : (st.map fun v => v.category).sum ≤ 8) (k2 n2 : Nat) (hf : hm_fit rm rm' maxL' k n) (hk : k + rm'.cells ≤ k2) (hn2 : n + rm'.slots ≤ n2)
    (kk : ∀ M' : hm_M, ls_Q cA N b sg M' → hm_W C k2 n2 Q M' (pc + 3) L (.int r :: st)) : hm_W C k n Q M pc L st0 := by
  rw [lcf_0 hth] at hm
  exact hl_call X lk d hm hst hn hL hcat k2 n2 hf hk hn2 kk
theorem hl_rs0 (X : hm_X C own cc nL ret nm rm cA) (lk : hm_lSH own idx y cc' maxL' (some .int) hh j) (d : decode cc pc = .ok (.invokestatic idx, 3)) (hm : hm_HMet cA y cc' maxL' (some .int) hh rm' vs M (lw_R cA N b (lcf e1 e2 e3 th r) (if th = 0 then sgn else sg))) (hth : th = 0) (hst : st0 = vs.reverse ++ st) (hn : vs.length = j) (hL : L.length = nL) (hcat : (st.map fun v => v.category).sum ≤ 8) (k2 n2 : Nat) (hf : hm_fit rm rm' maxL' k n) (hk : k + rm'.cells ≤ k2) (hn2 : n + rm'.slots ≤ n2)
    (kk : ∀ M' : hm_M, ls_Q cA N b sgn M' → hm_W C k2 n2 Q M' (pc + 3) L (.int r :: st)) : hm_W C k n Q M pc L st0 := by
  rw [lcf_0 hth, if_pos hth] at hm
  exact hl_call X lk d hm hst hn hL hcat k2 n2 hf hk hn2 kk
theorem hl_rs1 (X : hm_X C own cc nL ret nm rm cA) (lk : hm_lSH own idx y cc' maxL' (some .int) hh j) (d : decode cc pc = .ok (.invokestatic idx, 3)) (hm : hm_HMet cA y cc' maxL' (some .int) hh rm' vs M (lw_R cA N b (lcf e1 e2 e3 th r) (if th = 0 then sgn else sg))) (hth : th = 1) (hst : st0 = vs.reverse ++ st) (hn : vs.length = j) (hL : L.length = nL) (hcat : (st.map fun v => v.category).sum ≤ 8) (k2 n2 : Nat) (hf : hm_fit rm rm' maxL' k n) (hk : k + rm'.cells ≤ k2) (hn2 : n + rm'.slots ≤ n2)
    (kk : ∀ M' : hm_M, ls_Q cA N b sg M' → hm_W C k2 n2 Q M' (pc + 3) L (.int e1 :: st)) : hm_W C k n Q M pc L st0 := by
  rw [lcf_1 hth, if_neg (by rw [hth]; decide)] at hm
  exact hl_call X lk d hm hst hn hL hcat k2 n2 hf hk hn2 kk
theorem hl_rs2 (X : hm_X C own cc nL ret nm rm cA) (lk : hm_lSH own idx y cc' maxL' (some .int) hh j) (d : decode cc pc = .ok (.invokestatic idx, 3)) (hm : hm_HMet cA y cc' maxL' (some .int) hh rm' vs M (lw_R cA N b (lcf e1 e2 e3 th r) (if th = 0 then sgn else sg))) (hth : th = 2) (hst : st0 = vs.reverse ++ st) (hn : vs.length = j) (hL : L.length = nL) (hcat : (st.map fun v => v.category).sum ≤ 8) (k2 n2 : Nat) (hf : hm_fit rm rm' maxL' k n) (hk : k + rm'.cells ≤ k2) (hn2 : n + rm'.slots ≤ n2)
    (kk : ∀ M' : hm_M, ls_Q cA N b sg M' → hm_W C k2 n2 Q M' (pc + 3) L (.int e2 :: st)) : hm_W C k n Q M pc L st0 := by
  rw [lcf_2 hth, if_neg (by rw [hth]; decide)] at hm
  exact hl_call X lk d hm hst hn hL hcat k2 n2 hf hk hn2 kk
theorem hl_rs3 (X : hm_X C own cc nL ret nm rm cA) (lk : hm_lSH own idx y cc' maxL' (some .int) hh j) (d : decode cc pc = .ok (.invokestatic idx, 3)) (hm : hm_HMet cA y cc' maxL' (some .int) hh rm' vs M (lw_R cA N b (lcf e1 e2 e3 th r) (if th = 0 then sgn else sg))) (hth : th = 3) (hst : st0 = vs.reverse ++ st) (hn : vs.length = j) (hL : L.length = nL) (hcat : (st.map fun v => v.category).sum ≤ 8) (k2 n2 : Nat) (hf : hm_fit rm rm' maxL' k n) (hk : k + rm'.cells ≤ k2) (hn2 : n + rm'.slots ≤ n2)
    (kk : ∀ M' : hm_M, ls_Q cA N b sg M' → hm_W C k2 n2 Q M' (pc + 3) L (.int e3 :: st)) : hm_W C k n Q M pc L st0 := by
  rw [lcf_3 hth, if_neg (by rw [hth]; decide)] at hm
  exact hl_call X lk d hm hst hn hL hcat k2 n2 hf hk hn2 kk
end HLR
/-! a loop that counts up -/
theorem hl_for {C : hm_C} {Q : State → Prop} {pc : Nat} {L : Nat → List (Option Value)} {I : Nat → hm_M → Prop} (n c s K0 S0 : Nat)
    (step : ∀ (i : Nat) (M : hm_M) (kr sr : Nat), i < n → I i M → kr + c ≤ K0 + c * n → sr + s ≤ S0 + s * n → (∀ M' : hm_M, I (i + 1) M' → hm_W C (kr + c) (sr + s) Q M' pc (L (i + 1)) []) → hm_W C kr sr Q M pc (L i) [])
    (fin : ∀ M : hm_M, I n M → hm_W C (K0 + c * n) (S0 + s * n) Q M pc (L n) []) {M : hm_M} (hM : I 0 M) : hm_W C K0 S0 Q M pc (L 0) [] := by
  have key : ∀ (d i : Nat) (M : hm_M) (kr sr : Nat), i + d = n → I i M → kr + c * d ≤ K0 + c * n → sr + s * d ≤ S0 + s * n → hm_W C kr sr Q M pc (L i) [] := by
    intro d
    induction d with
    | zero =>
      intro i M kr sr hi h hk hs
      have e : i = n := hi
      subst e
      exact hr_widen hk hs (fin M h)
    | succ d ih =>
      intro i M kr sr hi h hk hs
      rw [Nat.mul_succ] at hk hs
      exact step i M kr sr (by omega) h (by omega) (by omega) (fun M' h' => ih (i + 1) M' (kr + c) (sr + s) (by omega) h' (by omega) (by omega))
  exact key n 0 M K0 S0 (Nat.zero_add n) hM (Nat.le_refl _) (Nat.le_refl _)
