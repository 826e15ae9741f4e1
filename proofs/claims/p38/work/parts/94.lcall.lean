/-! the law's helper methods: their links, their handlers, what they rest on -/
set_option maxRecDepth 20000 in
theorem kXL_13 : Cond.classLink RL 13 "java/lang/IllegalStateException" ∈ hm_tbl := (hm_in 75 (by decide +kernel) (by decide +kernel))
set_option maxRecDepth 20000 in
theorem kXL_20 : Cond.classLink RL 20 "java/lang/IndexOutOfBoundsException" ∈ hm_tbl := (hm_in 222 (by decide +kernel) (by decide +kernel))
set_option maxRecDepth 20000 in
theorem kXL_23 : Cond.classLink RL 23 "java/lang/IllegalArgumentException" ∈ hm_tbl := (hm_in 223 (by decide +kernel) (by decide +kernel))
def hm_lSH (own : String) (idx : Nat) (y : MethodName) (cc : ByteArray) (maxL : Nat) (ret : Option FieldType) (hh : List (Nat × Nat × Nat × Nat)) (n : Nat) : Prop := Cond.methodLink own idx y ∈ hm_tbl ∧ Cond.static y ∈ hm_tbl ∧ Cond.initialized y.cls ∈ hm_tbl ∧ Cond.codeWith y cc maxL ret hh ∈ hm_tbl ∧ hm_dk y n
theorem hm_gwH {y : MethodName} {cc : ByteArray} {maxL : Nat} {ret : Option FieldType} {hh : List (Nat × Nat × Nat × Nat)} (h : Cond.codeWith y cc maxL ret hh ∈ hm_tbl) : GoodIn hm_tbl (hm_wsH y cc maxL ret hh) := by
  intro w hw
  rcases List.mem_cons.mp hw with rfl | hw
  · exact ⟨h, hm_gd h⟩
  · exact ⟨hw, hm_gd hw⟩
section HRH
variable {C : hm_C} {own : String} {cc : ByteArray} {nL : Nat} {ret : Option FieldType} {nm : String} {rm : Room} {cA : Nat → ClassId} {k n : Nat} {Q : State → Prop} {M : hm_M} {pc : Nat} {L : List (Option Value)} {st st0 : List Value}
variable {y : MethodName} {cc' : ByteArray} {maxL' j idx : Nat} {ret' : Option FieldType} {rm' : Room} {vs : List Value} {post : Option Value → hm_M → Prop} {hh : List (Nat × Nat × Nat × Nat)}
theorem hr_callSH (X : hm_X C own cc nL ret nm rm cA) (lk : hm_lSH own idx y cc' maxL' ret' hh j) (d : decode cc pc = .ok (.invokestatic idx, 3)) (hm : hm_HMet cA y cc' maxL' ret' hh rm' vs M post) (hst : st0 = vs.reverse ++ st) (hn : vs.length = j) (hL : L.length = nL) (hcat : (st.map fun v => v.category).sum ≤ 8) (hf : hm_fit rm rm' maxL' k n)
    (kk : ∀ (v : Option Value) (M' : hm_M), post v M' → hm_W C (k + rm'.cells) (n + rm'.slots) Q M' (pc + 3) L (v.toList ++ st)) : hm_W C k n Q M pc L st0 := by
  obtain ⟨p, l, e, R, s, m, args, below, meth, c, D, cA', A⟩ := C
  obtain ⟨hx, hb, hr, hml, hown, hts, hlk, hG, hnm, rfl, rfl, hst'⟩ := X
  obtain ⟨h1, h2, h3, h4, h5⟩ := lk
  subst hst
  intro H locs ls hP hA hS hl
  refine hm_backX (vx_runSX (Ts := hm_tbl) ⟨hx, hb, hml, hown, hts⟩ (hm l D A hst') (vx_cwSW j hts (goodIn_app (fun w hw => ?_) (hm_gwH h4)) rfl rfl rfl h5 hf.1) ⟨hm_blind, fun U hU hW => ⟨rfl, by rw [hU]; exact hP, hA, hG.warm hW (by rw [hU]; exact hS)⟩⟩ rfl hn (hl.1.trans hL) rfl (lv_room hcat) d hf.2) hS (fun E ce q9 M' H1 locs1 hp p1 a1 s1 c1 c2 c3 => hp.elim) (fun v M' H1 locs1 hp p1 a1 s1 => kk v M' hp H1 locs1 ls p1 a1 s1 hl)
  rcases List.mem_cons.mp hw with rfl | hw
  · exact ⟨h1, hm_gd h1⟩
  rcases List.mem_cons.mp hw with rfl | hw
  · exact ⟨h2, hm_gd h2⟩
  rcases List.mem_cons.mp hw with rfl | hw
  · exact ⟨h3, hm_gd h3⟩
  · cases hw
theorem hm_nc (X : hm_X C own cc nL ret nm rm cA) {E T : String} (h : Cond.not (.castable E T) ∈ hm_oth) : hm_Nc C E T := by
  obtain ⟨p, l, e, R, s, m, args, below, meth, c, D, cA', A⟩ := C
  obtain ⟨hx, hb, hr, hml, hown, hts, hlk, hG, hnm, rfl, rfl, hst'⟩ := X
  exact va_Nc.of (args := #[]) (hG.2.2.1 _ h).2
theorem hm_ca (X : hm_X C own cc nL ret nm rm cA) {E T : String} (h : Cond.castable E T ∈ hm_oth) : hm_Ca C E T := by
  obtain ⟨p, l, e, R, s, m, args, below, meth, c, D, cA', A⟩ := C
  obtain ⟨hx, hb, hr, hml, hown, hts, hlk, hG, hnm, rfl, rfl, hst'⟩ := X
  exact va_Nw.use rfl (hG.2.2.1 _ h).2
/-- the handler that takes it: the row x of the table, those ahead of it don't -/
theorem lh_at (X : hm_X C RL cc nL ret nm rm cA) (hC : hm_tb C = tableOf hh) {E : String} {q : Nat} (a : List (Nat × Nat × Nat × Nat)) (x : Nat × Nat × Nat × Nat) (b : List (Nat × Nat × Nat × Nat)) (hs : hh = a ++ x :: b) (ha : ∀ z ∈ a, z.2.2.2 ≠ 0 ∧ ∃ nm2 : String, Cond.classLink RL z.2.2.2 nm2 ∈ hm_tbl ∧ Cond.not (.castable E nm2) ∈ hm_oth) (hx : x.1 ≤ pc ∧ pc < x.2.1) (h0 : x.2.2.2 ≠ 0) (hl : Cond.classLink RL x.2.2.2 E ∈ hm_tbl) (hE : Cond.castable E E ∈ hm_oth) (kw : hm_W C k n Q M x.2.2.1 L [.ref q]) :
    ∃ (pre suf : List ExceptionTableEntry) (x9 : ExceptionTableEntry) (name : String), hm_tb C = pre ++ x9 :: suf ∧ (∀ z ∈ pre, covers z pc = false ∨ (z.catchType ≠ 0 ∧ ∃ nm2 : String, Cond.classLink RL z.catchType nm2 ∈ hm_tbl ∧ hm_Nc C E nm2)) ∧ covers x9 pc = true ∧ x9.catchType ≠ 0 ∧ Cond.classLink RL x9.catchType name ∈ hm_tbl ∧ hm_Ca C E name ∧ hm_W C k n Q M x9.handlerPc L [.ref q] := by
  refine ⟨tableOf a, tableOf b, ⟨x.1, x.2.1, x.2.2.1, x.2.2.2⟩, E, ?_, fun z hz => ?_, ?_, h0, hl, hm_ca X hE, kw⟩
  · rw [hC, hs]
    simp [tableOf]
  · obtain ⟨w, hw, rfl⟩ := List.mem_map.mp hz
    obtain ⟨h1, nm2, h2, h3⟩ := ha w hw
    exact Or.inr ⟨h1, nm2, h2, hm_nc X h3⟩
  · simp [covers, hx.1, hx.2]
end HRH
/-- the system with the words sg, rooted at b, in the memory M, all else as in M0 -/
def ls_Q (cA : Nat → ClassId) (M0 : hm_M) (b : Nat) (sg : mm_S) (M : hm_M) : Prop := ∃ (ta : mm_S) (ad : Nat → Nat → Nat), cr_R cA sg ta ad M0 M ∧ cr_ok sg ta ∧ ad 0 0 = b
