/-! a call inside a try: the handlers -/
def hm_tb (C : hm_C) : List ExceptionTableEntry := match C with | (_, _, _, _, _, _, _, _, _, c, _, _, _) => c.exceptionTable.toList
def hm_Nc (C : hm_C) (E nm : String) : Prop := match C with | (_, _, _, _, s, _, _, _, _, _, _, _, _) => va_Nc E nm s
def hm_Ca (C : hm_C) (E nm : String) : Prop := match C with | (_, _, _, _, s, _, args, _, _, _, _, _, _) => (Cond.castable E nm).before args s = true
section HRL
variable {C : hm_C} {own : String} {cc : ByteArray} {nL : Nat} {ret : Option FieldType} {nm : String} {rm : Room} {cA : Nat → ClassId} {k n : Nat} {Q : State → Prop} {M : hm_M} {pc : Nat} {L : List (Option Value)} {st st0 : List Value}
variable {y : MethodName} {cc' : ByteArray} {maxL' j idx : Nat} {ret' : Option FieldType} {rm' : Room} {vs : List Value} {post : Option Value → hm_M → Prop} {px : String → hm_M → Prop}
theorem hr_callVC {ci b : Nat} {fs : List Value} {T : u_T} {N : Nat} (X : hm_X C own cc nL ret nm rm cA) (lk : hm_lV own idx y cc' maxL' ret' j) (d : decode cc pc = .ok (.invokevirtual idx, 3)) (hm : hm_XMet cA y cc' maxL' ret' rm' (.ref b :: vs) M post px) (hb0 : M b = some (.inr (ci, fs))) (hci : vwCl[ci]? = some (y.cls, T, N)) (hst : st0 = vs.reverse ++ .ref b :: st) (hn : vs.length = j) (hL : L.length = nL) (hcat : (st.map fun v => v.category).sum ≤ 8) (hf : hm_fit rm rm' maxL' k n)
    (kx : ∀ (E : String) (M' : hm_M) (q : Nat), px E M' → ∃ (pre suf : List ExceptionTableEntry) (x : ExceptionTableEntry) (name : String), hm_tb C = pre ++ x :: suf ∧ (∀ z ∈ pre, covers z pc = false ∨ (z.catchType ≠ 0 ∧ ∃ nm2 : String, Cond.classLink own z.catchType nm2 ∈ hm_tbl ∧ hm_Nc C E nm2)) ∧ covers x pc = true ∧ x.catchType ≠ 0 ∧ Cond.classLink own x.catchType name ∈ hm_tbl ∧ hm_Ca C E name ∧ hm_W C (k + rm'.cells) (n + rm'.slots) Q M' x.handlerPc L [.ref q])
    (kk : ∀ (v : Option Value) (M' : hm_M), post v M' → hm_W C (k + rm'.cells) (n + rm'.slots) Q M' (pc + 3) L (v.toList ++ st)) : hm_W C k n Q M pc L st0 := by
  obtain ⟨p, l, e, R, s, m, args, below, meth, c, D, cA', A⟩ := C
  obtain ⟨hx, hb, hr, hml, hown, hts, hlk, hG, hnm, rfl, rfl, hst'⟩ := X
  obtain ⟨h1, h2, h3, h4, h5, h6⟩ := lk
  subst hst
  intro H locs ls hP hA hS hl
  refine hm_backX (vx_runV (Ts := hm_tbl) (C := y.cls) ⟨hx, hb, hml, hown, hts⟩ (hm l D A hst') (cwV j hts (goodIn_app (fun w hw => ?_) (hm_gw h5)) rfl rfl rfl ⟨rfl, h6⟩ hf.1) ⟨hm_blind, va_recv hG.1 (hm_one hP hb0) (q0 := 0) hci rfl, fun U hU hW => ⟨rfl, by rw [hU]; exact hP, hA, hG.warm hW (by rw [hU]; exact hS)⟩⟩ rfl hn (hl.1.trans hL) rfl (lv_room hcat) d hf.2) hS (fun E ce q9 M' H1 locs1 hp p1 a1 s1 c1 c2 c3 => ?_) (fun v M' H1 locs1 hp p1 a1 s1 => kk v M' hp H1 locs1 ls p1 a1 s1 hl)
  · rcases List.mem_cons.mp hw with rfl | hw
    · exact ⟨h1, hm_gd h1⟩
    rcases List.mem_cons.mp hw with rfl | hw
    · exact ⟨h2, hm_gd h2⟩
    rcases List.mem_cons.mp hw with rfl | hw
    · exact ⟨h3, hm_gd h3⟩
    rcases List.mem_cons.mp hw with rfl | hw
    · exact ⟨h4, hm_gd h4⟩
    · cases hw
  · obtain ⟨pre, suf, x, name, t1, t2, t3, t4, t5, t6, kw⟩ := kx E M' q9 hp
    exact vx_catch hown pre x suf t1 (fun z hz => (t2 z hz).imp id (fun w => ⟨w.1, w.2.imp (fun _ a => ⟨hts _ a.1, a.2⟩)⟩)) t3 t4 (hts _ t5) t6 c1 c2 c3 (kw H1 locs1 ls p1 a1 s1 hl)
end HRL
