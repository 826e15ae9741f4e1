/-! a method from its entry; calls; throws; what is made -/
theorem hm_sl : ∀ (vs : List Value), (∀ w ∈ vs, w.category = 1) → (lg_sl vs).length = vs.length
  | [], _ => rfl
  | v :: vs, h => by
    have h2 : ¬ v.category = 2 := by rw [h v List.mem_cons_self]; decide
    have ih := hm_sl vs (fun w hw => h w (List.mem_cons_of_mem _ hw))
    unfold lg_sl at ih ⊢
    rw [List.flatMap_cons, if_neg h2, List.length_append, ih]
    simp [Nat.add_comm]
theorem hm_met {cA : Nat → ClassId} {y : MethodName} {cc : ByteArray} {maxL : Nat} {ret : Option FieldType} {rm : Room} {vs : List Value} {M : hm_M} {post : Option Value → hm_M → Prop} (j : Nat) (hy : plainName y.cls = true) (hc : ∀ w ∈ vs, w.category = 1) (hn : vs.length + j = maxL)
    (body : ∀ C : hm_C, hm_X C y.cls cc maxL ret y.name rm cA → hm_W C 0 0 (hm_T C post rm.cells rm.slots) M 0 (vs.map some ++ List.replicate j none) []) : hm_Met cA y cc maxL ret rm vs M post := by
  intro l D A hst
  refine Met.ofW (cc := cc) (maxL := maxL) (ret := ret) hy rfl ?_
  intro p e s m args below meth c s₁ B hml hv
  obtain ⟨rfl, hP, hA, hG⟩ := hv
  have hts := atoms_spec (ws := hm_ws y cc maxL ret) B.pre
  have hown : s.vm.findClass y.cls = some m.cls := findClass_of_methodNamed B.named
  have X : hm_X (p, l, e, rm, s, m, vs.toArray, below, meth, c, D, cA, A) y.cls cc maxL ret y.name rm cA := ⟨B.exec, B.bytes, B.returns, hml, hown, fun w h => hts w (List.mem_cons_of_mem _ h), B.notSynchronized, hG, (name_of_methodNamed B.named B.method).1, rfl, rfl, hst⟩
  have hl := lv_entry vs (n := maxL) (by rw [hm_sl vs hc]; omega)
  rw [lg_entry_eq]
  exact body _ X s.heap [] _ hP hA va_S.rf (hm_entry hc hn hl)
def hm_NT (C : hm_C) : Prop := match C with
  | (_, _, _, _, _, _, _, _, _, c, _, _, _) => ∀ x ∈ c.exceptionTable.toList, False
theorem hm_xmet {cA : Nat → ClassId} {y : MethodName} {cc : ByteArray} {maxL : Nat} {ret : Option FieldType} {rm : Room} {vs : List Value} {M : hm_M} {post : Option Value → hm_M → Prop} {px : String → hm_M → Prop} (j : Nat) (hy : plainName y.cls = true) (hc : ∀ w ∈ vs, w.category = 1) (hn : vs.length + j = maxL)
    (body : ∀ C : hm_C, hm_X C y.cls cc maxL ret y.name rm cA → hm_NT C → hm_W C 0 0 (hm_TX C post px rm.cells rm.slots) M 0 (vs.map some ++ List.replicate j none) []) : hm_XMet cA y cc maxL ret rm vs M post px := by
  intro l D A hst
  refine vx_ofW (cc := cc) (maxL := maxL) (ret := ret) hy rfl ?_
  intro p e s m args below meth c s₁ B hml hnt hv
  obtain ⟨rfl, hP, hA, hG⟩ := hv
  have hts := atoms_spec (ws := hm_ws y cc maxL ret) B.pre
  have hown : s.vm.findClass y.cls = some m.cls := findClass_of_methodNamed B.named
  have X : hm_X (p, l, e, rm, s, m, vs.toArray, below, meth, c, D, cA, A) y.cls cc maxL ret y.name rm cA := ⟨B.exec, B.bytes, B.returns, hml, hown, fun w h => hts w (List.mem_cons_of_mem _ h), B.notSynchronized, hG, (name_of_methodNamed B.named B.method).1, rfl, rfl, hst⟩
  have hl := lv_entry vs (n := maxL) (by rw [hm_sl vs hc]; omega)
  rw [lg_entry_eq]
  exact body _ X hnt s.heap [] _ hP hA va_S.rf (hm_entry hc hn hl)
/-! calls: the links, by their words -/
def hm_dk (y : MethodName) (n : Nat) : Prop := y.cls ≠ "java/lang/invoke/MethodHandle" ∧ y.cls ≠ "java/lang/invoke/VarHandle" ∧ (parseMethodDescriptor y.desc).map (fun d => d.parameters.length) = some n
def hm_lS (own : String) (idx : Nat) (y : MethodName) (cc : ByteArray) (maxL : Nat) (ret : Option FieldType) (n : Nat) : Prop := Cond.methodLink own idx y ∈ hm_tbl ∧ Cond.static y ∈ hm_tbl ∧ Cond.initialized y.cls ∈ hm_tbl ∧ Cond.code y cc maxL ret ∈ hm_tbl ∧ hm_dk y n
def hm_lSN (own host : String) (idx : Nat) (y : MethodName) (cc : ByteArray) (maxL : Nat) (ret : Option FieldType) (n : Nat) : Prop := Cond.methodLinkNest own idx y host ∈ hm_oth ∧ Cond.static y ∈ hm_tbl ∧ Cond.initialized y.cls ∈ hm_tbl ∧ Cond.code y cc maxL ret ∈ hm_tbl ∧ hm_dk y n
def hm_lV (own : String) (idx : Nat) (y : MethodName) (cc : ByteArray) (maxL : Nat) (ret : Option FieldType) (n : Nat) : Prop := Cond.methodLink own idx y ∈ hm_tbl ∧ Cond.instanceMethod y ∈ hm_tbl ∧ Cond.selects y.cls y y ∈ hm_tbl ∧ Cond.initialized y.cls ∈ hm_tbl ∧ Cond.code y cc maxL ret ∈ hm_tbl ∧ hm_dk y n
def hm_lI (own : String) (idx : Nat) (y : MethodName) (cc : ByteArray) (maxL n : Nat) : Prop := Cond.methodLink own idx y ∈ hm_tbl ∧ Cond.instanceMethod y ∈ hm_tbl ∧ Cond.initialized y.cls ∈ hm_tbl ∧ Cond.code y cc maxL none ∈ hm_tbl ∧ hm_dk y n ∧ y.name = "<init>"
def hm_lIN (own host : String) (idx : Nat) (y : MethodName) (cc : ByteArray) (maxL n : Nat) : Prop := Cond.methodLinkNest own idx y host ∈ hm_oth ∧ Cond.instanceMethod y ∈ hm_tbl ∧ Cond.initialized y.cls ∈ hm_tbl ∧ Cond.code y cc maxL none ∈ hm_tbl ∧ hm_dk y n ∧ y.name = "<init>"
theorem hm_gd {w : Cond} (h : w ∈ hm_tbl) : (w.onTables && w.keeps) = true ∨ ∃ ty, w = .arrayClass ty := good_of_word (List.mem_filter.mp h).2
theorem hm_gw {y : MethodName} {cc : ByteArray} {maxL : Nat} {ret : Option FieldType} (h : Cond.code y cc maxL ret ∈ hm_tbl) : GoodIn hm_tbl (hm_ws y cc maxL ret) := by
  intro w hw
  rcases List.mem_cons.mp hw with rfl | hw
  · exact ⟨h, hm_gd h⟩
  · exact ⟨hw, hm_gd hw⟩
theorem hm_blind {D : va_G} {cA : Nat → ClassId} {A : Nat → Prop} {oth : List Cond} {strs : List (String × Nat × String)} {M : hm_M} {vs : List Value} : FrameBlind (va_Pc vs (hm_B D cA A oth strs M)) := fun a U g mk h => ⟨h.1, h.2.1, h.2.2.1, hm_G.same (u := U) (U := U.calling g mk a) rfl rfl h.2.2.2⟩
section HC
variable {p : Program} {l : Launch} {e : Env} {R : Room} {s : State} {m : MethodId} {args : Array Value} {below : List Frame} {meth : Method} {c : Code} {H : Heap} {locs : List Loc} {k n : Nat} {Q : State → Prop}
theorem hm_back {D : va_G} {A : Nat → Prop} {post : Option Value → hm_M → Prop} {pc mc ms : Nat} {ls : Array Slot} {st0 st : List Value} {a : Array Value} (hr : va_Run p l e R s m args below meth c H locs k n mc ms (F0 m pc ls st0) st (hm_Q D A post a) A) (hS : va_S A s.heap H locs)
    (kk : ∀ (v : Option Value) (M' : hm_M) (H1 : Heap) (locs1 : List Loc), post v M' → hm_P D M' H1 → hm_A A M' → va_S A s.heap H1 locs1 → W p l e R s m args below meth c H1 locs1 (k + mc) (n + ms) Q (F0 m (pc + 3) ls (v.toList ++ st))) : W p l e R s m args below meth c H locs k n Q (F0 m pc ls st0) := by
  intro T hT X
  obtain ⟨v, st₀, t, T', L, h0, X', hL, e1, e2, ⟨⟨v', M', hv, hp, hP', hA'⟩, hz, hk⟩, st⟩ := hr T hT X
  cases hv
  rw [h0] at hz hk
  obtain ⟨t2, a1, b1⟩ := kk v M' T'.heap (locs ++ L) hp (by rw [e1]; exact hP') hA' ⟨Nat.le_trans hS.1 (by rw [e1]; exact hz), fun q h1 h2 => by rw [e1, hk q (Nat.lt_of_lt_of_le h1 hS.1) h2]; exact hS.2.1 q h1 h2, fun q hq => (List.mem_append.mp hq).elim (hS.2.2 q) (hL q)⟩ T' rfl X'
  exact ⟨t2, st t2 a1, b1⟩
theorem hm_backX {D : va_G} {A : Nat → Prop} {post : Option Value → hm_M → Prop} {px : String → hm_M → Prop} {pc mc ms : Nat} {ls : Array Slot} {st0 st : List Value} {a : Array Value} (hr : vx_Run p l e R s m args below meth c H locs k n mc ms (F0 m pc ls st0) st (hm_Q D A post a) (hm_Xq D A px) A) (hS : va_S A s.heap H locs)
    (kx : ∀ (E : String) (ce : Cell) (q9 : Addr) (M' : hm_M) (H1 : Heap) (locs1 : List Loc), px E M' → hm_P D M' H1 → hm_A A M' → va_S A s.heap H1 locs1 → H1[q9]? = some ce → ce.vm = .none → s.vm.findClass E = some ce.cls → vx_W p l e R s m args below meth c H1 locs1 (k + mc) (n + ms) Q (F0 m pc ls st) q9)
    (kk : ∀ (v : Option Value) (M' : hm_M) (H1 : Heap) (locs1 : List Loc), post v M' → hm_P D M' H1 → hm_A A M' → va_S A s.heap H1 locs1 → W p l e R s m args below meth c H1 locs1 (k + mc) (n + ms) Q (F0 m (pc + 3) ls (v.toList ++ st))) : W p l e R s m args below meth c H locs k n Q (F0 m pc ls st0) := by
  intro T hT X
  rcases hr T hT X with ⟨v, st₀, t, T', L, h0, X', hL, e1, e2, ⟨⟨v', M', hv, hp, hP', hA'⟩, hz, hk⟩, st⟩ | ⟨q9, st₀, t, T', L, E, ce, h0, X', hL, e1, e2, ⟨⟨M', hp, hP', hA'⟩, hz, hk⟩, hc1, hc2, hc3, st⟩
  · cases hv
    rw [h0] at hz hk
    obtain ⟨t2, a1, b1⟩ := kk v M' T'.heap (locs ++ L) hp (by rw [e1]; exact hP') hA' ⟨Nat.le_trans hS.1 (by rw [e1]; exact hz), fun q h1 h2 => by rw [e1, hk q (Nat.lt_of_lt_of_le h1 hS.1) h2]; exact hS.2.1 q h1 h2, fun q hq => (List.mem_append.mp hq).elim (hS.2.2 q) (hL q)⟩ T' rfl X'
    exact ⟨t2, st t2 a1, b1⟩
  · rw [h0] at hz hk
    obtain ⟨t2, a1, b1⟩ := kx E ce q9 M' T'.heap (locs ++ L) hp (by rw [e1]; exact hP') hA' ⟨Nat.le_trans hS.1 (by rw [e1]; exact hz), fun q h1 h2 => by rw [e1, hk q (Nat.lt_of_lt_of_le h1 hS.1) h2]; exact hS.2.1 q h1 h2, fun q hq => (List.mem_append.mp hq).elim (hS.2.2 q) (hL q)⟩ (by rw [e1]; exact hc1) hc2 hc3 T' rfl X'
    exact ⟨t2, st.trans a1, b1⟩
end HC
section HRC
variable {C : hm_C} {own : String} {cc : ByteArray} {nL : Nat} {ret : Option FieldType} {nm : String} {rm : Room} {cA : Nat → ClassId} {k n : Nat} {Q : State → Prop} {M : hm_M} {pc : Nat} {L : List (Option Value)} {st st0 : List Value}
variable {y : MethodName} {cc' : ByteArray} {maxL' j idx : Nat} {ret' : Option FieldType} {rm' : Room} {vs : List Value} {post : Option Value → hm_M → Prop} {px : String → hm_M → Prop}
def hm_fit (rm rm' : Room) (maxL' k n : Nat) : Prop := (rm'.frames + 1 ≤ rm.frames ∧ 8 + (maxL' + 11) + rm'.locals ≤ rm.locals) ∧ k + rm'.cells ≤ rm.cells ∧ n + rm'.slots ≤ rm.slots
theorem hr_callS (X : hm_X C own cc nL ret nm rm cA) (lk : hm_lS own idx y cc' maxL' ret' j) (d : decode cc pc = .ok (.invokestatic idx, 3)) (hm : hm_Met cA y cc' maxL' ret' rm' vs M post) (hst : st0 = vs.reverse ++ st) (hn : vs.length = j) (hL : L.length = nL) (hcat : (st.map fun v => v.category).sum ≤ 8) (hf : hm_fit rm rm' maxL' k n)
    (kk : ∀ (v : Option Value) (M' : hm_M), post v M' → hm_W C (k + rm'.cells) (n + rm'.slots) Q M' (pc + 3) L (v.toList ++ st)) : hm_W C k n Q M pc L st0 := by
  obtain ⟨p, l, e, R, s, m, args, below, meth, c, D, cA', A⟩ := C
  obtain ⟨hx, hb, hr, hml, hown, hts, hlk, hG, hnm, rfl, rfl, hst'⟩ := X
  obtain ⟨h1, h2, h3, h4, h5⟩ := lk
  subst hst
  intro H locs ls hP hA hS hl
  refine hm_back (va_runS (Ts := hm_tbl) ⟨hx, hb, hml, hown, hts⟩ (hm l D A hst') (va_cwS j hts (goodIn_app (fun w hw => ?_) (hm_gw h4)) rfl rfl rfl h5 hf.1) ⟨hm_blind, fun U hU hW => ⟨rfl, by rw [hU]; exact hP, hA, hG.warm hW (by rw [hU]; exact hS)⟩⟩ rfl hn (hl.1.trans hL) rfl (lv_room hcat) d hf.2) hS (fun v M' H1 locs1 hp p1 a1 s1 => kk v M' hp H1 locs1 ls p1 a1 s1 hl)
  rcases List.mem_cons.mp hw with rfl | hw
  · exact ⟨h1, hm_gd h1⟩
  rcases List.mem_cons.mp hw with rfl | hw
  · exact ⟨h2, hm_gd h2⟩
  rcases List.mem_cons.mp hw with rfl | hw
  · exact ⟨h3, hm_gd h3⟩
  · cases hw
theorem hr_callSN {host : String} (X : hm_X C own cc nL ret nm rm cA) (lk : hm_lSN own host idx y cc' maxL' ret' j) (d : decode cc pc = .ok (.invokestatic idx, 3)) (hm : hm_Met cA y cc' maxL' ret' rm' vs M post) (hst : st0 = vs.reverse ++ st) (hn : vs.length = j) (hL : L.length = nL) (hcat : (st.map fun v => v.category).sum ≤ 8) (hf : hm_fit rm rm' maxL' k n)
    (kk : ∀ (v : Option Value) (M' : hm_M), post v M' → hm_W C (k + rm'.cells) (n + rm'.slots) Q M' (pc + 3) L (v.toList ++ st)) : hm_W C k n Q M pc L st0 := by
  obtain ⟨p, l, e, R, s, m, args, below, meth, c, D, cA', A⟩ := C
  obtain ⟨hx, hb, hr, hml, hown, hts, hlk, hG, hnm, rfl, rfl, hst'⟩ := X
  obtain ⟨h1, h2, h3, h4, h5⟩ := lk
  subst hst
  intro H locs ls hP hA hS hl
  exact hm_back (va_runSN (Ts := hm_tbl) ⟨hx, hb, hml, hown, hts⟩ (hm l D A hst') ⟨va_cnB j hts (hm_gw h4) rfl rfl rfl (hG.2.2.1 _ h1).2 (hts _ h3) h5 hf.1, hts _ h2, trivial⟩ ⟨hm_blind, fun U hU hW => ⟨rfl, by rw [hU]; exact hP, hA, hG.warm hW (by rw [hU]; exact hS)⟩⟩ rfl hn (hl.1.trans hL) rfl (lv_room hcat) d hf.2) hS (fun v M' H1 locs1 hp p1 a1 s1 => kk v M' hp H1 locs1 ls p1 a1 s1 hl)
theorem hr_callV {ci b : Nat} {fs : List Value} {T : u_T} {N : Nat} (X : hm_X C own cc nL ret nm rm cA) (lk : hm_lV own idx y cc' maxL' ret' j) (d : decode cc pc = .ok (.invokevirtual idx, 3)) (hm : hm_Met cA y cc' maxL' ret' rm' (.ref b :: vs) M post) (hb0 : M b = some (.inr (ci, fs))) (hci : vwCl[ci]? = some (y.cls, T, N)) (hst : st0 = vs.reverse ++ .ref b :: st) (hn : vs.length = j) (hL : L.length = nL) (hcat : (st.map fun v => v.category).sum ≤ 8) (hf : hm_fit rm rm' maxL' k n)
    (kk : ∀ (v : Option Value) (M' : hm_M), post v M' → hm_W C (k + rm'.cells) (n + rm'.slots) Q M' (pc + 3) L (v.toList ++ st)) : hm_W C k n Q M pc L st0 := by
  obtain ⟨p, l, e, R, s, m, args, below, meth, c, D, cA', A⟩ := C
  obtain ⟨hx, hb, hr, hml, hown, hts, hlk, hG, hnm, rfl, rfl, hst'⟩ := X
  obtain ⟨h1, h2, h3, h4, h5, h6⟩ := lk
  subst hst
  intro H locs ls hP hA hS hl
  refine hm_back (va_runV (Ts := hm_tbl) (C := y.cls) ⟨hx, hb, hml, hown, hts⟩ (hm l D A hst') (cwV j hts (goodIn_app (fun w hw => ?_) (hm_gw h5)) rfl rfl rfl ⟨rfl, h6⟩ hf.1) ⟨hm_blind, va_recv hG.1 (hm_one hP hb0) (q0 := 0) hci rfl, fun U hU hW => ⟨rfl, by rw [hU]; exact hP, hA, hG.warm hW (by rw [hU]; exact hS)⟩⟩ rfl hn (hl.1.trans hL) rfl (lv_room hcat) d hf.2) hS (fun v M' H1 locs1 hp p1 a1 s1 => kk v M' hp H1 locs1 ls p1 a1 s1 hl)
  rcases List.mem_cons.mp hw with rfl | hw
  · exact ⟨h1, hm_gd h1⟩
  rcases List.mem_cons.mp hw with rfl | hw
  · exact ⟨h2, hm_gd h2⟩
  rcases List.mem_cons.mp hw with rfl | hw
  · exact ⟨h3, hm_gd h3⟩
  rcases List.mem_cons.mp hw with rfl | hw
  · exact ⟨h4, hm_gd h4⟩
  · cases hw
theorem hr_callI {b : Nat} (X : hm_X C own cc nL ret nm rm cA) (lk : hm_lI own idx y cc' maxL' j) (d : decode cc pc = .ok (.invokespecial idx, 3)) (hm : hm_Met cA y cc' maxL' none rm' (.ref b :: vs) M post) (hst : st0 = vs.reverse ++ .ref b :: st) (hn : vs.length = j) (hL : L.length = nL) (hcat : (st.map fun v => v.category).sum ≤ 8) (hf : hm_fit rm rm' maxL' k n)
    (kk : ∀ (v : Option Value) (M' : hm_M), post v M' → hm_W C (k + rm'.cells) (n + rm'.slots) Q M' (pc + 3) L (v.toList ++ st)) : hm_W C k n Q M pc L st0 := by
  obtain ⟨p, l, e, R, s, m, args, below, meth, c, D, cA', A⟩ := C
  obtain ⟨hx, hb, hr, hml, hown, hts, hlk, hG, hnm, rfl, rfl, hst'⟩ := X
  obtain ⟨h1, h2, h3, h4, h5, h6⟩ := lk
  subst hst
  intro H locs ls hP hA hS hl
  exact hm_back (va_runI (Ts := hm_tbl) ⟨hx, hb, hml, hown, hts⟩ (hm l D A hst') (cwI j hts (hm_gw h4) rfl rfl rfl (hts _ h3) (hts _ h1) (hts _ h2) h6 h5 hf.1) ⟨hm_blind, fun U hU hW => ⟨rfl, by rw [hU]; exact hP, hA, hG.warm hW (by rw [hU]; exact hS)⟩⟩ rfl hn (hl.1.trans hL) rfl (lv_room hcat) d hf.2) hS (fun v M' H1 locs1 hp p1 a1 s1 => kk v M' hp H1 locs1 ls p1 a1 s1 hl)
theorem hr_callIN {b : Nat} {host : String} (X : hm_X C own cc nL ret nm rm cA) (lk : hm_lIN own host idx y cc' maxL' j) (d : decode cc pc = .ok (.invokespecial idx, 3)) (hm : hm_Met cA y cc' maxL' none rm' (.ref b :: vs) M post) (hst : st0 = vs.reverse ++ .ref b :: st) (hn : vs.length = j) (hL : L.length = nL) (hcat : (st.map fun v => v.category).sum ≤ 8) (hf : hm_fit rm rm' maxL' k n)
    (kk : ∀ (v : Option Value) (M' : hm_M), post v M' → hm_W C (k + rm'.cells) (n + rm'.slots) Q M' (pc + 3) L (v.toList ++ st)) : hm_W C k n Q M pc L st0 := by
  obtain ⟨p, l, e, R, s, m, args, below, meth, c, D, cA', A⟩ := C
  obtain ⟨hx, hb, hr, hml, hown, hts, hlk, hG, hnm, rfl, rfl, hst'⟩ := X
  obtain ⟨h1, h2, h3, h4, h5, h6⟩ := lk
  subst hst
  intro H locs ls hP hA hS hl
  exact hm_back (va_runIN (Ts := hm_tbl) ⟨hx, hb, hml, hown, hts⟩ (hm l D A hst') ⟨va_cnB j hts (hm_gw h4) rfl rfl rfl (hG.2.2.1 _ h1).2 (hts _ h3) h5 hf.1, h6, hts _ h2⟩ ⟨hm_blind, fun U hU hW => ⟨rfl, by rw [hU]; exact hP, hA, hG.warm hW (by rw [hU]; exact hS)⟩⟩ rfl hn (hl.1.trans hL) rfl (lv_room hcat) d hf.2) hS (fun v M' H1 locs1 hp p1 a1 s1 => kk v M' hp H1 locs1 ls p1 a1 s1 hl)
theorem hm_gone {D : va_G} {A : Nat → Prop} {s : State} {M : hm_M} {H : Heap} {locs : List Loc} {E : String} (hP : hm_P D M H) (hA : hm_A A M) (hS : va_S A s.heap H locs) (hp : px E M) : ∀ t : State, t.heap = H → s.vm.Alike t.vm → hm_Xq D A px E s t := fun t ht _ => ⟨⟨M, hp, by rw [ht]; exact hP, hA⟩, hS.F ht⟩
theorem hr_callSX {mc ms : Nat} {post2 : Option Value → hm_M → Prop} {px2 : String → hm_M → Prop} (X : hm_X C own cc nL ret nm rm cA) (XE : hm_NT C) (lk : hm_lS own idx y cc' maxL' ret' j) (d : decode cc pc = .ok (.invokestatic idx, 3)) (hm : hm_XMet cA y cc' maxL' ret' rm' vs M post px) (hst : st0 = vs.reverse ++ st) (hn : vs.length = j) (hL : L.length = nL) (hcat : (st.map fun v => v.category).sum ≤ 8) (hf : hm_fit rm rm' maxL' k n) (h8 : k + rm'.cells ≤ mc) (h9 : n + rm'.slots ≤ ms)
    (kx : ∀ (E : String) (M' : hm_M), px E M' → px2 E M')
    (kk : ∀ (v : Option Value) (M' : hm_M), post v M' → hm_W C (k + rm'.cells) (n + rm'.slots) (hm_TX C post2 px2 mc ms) M' (pc + 3) L (v.toList ++ st)) : hm_W C k n (hm_TX C post2 px2 mc ms) M pc L st0 := by
  obtain ⟨p, l, e, R, s, m, args, below, meth, c, D, cA', A⟩ := C
  obtain ⟨hx, hb, hr, hml, hown, hts, hlk, hG, hnm, rfl, rfl, hst'⟩ := X
  obtain ⟨h1, h2, h3, h4, h5⟩ := lk
  subst hst
  intro H locs ls hP hA hS hl
  refine hm_backX (vx_runS (Ts := hm_tbl) ⟨hx, hb, hml, hown, hts⟩ (hm l D A hst') (va_cwS j hts (goodIn_app (fun w hw => ?_) (hm_gw h4)) rfl rfl rfl h5 hf.1) ⟨hm_blind, fun U hU hW => ⟨rfl, by rw [hU]; exact hP, hA, hG.warm hW (by rw [hU]; exact hS)⟩⟩ rfl hn (hl.1.trans hL) rfl (lv_room hcat) d hf.2) hS (fun E ce q9 M' H1 locs1 hp p1 a1 s1 c1 c2 c3 => vx_out (fun x hx => absurd (XE x hx) id) hlk c1 c2 c3 (hm_gone p1 a1 s1 (kx E M' hp)) s1.2.2 h8 h9) (fun v M' H1 locs1 hp p1 a1 s1 => kk v M' hp H1 locs1 ls p1 a1 s1 hl)
  rcases List.mem_cons.mp hw with rfl | hw
  · exact ⟨h1, hm_gd h1⟩
  rcases List.mem_cons.mp hw with rfl | hw
  · exact ⟨h2, hm_gd h2⟩
  rcases List.mem_cons.mp hw with rfl | hw
  · exact ⟨h3, hm_gd h3⟩
  · cases hw
theorem hr_callVX {mc ms : Nat} {post2 : Option Value → hm_M → Prop} {px2 : String → hm_M → Prop} {ci b : Nat} {fs : List Value} {T : u_T} {N : Nat} (X : hm_X C own cc nL ret nm rm cA) (XE : hm_NT C) (lk : hm_lV own idx y cc' maxL' ret' j) (d : decode cc pc = .ok (.invokevirtual idx, 3)) (hm : hm_XMet cA y cc' maxL' ret' rm' (.ref b :: vs) M post px) (hb0 : M b = some (.inr (ci, fs))) (hci : vwCl[ci]? = some (y.cls, T, N)) (hst : st0 = vs.reverse ++ .ref b :: st) (hn : vs.length = j) (hL : L.length = nL) (hcat : (st.map fun v => v.category).sum ≤ 8) (hf : hm_fit rm rm' maxL' k n) (h8 : k + rm'.cells ≤ mc) (h9 : n + rm'.slots ≤ ms)
    (kx : ∀ (E : String) (M' : hm_M), px E M' → px2 E M')
    (kk : ∀ (v : Option Value) (M' : hm_M), post v M' → hm_W C (k + rm'.cells) (n + rm'.slots) (hm_TX C post2 px2 mc ms) M' (pc + 3) L (v.toList ++ st)) : hm_W C k n (hm_TX C post2 px2 mc ms) M pc L st0 := by
  obtain ⟨p, l, e, R, s, m, args, below, meth, c, D, cA', A⟩ := C
  obtain ⟨hx, hb, hr, hml, hown, hts, hlk, hG, hnm, rfl, rfl, hst'⟩ := X
  obtain ⟨h1, h2, h3, h4, h5, h6⟩ := lk
  subst hst
  intro H locs ls hP hA hS hl
  refine hm_backX (vx_runV (Ts := hm_tbl) (C := y.cls) ⟨hx, hb, hml, hown, hts⟩ (hm l D A hst') (cwV j hts (goodIn_app (fun w hw => ?_) (hm_gw h5)) rfl rfl rfl ⟨rfl, h6⟩ hf.1) ⟨hm_blind, va_recv hG.1 (hm_one hP hb0) (q0 := 0) hci rfl, fun U hU hW => ⟨rfl, by rw [hU]; exact hP, hA, hG.warm hW (by rw [hU]; exact hS)⟩⟩ rfl hn (hl.1.trans hL) rfl (lv_room hcat) d hf.2) hS (fun E ce q9 M' H1 locs1 hp p1 a1 s1 c1 c2 c3 => vx_out (fun x hx => absurd (XE x hx) id) hlk c1 c2 c3 (hm_gone p1 a1 s1 (kx E M' hp)) s1.2.2 h8 h9) (fun v M' H1 locs1 hp p1 a1 s1 => kk v M' hp H1 locs1 ls p1 a1 s1 hl)
  rcases List.mem_cons.mp hw with rfl | hw
  · exact ⟨h1, hm_gd h1⟩
  rcases List.mem_cons.mp hw with rfl | hw
  · exact ⟨h2, hm_gd h2⟩
  rcases List.mem_cons.mp hw with rfl | hw
  · exact ⟨h3, hm_gd h3⟩
  rcases List.mem_cons.mp hw with rfl | hw
  · exact ⟨h4, hm_gd h4⟩
  · cases hw
def hm_xn : List String := ["java/lang/RuntimeException", "java/lang/Exception"]
def hm_lT (own : String) (ik is ic : Nat) (cls text : String) : Prop := Bundle.fit cls = true ∧ (∀ n ∈ hm_xn, Bundle.fit n = true) ∧ Cond.classLink own ik cls ∈ hm_tbl ∧ Cond.initialized cls ∈ hm_tbl ∧ (own, is, text) ∈ hm_strs ∧ (∀ w ∈ (vx_atS own ic cls hm_xn).filter goodWord, w ∈ hm_tbl) ∧ (∀ w ∈ (vx_atS own ic cls hm_xn).filter (fun w => !goodWord w), w ∈ hm_oth.filter Cond.onTables) ∧ ∀ w ∈ Cond.classLink own ik cls :: Cond.initialized cls :: vx_atS own ic cls hm_xn, vx_ot w = true
theorem hr_throw {ik is ic : Nat} {cls text : String} {mc ms : Nat} {post2 : Option Value → hm_M → Prop} {px2 : String → hm_M → Prop} (X : hm_X C own cc nL ret nm rm cA) (XE : hm_NT C) (lT : hm_lT own ik is ic cls text) (d0 : decode cc pc = .ok (.new ik, 3)) (d3 : decode cc (pc + 3) = .ok (.dup, 1)) (d4 : decode cc (pc + 4) = .ok (.ldc is, 2)) (d6 : decode cc (pc + 6) = .ok (.invokespecial ic, 3)) (d9 : decode cc (pc + 9) = .ok (.athrow, 1)) (hL : L.length = nL)
    (hf : 5 < rm.frames ∧ (st.map fun v => v.category).sum + 82 ≤ rm.locals ∧ k + 1 ≤ rm.cells ∧ n + 6 ≤ rm.slots) (h8 : k + 1 ≤ mc) (h9 : n + 6 ≤ ms) (hp : px2 cls M) : hm_W C k n (hm_TX C post2 px2 mc ms) M pc L st := by
  obtain ⟨p, l, e, R, s, m, args, below, meth, c, D, cA', A⟩ := C
  obtain ⟨hx, hb, hr, hml, hown, hts, hlk, hG, hnm, rfl, rfl, hst'⟩ := X
  obtain ⟨t1, t2, t3, t4, t5, t6, t7, t8⟩ := lT
  intro H locs ls hP hA hS hl
  obtain ⟨sa, hsa⟩ := hG.2.2.2.2 _ t5
  exact vx_throwS (own := own) (cls := cls) (text := text) (names := hm_xn) (A := A) hx hb hst' hown t1 t2 (hts _ t3) (hts _ t4) hsa (vx_hat (B := hm_oth.filter Cond.onTables) (fun w hw => hts _ (t6 w hw)) t7 (fun w hw => va_Nw.use (List.mem_filter.mp hw).2 (hG.2.2.1 w (List.mem_filter.mp hw).1).2)) t8 hG.2.2.2.1.1 hG.2.2.2.1.2 hS ((hl.1.trans hL).trans hml.symm) d0 d3 d4 d6 d9 (fun x hx => absurd (XE x hx) id) hf.1 hf.2.1 hf.2.2.1 hf.2.2.2 hlk (fun t _ z1 z2 => ⟨⟨M, hp, fun a e he => (hP a e he).kept (z2 a (hP a e he).lt), hA⟩, Nat.le_trans hS.1 z1, fun q h1 h2 => (z2 q (Nat.lt_of_lt_of_le h1 hS.1)).trans (hS.2.1 q h1 h2)⟩) hS.2.2 h8 h9
end HRC
