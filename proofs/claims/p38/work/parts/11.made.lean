/-! what is made; numbers of the pool; rows of rows; the throw behind a wide ldc -/
section HM
variable {C : hm_C} {own : String} {cc : ByteArray} {nL : Nat} {ret : Option FieldType} {nm : String} {rm : Room} {cA : Nat → ClassId} {k n : Nat} {Q : State → Prop} {M : hm_M} {pc : Nat} {L : List (Option Value)} {st st0 : List Value}
theorem hr_ldc {idx : Nat} (v : Int32) (X : hm_X C own cc nL ret nm rm cA) (d : decode cc pc = .ok (.ldc idx, 2)) (hw : Cond.constant own idx v ∈ hm_tbl) (kk : hm_W C k n Q M (pc + 2) L (.int v :: st)) : hm_W C k n Q M pc L st := by
  obtain ⟨p, l, e, R, s, m, args, below, meth, c, D, cA', A⟩ := C
  obtain ⟨hx, hb, hr, hml, hown, hts, hlk, hG, hnm, rfl, rfl, hst⟩ := X
  exact fun H locs ls hP hA hS hl => lv_ldc hx hb hown (hts _ hw) d (kk H locs ls hP hA hS hl)
theorem hr_ldcw {idx : Nat} (v : Int32) (X : hm_X C own cc nL ret nm rm cA) (d : decode cc pc = .ok (.ldc_w idx, 3)) (hw : Cond.constant own idx v ∈ hm_tbl) (kk : hm_W C k n Q M (pc + 3) L (.int v :: st)) : hm_W C k n Q M pc L st := by
  obtain ⟨p, l, e, R, s, m, args, below, meth, c, D, cA', A⟩ := C
  obtain ⟨hx, hb, hr, hml, hown, hts, hlk, hG, hnm, rfl, rfl, hst⟩ := X
  exact fun H locs ls hP hA hS hl => lv_ldcw hx hb hown (hts _ hw) d (kk H locs ls hP hA hS hl)
theorem hr_throwW {ik is ic : Nat} {cls text : String} {mc ms : Nat} {post2 : Option Value → hm_M → Prop} {px2 : String → hm_M → Prop} (X : hm_X C own cc nL ret nm rm cA) (XE : hm_NT C) (lT : hm_lT own ik is ic cls text) (d0 : decode cc pc = .ok (.new ik, 3)) (d3 : decode cc (pc + 3) = .ok (.dup, 1)) (d4 : decode cc (pc + 4) = .ok (.ldc_w is, 3)) (d7 : decode cc (pc + 7) = .ok (.invokespecial ic, 3)) (d10 : decode cc (pc + 10) = .ok (.athrow, 1)) (hL : L.length = nL)
    (hf : 5 < rm.frames ∧ (st.map fun v => v.category).sum + 82 ≤ rm.locals ∧ k + 1 ≤ rm.cells ∧ n + 6 ≤ rm.slots) (h8 : k + 1 ≤ mc) (h9 : n + 6 ≤ ms) (hp : px2 cls M) : hm_W C k n (hm_TX C post2 px2 mc ms) M pc L st := by
  obtain ⟨p, l, e, R, s, m, args, below, meth, c, D, cA', A⟩ := C
  obtain ⟨hx, hb, hr, hml, hown, hts, hlk, hG, hnm, rfl, rfl, hst'⟩ := X
  obtain ⟨t1, t2, t3, t4, t5, t6, t7, t8⟩ := lT
  intro H locs ls hP hA hS hl
  obtain ⟨sa, hsa⟩ := hG.2.2.2.2 _ t5
  exact vx_throwSW (own := own) (cls := cls) (text := text) (names := hm_xn) (A := A) hx hb hst' hown t1 t2 (hts _ t3) (hts _ t4) hsa (vx_hat (B := hm_oth.filter Cond.onTables) (fun w hw => hts _ (t6 w hw)) t7 (fun w hw => va_Nw.use (List.mem_filter.mp hw).2 (hG.2.2.1 w (List.mem_filter.mp hw).1).2)) t8 hG.2.2.2.1.1 hG.2.2.2.1.2 hS ((hl.1.trans hL).trans hml.symm) d0 d3 d4 d7 d10 (fun x hx => absurd (XE x hx) id) hf.1 hf.2.1 hf.2.2.1 hf.2.2.2 hlk (fun t _ z1 z2 => ⟨⟨M, hp, fun a e he => (hP a e he).kept (z2 a (hP a e he).lt), hA⟩, Nat.le_trans hS.1 z1, fun q h1 h2 => (z2 q (Nat.lt_of_lt_of_le h1 hS.1)).trans (hS.2.1 q h1 h2)⟩) hS.2.2 h8 h9
/-- what an own object's making links -/
def hm_lN (own : String) (idx ci N : Nat) (ty : Nat → FieldType) : Prop := ∃ (E : String) (T : u_T), vwCl[ci]? = some (E, T, N) ∧ (∀ w ∈ u_ws E T N, w ∈ hm_tbl) ∧ (∀ j, j < N → parseFieldDescriptor (T j).2.2.1 = some (ty j)) ∧ Cond.classLink own idx E ∈ hm_tbl ∧ Cond.instantiable E N ∈ hm_tbl ∧ Cond.initialized E ∈ hm_tbl
theorem hr_new {idx ci N : Nat} {ty : Nat → FieldType} (fs : List Value) (X : hm_X C own cc nL ret nm rm cA) (lN : hm_lN own idx ci N ty) (d : decode cc pc = .ok (.new idx, 3)) (hfs : ∀ j, j < N → defaultValue (ty j) = vp_V fs j) (hf : k + 1 ≤ rm.cells ∧ n + N ≤ rm.slots)
    (kk : ∀ q : Nat, M q = none → hm_W C (k + 1) (n + N) Q (hm_up M q (.inr (ci, fs))) (pc + 3) L (.ref q :: st)) : hm_W C k n Q M pc L st := by
  obtain ⟨p, l, e, R, s, m, args, below, meth, c, D, cA', A⟩ := C
  obtain ⟨hx, hb, hr, hml, hown, hts, hlk, hG, hnm, rfl, rfl, hst'⟩ := X
  obtain ⟨E, T, h1, h2, h3, h4, h5, h6⟩ := lN
  intro H locs ls hP hA hS hl
  obtain ⟨ws, wP, wD, hin', -⟩ := hm_list hP hA
  exact va_new (D := D) (cl := vwCl) (tys := hm_tys cA') hx hb hts h2 ty h3 hown (hts _ h4) (hts _ h5) (hts _ h6) hG.1 wP wD hS hG.2.1 h1 hfs hf.1 hf.2 d (fun q H1 p1 d1 s1 => kk q (hm_fresh hin' d1) H1 locs ls (hm_new hin' p1) (hA.up (d1.2 ws.length _ (by rw [List.getElem?_append_right (Nat.le_refl _), Nat.sub_self]; rfl))) s1 hl)
theorem hm_last {α : Type} {l : List α} {x : α} : (l ++ [x])[l.length]? = some x := by rw [List.getElem?_append_right (Nat.le_refl _), Nat.sub_self]; rfl
/-- a new row of numbers -/
theorem hr_newa (t : Nat) (atype : ArrayType) (N : Nat) (z : vp_A) {v : Int32} (X : hm_X C own cc nL ret nm rm cA) (d : decode cc pc = .ok (.newarray atype, 2)) (ht : (hm_tys cA)[t]? = some (cA t, newarray.typeOf atype)) (hw : Cond.arrayClass (newarray.typeOf atype) ∈ hm_tbl) (hz : ∀ c : ClassId, vp_cell c z = arrV c N (fun _ => defaultValue (newarray.typeOf atype))) (hn : ¬ v < 0) (hN : v.toNatClampNeg = N) (hby : N * componentBytes (newarray.typeOf atype) ≤ 536870912) (hf : k + 1 ≤ rm.cells ∧ n + N ≤ rm.slots) (hnu : ∀ (U : State) (c c' : ClassId), va_RA U c (newarray.typeOf atype) → va_RA U c' (newarray.typeOf atype) → c = c')
    (kk : ∀ q : Nat, M q = none → hm_W C (k + 1) (n + N) Q (hm_up M q (.inl (cA t, z))) (pc + 2) L (.ref q :: st)) : hm_W C k n Q M pc L (.int v :: st) := by
  obtain ⟨p, l, e, R, s, m, args, below, meth, c, D, cA', A⟩ := C
  obtain ⟨hx, hb, hr, hml, hown, hts, hlk, hG, hnm, rfl, rfl, hst'⟩ := X
  intro H locs ls hP hA hS hl
  obtain ⟨ws, wP, wD, hin', -⟩ := hm_list hP hA
  refine va_newa (D := D) (cl := vwCl) (tys := hm_tys cA') hx hb (hts _ hw) rfl hG.1 wP wD hS hG.2.1 hz hn hN hby hf.1 hf.2 d (fun q c2 H1 k1 p1 d1 s1 => ?_)
  have e1 : c2 = cA' t := hnu s _ _ (k1.2 (hm_tys cA').length _ hm_last).2 (hG.1.2 t _ ht).2
  subst e1
  exact kk q (hm_fresh hin' d1) H1 locs ls (hm_new hin' p1) (hA.up (d1.2 ws.length _ hm_last)) s1 hl
theorem hm_nuI (U : State) (c c' : ClassId) (h : va_RA U c .int) (h' : va_RA U c' .int) : c = c' := Option.some.inj (h.symm.trans h')
theorem hm_nuZ (U : State) (c c' : ClassId) (h : va_RA U c .boolean) (h' : va_RA U c' .boolean) : c = c' := Option.some.inj (h.symm.trans h')
theorem hm_nuJ (U : State) (c c' : ClassId) (h : va_RA U c .long) (h' : va_RA U c' .long) : c = c' := Option.some.inj (h.symm.trans h')
theorem hm_nuO (E : String) (U : State) (c c' : ClassId) (h : va_RA U c (.object E)) (h' : va_RA U c' (.object E)) : c = c' := by
  obtain ⟨_, _, _, _, _, h1⟩ := h
  obtain ⟨_, _, _, _, _, h2⟩ := h'
  exact Option.some.inj (h1.symm.trans h2)
/-- a new row of references -/
theorem hr_anew (t N : Nat) (E : String) {idx : Nat} {v : Int32} (X : hm_X C own cc nL ret nm rm cA) (d : decode cc pc = .ok (.anewarray idx, 3)) (ht : (hm_tys cA)[t]? = some (cA t, .object E)) (hw : Cond.classLink own idx E ∈ hm_tbl) (ho : Cond.arrayOver (.object E) ∈ hm_oth) (hn : ¬ v < 0) (hN : v.toNatClampNeg = N) (hby : N * 4 ≤ 536870912) (hf : k + 1 ≤ rm.cells ∧ n + N ≤ rm.slots)
    (kk : ∀ q : Nat, M q = none → hm_W C (k + 1) (n + N) Q (hm_up M q (.inl (cA t, N, .inr (.inr (.inr (.inr (fun _ => none))))))) (pc + 3) L (.ref q :: st)) : hm_W C k n Q M pc L (.int v :: st) := by
  obtain ⟨p, l, e, R, s, m, args, below, meth, c, D, cA', A⟩ := C
  obtain ⟨hx, hb, hr, hml, hown, hts, hlk, hG, hnm, rfl, rfl, hst'⟩ := X
  intro H locs ls hP hA hS hl
  obtain ⟨ws, wP, wD, hin', -⟩ := hm_list hP hA
  refine va_newq (D := D) (cl := vwCl) (tys := hm_tys cA') hx hb hown (hts _ hw) (hG.2.2.1 _ ho).2 hG.1 wP wD hS hG.2.1 hn hN hby hf.1 hf.2 d (fun q c2 H1 k1 p1 d1 s1 => ?_)
  have e1 : c2 = cA' t := hm_nuO E s _ _ (k1.2 (hm_tys cA').length _ hm_last).2 (hG.1.2 t _ ht).2
  subst e1
  exact kk q (hm_fresh hin' d1) H1 locs ls (hm_new hin' p1) (hA.up (d1.2 ws.length _ hm_last)) s1 hl
theorem hr_objInit {a : Nat} {idx : Nat} (X : hm_X C own cc nL ret nm rm cA) (d : decode cc pc = .ok (.invokespecial idx, 3)) (h1 : Cond.methodLink own idx objectInit ∈ hm_tbl) (h2 : Cond.instanceMethod objectInit ∈ hm_tbl) (h3 : Cond.code objectInit ⟨#[0xb1]⟩ 1 none ∈ hm_tbl) (hL : L.length = nL) (hf : 1 ≤ rm.frames ∧ (st.map fun v => v.category).sum + 12 ≤ rm.locals)
    (kk : hm_W C k n Q M (pc + 3) L st) : hm_W C k n Q M pc L (.ref a :: st) := by
  obtain ⟨p, l, e, R, s, m, args, below, meth, c, D, cA', A⟩ := C
  obtain ⟨hx, hb, hr, hml, hown, hts, hlk, hG, hnm, rfl, rfl, hst'⟩ := X
  intro H locs ls hP hA hS hl
  exact W.objInit hx hb hown (hts _ h1) (hts _ h2) (hts _ h3) rfl ((hl.1.trans hL).trans hml.symm) rfl d hf.1 (by show 2 * 0 + _ + 12 ≤ _; omega) (kk H locs ls hP hA hS hl)
end HM
