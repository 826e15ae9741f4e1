/-! contracts of the law's own methods with handlers -/
def hm_wsH (y : MethodName) (cc : ByteArray) (maxL : Nat) (ret : Option FieldType) (hh : List (Nat × Nat × Nat × Nat)) : List Cond := .codeWith y cc maxL ret hh :: hm_tbl
def hm_HMet (cA : Nat → ClassId) (y : MethodName) (cc : ByteArray) (maxL : Nat) (ret : Option FieldType) (hh : List (Nat × Nat × Nat × Nat)) (rm : Room) (vs : List Value) (M : hm_M) (post : Option Value → hm_M → Prop) : Prop :=
  ∀ (l : Launch) (D : va_G) (A : Nat → Prop), l.stackTraces = false → vx_Met l y (hm_wsH y cc maxL ret hh) rm (va_Pc vs (hm_B D cA A hm_oth hm_strs M)) (hm_Q D A post) (hm_Xq D A (fun _ _ => False)) rm.cells rm.slots A
theorem hm_hmet {cA : Nat → ClassId} {y : MethodName} {cc : ByteArray} {maxL : Nat} {ret : Option FieldType} {hh : List (Nat × Nat × Nat × Nat)} {rm : Room} {vs : List Value} {M : hm_M} {post : Option Value → hm_M → Prop} (j : Nat) (hy : plainName y.cls = true) (hc : ∀ w ∈ vs, w.category = 1) (hn : vs.length + j = maxL)
    (body : ∀ C : hm_C, hm_X C y.cls cc maxL ret y.name rm cA → hm_tb C = tableOf hh → hm_W C 0 0 (hm_TX C post (fun _ _ => False) rm.cells rm.slots) M 0 (vs.map some ++ List.replicate j none) []) : hm_HMet cA y cc maxL ret hh rm vs M post := by
  intro l D A hst
  refine vx_ofWH (cc := cc) (maxL := maxL) (ret := ret) (hh := hh) hy rfl ?_
  intro p e s m args below meth c s₁ B hml hv
  obtain ⟨rfl, hP, hA, hG⟩ := hv
  have hts := atoms_spec (ws := hm_wsH y cc maxL ret hh) B.pre
  have hown : s.vm.findClass y.cls = some m.cls := findClass_of_methodNamed B.named
  have ht : c.exceptionTable.toList = tableOf hh := vx_table (x := y) B (hts _ List.mem_cons_self)
  have X : hm_X (p, l, e, rm, s, m, vs.toArray, below, meth, c, D, cA, A) y.cls cc maxL ret y.name rm cA := ⟨B.exec, B.bytes, B.returns, hml, hown, fun w h => hts w (List.mem_cons_of_mem _ h), B.notSynchronized, hG, (name_of_methodNamed B.named B.method).1, rfl, rfl, hst⟩
  have hl := lv_entry vs (n := maxL) (by rw [hm_sl vs hc]; omega)
  rw [lg_entry_eq]
  exact body _ X ht s.heap [] _ hP hA va_S.rf (hm_entry hc hn hl)
