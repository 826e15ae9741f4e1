/-! THE JUDGEMENT: C is the method's whole surrounding; M what is known of the heap; L the locals; st the operand stack -/
abbrev hm_C : Type := Program × Launch × Env × Room × State × MethodId × Array Value × List Frame × Method × Code × va_G × (Nat → ClassId) × (Nat → Prop)
def hm_W (C : hm_C) (k n : Nat) (Q : State → Prop) (M : hm_M) (pc : Nat) (L : List (Option Value)) (st : List Value) : Prop := match C with
  | (p, l, e, R, s, m, args, below, meth, c, D, _, A) => ∀ (H : Heap) (locs : List Loc) (ls : Array Slot), hm_P D M H → hm_A A M → va_S A s.heap H locs → hm_L ls L → W p l e R s m args below meth c H locs k n Q (F0 m pc ls st)
/-- what holds of the surrounding in a method of own with the bytes cc, nL locals, the room rm -/
def hm_X (C : hm_C) (own : String) (cc : ByteArray) (nL : Nat) (ret : Option FieldType) (nm : String) (rm : Room) (cA : Nat → ClassId) : Prop := match C with
  | (p, l, _, R, s, m, args, _, meth, c, D, cA', A) => p.tables.exec = Jvm.exec ∧ c.code = cc ∧ meth.sig.returnType = ret ∧ c.maxLocals = nL ∧ s.vm.findClass own = some m.cls ∧ (∀ w ∈ hm_tbl, w.before args s = true) ∧ meth.locks = false ∧ hm_G D cA' A hm_oth hm_strs s ∧ meth.name = nm ∧ R = rm ∧ cA' = cA ∧ l.stackTraces = false
def hm_T (C : hm_C) (post : Option Value → hm_M → Prop) (mc ms : Nat) : State → Prop := match C with
  | (_, _, _, _, s, _, args, below, _, _, D, _, A) => MQ below (hm_Q D A post) args s mc ms A
def hm_TX (C : hm_C) (post : Option Value → hm_M → Prop) (px : String → hm_M → Prop) (mc ms : Nat) : State → Prop := match C with
  | (_, _, _, _, s, _, args, below, _, _, D, _, A) => vx_MQ below (hm_Q D A post) (hm_Xq D A px) args s mc ms A
/-- a contract: from the memory M, with the arguments vs, it returns, and post holds of the answer and the memory then -/
def hm_Met (cA : Nat → ClassId) (y : MethodName) (cc : ByteArray) (maxL : Nat) (ret : Option FieldType) (rm : Room) (vs : List Value) (M : hm_M) (post : Option Value → hm_M → Prop) : Prop :=
  ∀ (l : Launch) (D : va_G) (A : Nat → Prop), l.stackTraces = false → Met l y (hm_ws y cc maxL ret) rm (va_Pc vs (hm_B D cA A hm_oth hm_strs M)) (hm_Q D A post) rm.cells rm.slots A
/-- a contract of a method that may throw: px of the thrown one's name and the memory then -/
def hm_XMet (cA : Nat → ClassId) (y : MethodName) (cc : ByteArray) (maxL : Nat) (ret : Option FieldType) (rm : Room) (vs : List Value) (M : hm_M) (post : Option Value → hm_M → Prop) (px : String → hm_M → Prop) : Prop :=
  ∀ (l : Launch) (D : va_G) (A : Nat → Prop), l.stackTraces = false → vx_Met l y (hm_ws y cc maxL ret) rm (va_Pc vs (hm_B D cA A hm_oth hm_strs M)) (hm_Q D A post) (hm_Xq D A px) rm.cells rm.slots A
def hm_pu (v : Option Value) (M : hm_M) : Option Value → hm_M → Prop := fun v' M' => v' = v ∧ M = M'
theorem hm_rf (o : Option Nat) : va_rf o = .null ∨ ∃ a, va_rf o = .ref a := by
  cases o with
  | none => exact Or.inl rfl
  | some a => exact Or.inr ⟨a, rfl⟩
theorem hm_rc {v : Value} (h : v = .null ∨ ∃ a, v = .ref a) : v.category = 1 := by
  rcases h with rfl | ⟨a, rfl⟩ <;> rfl
section HR
variable {C : hm_C} {own : String} {cc : ByteArray} {nL : Nat} {ret : Option FieldType} {nm : String} {rm : Room} {cA : Nat → ClassId} {k n : Nat} {Q : State → Prop} {M : hm_M} {pc : Nat} {L : List (Option Value)} {st : List Value}
theorem hr_eq {st2 : List Value} (h : st = st2) (kk : hm_W C k n Q M pc L st2) : hm_W C k n Q M pc L st := h ▸ kk
theorem hr_sub {L2 : List (Option Value)} (h : hm_sub L2 L) (kk : hm_W C k n Q M pc L2 st) : hm_W C k n Q M pc L st := by
  obtain ⟨p, l, e, R, s, m, args, below, meth, c, D, cA', A⟩ := C
  exact fun H locs ls hP hA hS hl => kk H locs ls hP hA hS (hl.sub h)
theorem hr_widen {k2 n2 : Nat} (h1 : k ≤ k2) (h2 : n ≤ n2) (kk : hm_W C k2 n2 Q M pc L st) : hm_W C k n Q M pc L st := by
  obtain ⟨p, l, e, R, s, m, args, below, meth, c, D, cA', A⟩ := C
  exact fun H locs ls hP hA hS hl => W.widen h1 h2 (kk H locs ls hP hA hS hl)
/-- the memory seen otherwise: less of it -/
theorem hr_less {M2 : hm_M} (h : ∀ (a : Nat) (e : va_E), M2 a = some e → M a = some e) (kk : hm_W C k n Q M2 pc L st) : hm_W C k n Q M pc L st := by
  obtain ⟨p, l, e, R, s, m, args, below, meth, c, D, cA', A⟩ := C
  exact fun H locs ls hP hA hS hl => kk H locs ls (fun a e he => hP a e (h a e he)) (fun a e he => hA a e (h a e he)) hS hl
theorem hr_iconst {z : Int} (v : Int32) (X : hm_X C own cc nL ret nm rm cA) (d : decode cc pc = .ok (.iconst z, 1)) (hv : Int32.ofInt z = v) (kk : hm_W C k n Q M (pc + 1) L (.int v :: st)) : hm_W C k n Q M pc L (st) := by
  obtain ⟨p, l, e, R, s, m, args, below, meth, c, D, cA', A⟩ := C
  obtain ⟨hx, hb, hr, hml, hown, hts, hlk, hG, hnm, rfl, rfl, hst⟩ := X
  exact fun H locs ls hP hA hS hl => lv_iconst hx hb d hv (kk H locs ls hP hA hS hl)
theorem hr_bipush {z : Int} (v : Int32) (X : hm_X C own cc nL ret nm rm cA) (d : decode cc pc = .ok (.bipush z, 2)) (hv : (Int8.ofInt z).toInt32 = v) (kk : hm_W C k n Q M (pc + 2) L (.int v :: st)) : hm_W C k n Q M pc L (st) := by
  obtain ⟨p, l, e, R, s, m, args, below, meth, c, D, cA', A⟩ := C
  obtain ⟨hx, hb, hr, hml, hown, hts, hlk, hG, hnm, rfl, rfl, hst⟩ := X
  exact fun H locs ls hP hA hS hl => lv_bipush hx hb d hv (kk H locs ls hP hA hS hl)
theorem hr_sipush {z : Int} (v : Int32) (X : hm_X C own cc nL ret nm rm cA) (d : decode cc pc = .ok (.sipush z, 3)) (hv : (Int16.ofInt z).toInt32 = v) (kk : hm_W C k n Q M (pc + 3) L (.int v :: st)) : hm_W C k n Q M pc L (st) := by
  obtain ⟨p, l, e, R, s, m, args, below, meth, c, D, cA', A⟩ := C
  obtain ⟨hx, hb, hr, hml, hown, hts, hlk, hG, hnm, rfl, rfl, hst⟩ := X
  exact fun H locs ls hP hA hS hl => lv_sipush hx hb d hv (kk H locs ls hP hA hS hl)
theorem hr_null  (X : hm_X C own cc nL ret nm rm cA) (d : decode cc pc = .ok (.aconst_null, 1)) (kk : hm_W C k n Q M (pc + 1) L (.null :: st)) : hm_W C k n Q M pc L (st) := by
  obtain ⟨p, l, e, R, s, m, args, below, meth, c, D, cA', A⟩ := C
  obtain ⟨hx, hb, hr, hml, hown, hts, hlk, hG, hnm, rfl, rfl, hst⟩ := X
  exact fun H locs ls hP hA hS hl => lv_null hx hb d (kk H locs ls hP hA hS hl)
theorem hr_iload_n {i : Fin 4} {x : Int32} (X : hm_X C own cc nL ret nm rm cA) (d : decode cc pc = .ok (.iload_n i, 1)) (h : L[(i : Nat)]? = some (some (.int x))) (kk : hm_W C k n Q M (pc + 1) L (.int x :: st)) : hm_W C k n Q M pc L (st) := by
  obtain ⟨p, l, e, R, s, m, args, below, meth, c, D, cA', A⟩ := C
  obtain ⟨hx, hb, hr, hml, hown, hts, hlk, hG, hnm, rfl, rfl, hst⟩ := X
  exact fun H locs ls hP hA hS hl => lv_iload_n hx hb d rfl (hl.2.2 _ _ h).1 (kk H locs ls hP hA hS hl)
theorem hr_iload {i : Nat} {x : Int32} (X : hm_X C own cc nL ret nm rm cA) (d : decode cc pc = .ok (.iload i, 2)) (h : L[i]? = some (some (.int x))) (kk : hm_W C k n Q M (pc + 2) L (.int x :: st)) : hm_W C k n Q M pc L (st) := by
  obtain ⟨p, l, e, R, s, m, args, below, meth, c, D, cA', A⟩ := C
  obtain ⟨hx, hb, hr, hml, hown, hts, hlk, hG, hnm, rfl, rfl, hst⟩ := X
  exact fun H locs ls hP hA hS hl => lv_iload hx hb d (hl.2.2 _ _ h).1 (kk H locs ls hP hA hS hl)
theorem hr_aload_n {i : Fin 4} {v : Value} (X : hm_X C own cc nL ret nm rm cA) (d : decode cc pc = .ok (.aload_n i, 1)) (h : L[(i : Nat)]? = some (some v)) (hv : v = .null ∨ ∃ a, v = .ref a) (kk : hm_W C k n Q M (pc + 1) L (v :: st)) : hm_W C k n Q M pc L st := by
  obtain ⟨p, l, e, R, s, m, args, below, meth, c, D, cA', A⟩ := C
  obtain ⟨hx, hb, hr, hml, hown, hts, hlk, hG, hnm, rfl, rfl, hst⟩ := X
  intro H locs ls hP hA hS hl
  rcases hv with rfl | ⟨a, rfl⟩
  · exact lv_aload_nN hx hb d rfl (hl.2.2 _ _ h).1 (kk H locs ls hP hA hS hl)
  · exact lv_aload_n hx hb d rfl (hl.2.2 _ _ h).1 (kk H locs ls hP hA hS hl)
theorem hr_aload {i : Nat} {v : Value} (X : hm_X C own cc nL ret nm rm cA) (d : decode cc pc = .ok (.aload i, 2)) (h : L[i]? = some (some v)) (hv : v = .null ∨ ∃ a, v = .ref a) (kk : hm_W C k n Q M (pc + 2) L (v :: st)) : hm_W C k n Q M pc L st := by
  obtain ⟨p, l, e, R, s, m, args, below, meth, c, D, cA', A⟩ := C
  obtain ⟨hx, hb, hr, hml, hown, hts, hlk, hG, hnm, rfl, rfl, hst⟩ := X
  intro H locs ls hP hA hS hl
  rcases hv with rfl | ⟨a, rfl⟩
  · exact lv_aloadN hx hb d (hl.2.2 _ _ h).1 (kk H locs ls hP hA hS hl)
  · exact lv_aload hx hb d (hl.2.2 _ _ h).1 (kk H locs ls hP hA hS hl)
theorem hr_istore_n {i : Fin 4} {x : Int32} (X : hm_X C own cc nL ret nm rm cA) (d : decode cc pc = .ok (.istore_n i, 1)) (hi : (i : Nat) < L.length) (kk : hm_W C k n Q M (pc + 1) (L.set (i : Nat) (some (.int x))) st) : hm_W C k n Q M pc L (.int x :: st) := by
  obtain ⟨p, l, e, R, s, m, args, below, meth, c, D, cA', A⟩ := C
  obtain ⟨hx, hb, hr, hml, hown, hts, hlk, hG, hnm, rfl, rfl, hst⟩ := X
  exact fun H locs ls hP hA hS hl => lv_istore_n hx hb d rfl hl.has hi rfl (fun ls' h' => kk H locs ls' hP hA hS (hl.set rfl h'))
theorem hr_istore {i : Nat} {x : Int32} (X : hm_X C own cc nL ret nm rm cA) (d : decode cc pc = .ok (.istore i, 2)) (hi : i < L.length) (kk : hm_W C k n Q M (pc + 2) (L.set i (some (.int x))) st) : hm_W C k n Q M pc L (.int x :: st) := by
  obtain ⟨p, l, e, R, s, m, args, below, meth, c, D, cA', A⟩ := C
  obtain ⟨hx, hb, hr, hml, hown, hts, hlk, hG, hnm, rfl, rfl, hst⟩ := X
  exact fun H locs ls hP hA hS hl => lv_istore hx hb d hl.has hi rfl (fun ls' h' => kk H locs ls' hP hA hS (hl.set rfl h'))
theorem hr_astore_n {i : Fin 4} {v : Value} (X : hm_X C own cc nL ret nm rm cA) (d : decode cc pc = .ok (.astore_n i, 1)) (hi : (i : Nat) < L.length) (hv : v = .null ∨ ∃ a, v = .ref a) (kk : hm_W C k n Q M (pc + 1) (L.set (i : Nat) (some v)) st) : hm_W C k n Q M pc L (v :: st) := by
  obtain ⟨p, l, e, R, s, m, args, below, meth, c, D, cA', A⟩ := C
  obtain ⟨hx, hb, hr, hml, hown, hts, hlk, hG, hnm, rfl, rfl, hst⟩ := X
  intro H locs ls hP hA hS hl
  rcases hv with rfl | ⟨a, rfl⟩
  · exact lv_astore_nN hx hb d rfl hl.has hi rfl (fun ls' h' => kk H locs ls' hP hA hS (hl.set rfl h'))
  · exact lv_astore_n hx hb d rfl hl.has hi rfl (fun ls' h' => kk H locs ls' hP hA hS (hl.set rfl h'))
theorem hr_astore {i : Nat} {v : Value} (X : hm_X C own cc nL ret nm rm cA) (d : decode cc pc = .ok (.astore i, 2)) (hi : i < L.length) (hv : v = .null ∨ ∃ a, v = .ref a) (kk : hm_W C k n Q M (pc + 2) (L.set i (some v)) st) : hm_W C k n Q M pc L (v :: st) := by
  obtain ⟨p, l, e, R, s, m, args, below, meth, c, D, cA', A⟩ := C
  obtain ⟨hx, hb, hr, hml, hown, hts, hlk, hG, hnm, rfl, rfl, hst⟩ := X
  intro H locs ls hP hA hS hl
  rcases hv with rfl | ⟨a, rfl⟩
  · exact lv_astoreN hx hb d hl.has hi rfl (fun ls' h' => kk H locs ls' hP hA hS (hl.set rfl h'))
  · exact lv_astore hx hb d hl.has hi rfl (fun ls' h' => kk H locs ls' hP hA hS (hl.set rfl h'))
theorem hm_alk {L : List (Option Value)} {i : Nat} {v : Value} (h : L[i]? = some (some v)) : ∃ j : Nat, (hm_al 0 L)[j]? = some (i, v) := by
  have h1 := hm_al_in L 0 i v h
  rw [Nat.zero_add] at h1
  exact List.getElem?_of_mem h1
theorem hr_iinc {i : Nat} {z : Int} {x : Int32} (y : Int32) (X : hm_X C own cc nL ret nm rm cA) (d : decode cc pc = .ok (.iinc i z, 3)) (h : L[i]? = some (some (.int x))) (hz : Int32.ofInt z = y) (kk : hm_W C k n Q M (pc + 3) (L.set i (some (.int (x + y)))) st) : hm_W C k n Q M pc L st := by
  obtain ⟨p, l, e, R, s, m, args, below, meth, c, D, cA', A⟩ := C
  obtain ⟨hx, hb, hr, hml, hown, hts, hlk, hG, hnm, rfl, rfl, hst⟩ := X
  intro H locs ls hP hA hS hl
  obtain ⟨j, hj⟩ := hm_alk h
  exact lv_iinc (v := x + y) hx hb d hl.has hj (by rw [hz]) (List.getElem?_eq_some_iff.mp h).1 rfl (fun ls' h' => kk H locs ls' hP hA hS (hl.set rfl h'))
theorem hr_iadd {x y : Int32} (X : hm_X C own cc nL ret nm rm cA) (d : decode cc pc = .ok (.iadd, 1)) (kk : hm_W C k n Q M (pc + 1) L (.int (x + y) :: st)) : hm_W C k n Q M pc L (.int y :: .int x :: st) := by
  obtain ⟨p, l, e, R, s, m, args, below, meth, c, D, cA', A⟩ := C
  obtain ⟨hx, hb, hr, hml, hown, hts, hlk, hG, hnm, rfl, rfl, hst⟩ := X
  exact fun H locs ls hP hA hS hl => lv_iadd hx hb d (kk H locs ls hP hA hS hl)
theorem hr_isub {x y : Int32} (X : hm_X C own cc nL ret nm rm cA) (d : decode cc pc = .ok (.isub, 1)) (kk : hm_W C k n Q M (pc + 1) L (.int (x - y) :: st)) : hm_W C k n Q M pc L (.int y :: .int x :: st) := by
  obtain ⟨p, l, e, R, s, m, args, below, meth, c, D, cA', A⟩ := C
  obtain ⟨hx, hb, hr, hml, hown, hts, hlk, hG, hnm, rfl, rfl, hst⟩ := X
  exact fun H locs ls hP hA hS hl => lv_isub hx hb d (kk H locs ls hP hA hS hl)
theorem hr_imul {x y : Int32} (X : hm_X C own cc nL ret nm rm cA) (d : decode cc pc = .ok (.imul, 1)) (kk : hm_W C k n Q M (pc + 1) L (.int (x * y) :: st)) : hm_W C k n Q M pc L (.int y :: .int x :: st) := by
  obtain ⟨p, l, e, R, s, m, args, below, meth, c, D, cA', A⟩ := C
  obtain ⟨hx, hb, hr, hml, hown, hts, hlk, hG, hnm, rfl, rfl, hst⟩ := X
  exact fun H locs ls hP hA hS hl => lv_imul hx hb d (kk H locs ls hP hA hS hl)
theorem hr_iand {x y : Int32} (X : hm_X C own cc nL ret nm rm cA) (d : decode cc pc = .ok (.iand, 1)) (kk : hm_W C k n Q M (pc + 1) L (.int (x &&& y) :: st)) : hm_W C k n Q M pc L (.int y :: .int x :: st) := by
  obtain ⟨p, l, e, R, s, m, args, below, meth, c, D, cA', A⟩ := C
  obtain ⟨hx, hb, hr, hml, hown, hts, hlk, hG, hnm, rfl, rfl, hst⟩ := X
  exact fun H locs ls hP hA hS hl => lv_iand hx hb d (kk H locs ls hP hA hS hl)
theorem hr_ior {x y : Int32} (X : hm_X C own cc nL ret nm rm cA) (d : decode cc pc = .ok (.ior, 1)) (kk : hm_W C k n Q M (pc + 1) L (.int (x ||| y) :: st)) : hm_W C k n Q M pc L (.int y :: .int x :: st) := by
  obtain ⟨p, l, e, R, s, m, args, below, meth, c, D, cA', A⟩ := C
  obtain ⟨hx, hb, hr, hml, hown, hts, hlk, hG, hnm, rfl, rfl, hst⟩ := X
  exact fun H locs ls hP hA hS hl => lv_ior hx hb d (kk H locs ls hP hA hS hl)
theorem hr_ixor {x y : Int32} (X : hm_X C own cc nL ret nm rm cA) (d : decode cc pc = .ok (.ixor, 1)) (kk : hm_W C k n Q M (pc + 1) L (.int (x ^^^ y) :: st)) : hm_W C k n Q M pc L (.int y :: .int x :: st) := by
  obtain ⟨p, l, e, R, s, m, args, below, meth, c, D, cA', A⟩ := C
  obtain ⟨hx, hb, hr, hml, hown, hts, hlk, hG, hnm, rfl, rfl, hst⟩ := X
  exact fun H locs ls hP hA hS hl => lv_ixor hx hb d (kk H locs ls hP hA hS hl)
theorem hr_ishl {x y : Int32} (X : hm_X C own cc nL ret nm rm cA) (d : decode cc pc = .ok (.ishl, 1)) (kk : hm_W C k n Q M (pc + 1) L (.int (x <<< (y &&& 31)) :: st)) : hm_W C k n Q M pc L (.int y :: .int x :: st) := by
  obtain ⟨p, l, e, R, s, m, args, below, meth, c, D, cA', A⟩ := C
  obtain ⟨hx, hb, hr, hml, hown, hts, hlk, hG, hnm, rfl, rfl, hst⟩ := X
  exact fun H locs ls hP hA hS hl => lv_ishl hx hb d (kk H locs ls hP hA hS hl)
theorem hr_ishr {x y : Int32} (X : hm_X C own cc nL ret nm rm cA) (d : decode cc pc = .ok (.ishr, 1)) (kk : hm_W C k n Q M (pc + 1) L (.int (x >>> (y &&& 31)) :: st)) : hm_W C k n Q M pc L (.int y :: .int x :: st) := by
  obtain ⟨p, l, e, R, s, m, args, below, meth, c, D, cA', A⟩ := C
  obtain ⟨hx, hb, hr, hml, hown, hts, hlk, hG, hnm, rfl, rfl, hst⟩ := X
  exact fun H locs ls hP hA hS hl => lv_ishr hx hb d (kk H locs ls hP hA hS hl)
theorem hr_iushr {x y : Int32} (X : hm_X C own cc nL ret nm rm cA) (d : decode cc pc = .ok (.iushr, 1)) (kk : hm_W C k n Q M (pc + 1) L (.int ((x.toUInt32 >>> (y.toUInt32 &&& Int32.toUInt32 31)).toInt32) :: st)) : hm_W C k n Q M pc L (.int y :: .int x :: st) := by
  obtain ⟨p, l, e, R, s, m, args, below, meth, c, D, cA', A⟩ := C
  obtain ⟨hx, hb, hr, hml, hown, hts, hlk, hG, hnm, rfl, rfl, hst⟩ := X
  exact fun H locs ls hP hA hS hl => lv_iushr hx hb d rfl (kk H locs ls hP hA hS hl)
theorem hr_idiv {x y : Int32} (X : hm_X C own cc nL ret nm rm cA) (d : decode cc pc = .ok (.idiv, 1)) (h : ¬ y = 0) (kk : hm_W C k n Q M (pc + 1) L (.int (x / y) :: st)) : hm_W C k n Q M pc L (.int y :: .int x :: st) := by
  obtain ⟨p, l, e, R, s, m, args, below, meth, c, D, cA', A⟩ := C
  obtain ⟨hx, hb, hr, hml, hown, hts, hlk, hG, hnm, rfl, rfl, hst⟩ := X
  exact fun H locs ls hP hA hS hl => lv_idiv hx hb d h (kk H locs ls hP hA hS hl)
theorem hr_irem {x y : Int32} (X : hm_X C own cc nL ret nm rm cA) (d : decode cc pc = .ok (.irem, 1)) (h : ¬ y = 0) (kk : hm_W C k n Q M (pc + 1) L (.int (x - x / y * y) :: st)) : hm_W C k n Q M pc L (.int y :: .int x :: st) := by
  obtain ⟨p, l, e, R, s, m, args, below, meth, c, D, cA', A⟩ := C
  obtain ⟨hx, hb, hr, hml, hown, hts, hlk, hG, hnm, rfl, rfl, hst⟩ := X
  exact fun H locs ls hP hA hS hl => lv_irem hx hb d h (kk H locs ls hP hA hS hl)
theorem hr_ineg {x : Int32} (X : hm_X C own cc nL ret nm rm cA) (d : decode cc pc = .ok (.ineg, 1)) (kk : hm_W C k n Q M (pc + 1) L (.int (-x) :: st)) : hm_W C k n Q M pc L (.int x :: st) := by
  obtain ⟨p, l, e, R, s, m, args, below, meth, c, D, cA', A⟩ := C
  obtain ⟨hx, hb, hr, hml, hown, hts, hlk, hG, hnm, rfl, rfl, hst⟩ := X
  exact fun H locs ls hP hA hS hl => lv_ineg hx hb d (kk H locs ls hP hA hS hl)
theorem hr_i2l {x : Int32} (X : hm_X C own cc nL ret nm rm cA) (d : decode cc pc = .ok (.i2l, 1)) (kk : hm_W C k n Q M (pc + 1) L (.long x.toInt64 :: st)) : hm_W C k n Q M pc L (.int x :: st) := by
  obtain ⟨p, l, e, R, s, m, args, below, meth, c, D, cA', A⟩ := C
  obtain ⟨hx, hb, hr, hml, hown, hts, hlk, hG, hnm, rfl, rfl, hst⟩ := X
  exact fun H locs ls hP hA hS hl => lv_i2l hx hb d rfl (kk H locs ls hP hA hS hl)
theorem hr_lcmp {x y : Int64} (X : hm_X C own cc nL ret nm rm cA) (d : decode cc pc = .ok (.lcmp, 1)) (kk : hm_W C k n Q M (pc + 1) L (.int (lg_cmp x y) :: st)) : hm_W C k n Q M pc L (.long y :: .long x :: st) := by
  obtain ⟨p, l, e, R, s, m, args, below, meth, c, D, cA', A⟩ := C
  obtain ⟨hx, hb, hr, hml, hown, hts, hlk, hG, hnm, rfl, rfl, hst⟩ := X
  exact fun H locs ls hP hA hS hl => W.lcmp hx hb d (kk H locs ls hP hA hS hl)
theorem hr_dup {v : Value} (X : hm_X C own cc nL ret nm rm cA) (d : decode cc pc = .ok (.dup, 1)) (hv : v.category = 1) (kk : hm_W C k n Q M (pc + 1) L (v :: v :: st)) : hm_W C k n Q M pc L (v :: st) := by
  obtain ⟨p, l, e, R, s, m, args, below, meth, c, D, cA', A⟩ := C
  obtain ⟨hx, hb, hr, hml, hown, hts, hlk, hG, hnm, rfl, rfl, hst⟩ := X
  exact fun H locs ls hP hA hS hl => lv_dup hx hb d hv (kk H locs ls hP hA hS hl)
theorem hr_dup2 {v w : Value} (X : hm_X C own cc nL ret nm rm cA) (d : decode cc pc = .ok (.dup2, 1)) (hv : v.category = 1) (hw : w.category = 1) (kk : hm_W C k n Q M (pc + 1) L (v :: w :: v :: w :: st)) : hm_W C k n Q M pc L (v :: w :: st) := by
  obtain ⟨p, l, e, R, s, m, args, below, meth, c, D, cA', A⟩ := C
  obtain ⟨hx, hb, hr, hml, hown, hts, hlk, hG, hnm, rfl, rfl, hst⟩ := X
  exact fun H locs ls hP hA hS hl => lv_dup2_11 hx hb d hv hw (kk H locs ls hP hA hS hl)
theorem hr_goto {off : Int} (tgt : Nat) (X : hm_X C own cc nL ret nm rm cA) (d : decode cc pc = .ok (.goto off, 3)) (ht : (pc : Int) + off = (tgt : Int)) (kk : hm_W C k n Q M tgt L st) : hm_W C k n Q M pc L st := by
  obtain ⟨p, l, e, R, s, m, args, below, meth, c, D, cA', A⟩ := C
  obtain ⟨hx, hb, hr, hml, hown, hts, hlk, hG, hnm, rfl, rfl, hst⟩ := X
  exact fun H locs ls hP hA hS hl => lv_goto hx hb d ht (kk H locs ls hP hA hS hl)
theorem hr_if_eq {x : Int32} {off : Int} (tgt : Nat) (X : hm_X C own cc nL ret nm rm cA) (d : decode cc pc = .ok (.ifCond .eq off, 3)) (ht : (pc : Int) + off = (tgt : Int)) (kt : x = 0 → hm_W C k n Q M tgt L st) (kf : ¬ (x = 0) → hm_W C k n Q M (pc + 3) L st) : hm_W C k n Q M pc L (.int x :: st) := by
  obtain ⟨p, l, e, R, s, m, args, below, meth, c, D, cA', A⟩ := C
  obtain ⟨hx, hb, hr, hml, hown, hts, hlk, hG, hnm, rfl, rfl, hst⟩ := X
  exact fun H locs ls hP hA hS hl => lv_if_eq hx hb d ht (fun q => kt q H locs ls hP hA hS hl) (fun q => kf q H locs ls hP hA hS hl)
theorem hr_if_ne {x : Int32} {off : Int} (tgt : Nat) (X : hm_X C own cc nL ret nm rm cA) (d : decode cc pc = .ok (.ifCond .ne off, 3)) (ht : (pc : Int) + off = (tgt : Int)) (kt : ¬ x = 0 → hm_W C k n Q M tgt L st) (kf : x = 0 → hm_W C k n Q M (pc + 3) L st) : hm_W C k n Q M pc L (.int x :: st) := by
  obtain ⟨p, l, e, R, s, m, args, below, meth, c, D, cA', A⟩ := C
  obtain ⟨hx, hb, hr, hml, hown, hts, hlk, hG, hnm, rfl, rfl, hst⟩ := X
  exact fun H locs ls hP hA hS hl => lv_if_ne hx hb d ht (fun q => kt q H locs ls hP hA hS hl) (fun q => kf q H locs ls hP hA hS hl)
theorem hr_if_lt {x : Int32} {off : Int} (tgt : Nat) (X : hm_X C own cc nL ret nm rm cA) (d : decode cc pc = .ok (.ifCond .lt off, 3)) (ht : (pc : Int) + off = (tgt : Int)) (kt : x < 0 → hm_W C k n Q M tgt L st) (kf : ¬ (x < 0) → hm_W C k n Q M (pc + 3) L st) : hm_W C k n Q M pc L (.int x :: st) := by
  obtain ⟨p, l, e, R, s, m, args, below, meth, c, D, cA', A⟩ := C
  obtain ⟨hx, hb, hr, hml, hown, hts, hlk, hG, hnm, rfl, rfl, hst⟩ := X
  exact fun H locs ls hP hA hS hl => lv_if_lt hx hb d ht (fun q => kt q H locs ls hP hA hS hl) (fun q => kf q H locs ls hP hA hS hl)
theorem hr_if_ge {x : Int32} {off : Int} (tgt : Nat) (X : hm_X C own cc nL ret nm rm cA) (d : decode cc pc = .ok (.ifCond .ge off, 3)) (ht : (pc : Int) + off = (tgt : Int)) (kt : 0 ≤ x → hm_W C k n Q M tgt L st) (kf : ¬ (0 ≤ x) → hm_W C k n Q M (pc + 3) L st) : hm_W C k n Q M pc L (.int x :: st) := by
  obtain ⟨p, l, e, R, s, m, args, below, meth, c, D, cA', A⟩ := C
  obtain ⟨hx, hb, hr, hml, hown, hts, hlk, hG, hnm, rfl, rfl, hst⟩ := X
  exact fun H locs ls hP hA hS hl => lv_if_ge hx hb d ht (fun q => kt q H locs ls hP hA hS hl) (fun q => kf q H locs ls hP hA hS hl)
theorem hr_if_gt {x : Int32} {off : Int} (tgt : Nat) (X : hm_X C own cc nL ret nm rm cA) (d : decode cc pc = .ok (.ifCond .gt off, 3)) (ht : (pc : Int) + off = (tgt : Int)) (kt : 0 < x → hm_W C k n Q M tgt L st) (kf : ¬ (0 < x) → hm_W C k n Q M (pc + 3) L st) : hm_W C k n Q M pc L (.int x :: st) := by
  obtain ⟨p, l, e, R, s, m, args, below, meth, c, D, cA', A⟩ := C
  obtain ⟨hx, hb, hr, hml, hown, hts, hlk, hG, hnm, rfl, rfl, hst⟩ := X
  exact fun H locs ls hP hA hS hl => lv_if_gt hx hb d ht (fun q => kt q H locs ls hP hA hS hl) (fun q => kf q H locs ls hP hA hS hl)
theorem hr_if_le {x : Int32} {off : Int} (tgt : Nat) (X : hm_X C own cc nL ret nm rm cA) (d : decode cc pc = .ok (.ifCond .le off, 3)) (ht : (pc : Int) + off = (tgt : Int)) (kt : x ≤ 0 → hm_W C k n Q M tgt L st) (kf : ¬ (x ≤ 0) → hm_W C k n Q M (pc + 3) L st) : hm_W C k n Q M pc L (.int x :: st) := by
  obtain ⟨p, l, e, R, s, m, args, below, meth, c, D, cA', A⟩ := C
  obtain ⟨hx, hb, hr, hml, hown, hts, hlk, hG, hnm, rfl, rfl, hst⟩ := X
  exact fun H locs ls hP hA hS hl => lv_if_le hx hb d ht (fun q => kt q H locs ls hP hA hS hl) (fun q => kf q H locs ls hP hA hS hl)
theorem hr_icmp_eq {x y : Int32} {off : Int} (tgt : Nat) (X : hm_X C own cc nL ret nm rm cA) (d : decode cc pc = .ok (.if_icmp .eq off, 3)) (ht : (pc : Int) + off = (tgt : Int)) (kt : x = y → hm_W C k n Q M tgt L st) (kf : ¬ (x = y) → hm_W C k n Q M (pc + 3) L st) : hm_W C k n Q M pc L (.int y :: .int x :: st) := by
  obtain ⟨p, l, e, R, s, m, args, below, meth, c, D, cA', A⟩ := C
  obtain ⟨hx, hb, hr, hml, hown, hts, hlk, hG, hnm, rfl, rfl, hst⟩ := X
  exact fun H locs ls hP hA hS hl => lv_icmp_eq hx hb d ht (fun q => kt q H locs ls hP hA hS hl) (fun q => kf q H locs ls hP hA hS hl)
theorem hr_icmp_ne {x y : Int32} {off : Int} (tgt : Nat) (X : hm_X C own cc nL ret nm rm cA) (d : decode cc pc = .ok (.if_icmp .ne off, 3)) (ht : (pc : Int) + off = (tgt : Int)) (kt : ¬ x = y → hm_W C k n Q M tgt L st) (kf : x = y → hm_W C k n Q M (pc + 3) L st) : hm_W C k n Q M pc L (.int y :: .int x :: st) := by
  obtain ⟨p, l, e, R, s, m, args, below, meth, c, D, cA', A⟩ := C
  obtain ⟨hx, hb, hr, hml, hown, hts, hlk, hG, hnm, rfl, rfl, hst⟩ := X
  exact fun H locs ls hP hA hS hl => lv_icmp_ne hx hb d ht (fun q => kt q H locs ls hP hA hS hl) (fun q => kf q H locs ls hP hA hS hl)
theorem hr_icmp_lt {x y : Int32} {off : Int} (tgt : Nat) (X : hm_X C own cc nL ret nm rm cA) (d : decode cc pc = .ok (.if_icmp .lt off, 3)) (ht : (pc : Int) + off = (tgt : Int)) (kt : x < y → hm_W C k n Q M tgt L st) (kf : ¬ (x < y) → hm_W C k n Q M (pc + 3) L st) : hm_W C k n Q M pc L (.int y :: .int x :: st) := by
  obtain ⟨p, l, e, R, s, m, args, below, meth, c, D, cA', A⟩ := C
  obtain ⟨hx, hb, hr, hml, hown, hts, hlk, hG, hnm, rfl, rfl, hst⟩ := X
  exact fun H locs ls hP hA hS hl => lv_icmp_lt hx hb d ht (fun q => kt q H locs ls hP hA hS hl) (fun q => kf q H locs ls hP hA hS hl)
theorem hr_icmp_ge {x y : Int32} {off : Int} (tgt : Nat) (X : hm_X C own cc nL ret nm rm cA) (d : decode cc pc = .ok (.if_icmp .ge off, 3)) (ht : (pc : Int) + off = (tgt : Int)) (kt : y ≤ x → hm_W C k n Q M tgt L st) (kf : ¬ (y ≤ x) → hm_W C k n Q M (pc + 3) L st) : hm_W C k n Q M pc L (.int y :: .int x :: st) := by
  obtain ⟨p, l, e, R, s, m, args, below, meth, c, D, cA', A⟩ := C
  obtain ⟨hx, hb, hr, hml, hown, hts, hlk, hG, hnm, rfl, rfl, hst⟩ := X
  exact fun H locs ls hP hA hS hl => lv_icmp_ge hx hb d ht (fun q => kt q H locs ls hP hA hS hl) (fun q => kf q H locs ls hP hA hS hl)
theorem hr_icmp_gt {x y : Int32} {off : Int} (tgt : Nat) (X : hm_X C own cc nL ret nm rm cA) (d : decode cc pc = .ok (.if_icmp .gt off, 3)) (ht : (pc : Int) + off = (tgt : Int)) (kt : y < x → hm_W C k n Q M tgt L st) (kf : ¬ (y < x) → hm_W C k n Q M (pc + 3) L st) : hm_W C k n Q M pc L (.int y :: .int x :: st) := by
  obtain ⟨p, l, e, R, s, m, args, below, meth, c, D, cA', A⟩ := C
  obtain ⟨hx, hb, hr, hml, hown, hts, hlk, hG, hnm, rfl, rfl, hst⟩ := X
  exact fun H locs ls hP hA hS hl => lv_icmp_gt hx hb d ht (fun q => kt q H locs ls hP hA hS hl) (fun q => kf q H locs ls hP hA hS hl)
theorem hr_icmp_le {x y : Int32} {off : Int} (tgt : Nat) (X : hm_X C own cc nL ret nm rm cA) (d : decode cc pc = .ok (.if_icmp .le off, 3)) (ht : (pc : Int) + off = (tgt : Int)) (kt : x ≤ y → hm_W C k n Q M tgt L st) (kf : ¬ (x ≤ y) → hm_W C k n Q M (pc + 3) L st) : hm_W C k n Q M pc L (.int y :: .int x :: st) := by
  obtain ⟨p, l, e, R, s, m, args, below, meth, c, D, cA', A⟩ := C
  obtain ⟨hx, hb, hr, hml, hown, hts, hlk, hG, hnm, rfl, rfl, hst⟩ := X
  exact fun H locs ls hP hA hS hl => lv_icmp_le hx hb d ht (fun q => kt q H locs ls hP hA hS hl) (fun q => kf q H locs ls hP hA hS hl)
theorem hr_ifnull {o : Option Nat} {off : Int} (tgt : Nat) (X : hm_X C own cc nL ret nm rm cA) (d : decode cc pc = .ok (.ifnull off, 3)) (ht : (pc : Int) + off = (tgt : Int)) (kt : o = none → hm_W C k n Q M tgt L st) (kf : ∀ a, o = some a → hm_W C k n Q M (pc + 3) L st) : hm_W C k n Q M pc L (va_rf o :: st) := by
  obtain ⟨p, l, e, R, s, m, args, below, meth, c, D, cA', A⟩ := C
  obtain ⟨hx, hb, hr, hml, hown, hts, hlk, hG, hnm, rfl, rfl, hst⟩ := X
  intro H locs ls hP hA hS hl
  cases o with
  | none => exact lv_ifnullN hx hb d ht (kt rfl H locs ls hP hA hS hl)
  | some a => exact lv_ifnull hx hb d (kf a rfl H locs ls hP hA hS hl)
theorem hr_ifnonnull {o : Option Nat} {off : Int} (tgt : Nat) (X : hm_X C own cc nL ret nm rm cA) (d : decode cc pc = .ok (.ifnonnull off, 3)) (ht : (pc : Int) + off = (tgt : Int)) (kt : ∀ a, o = some a → hm_W C k n Q M tgt L st) (kf : o = none → hm_W C k n Q M (pc + 3) L st) : hm_W C k n Q M pc L (va_rf o :: st) := by
  obtain ⟨p, l, e, R, s, m, args, below, meth, c, D, cA', A⟩ := C
  obtain ⟨hx, hb, hr, hml, hown, hts, hlk, hG, hnm, rfl, rfl, hst⟩ := X
  intro H locs ls hP hA hS hl
  cases o with
  | none => exact lv_ifnonnullN hx hb d (kf rfl H locs ls hP hA hS hl)
  | some a => exact lv_ifnonnull hx hb d ht (kt a rfl H locs ls hP hA hS hl)
theorem hr_ifnullR {a : Nat} {off : Int} (X : hm_X C own cc nL ret nm rm cA) (d : decode cc pc = .ok (.ifnull off, 3)) (kk : hm_W C k n Q M (pc + 3) L st) : hm_W C k n Q M pc L (.ref a :: st) := by
  obtain ⟨p, l, e, R, s, m, args, below, meth, c, D, cA', A⟩ := C
  obtain ⟨hx, hb, hr, hml, hown, hts, hlk, hG, hnm, rfl, rfl, hst⟩ := X
  exact fun H locs ls hP hA hS hl => lv_ifnull hx hb d (kk H locs ls hP hA hS hl)
theorem hr_ifnonnullR {a : Nat} {off : Int} (tgt : Nat) (X : hm_X C own cc nL ret nm rm cA) (d : decode cc pc = .ok (.ifnonnull off, 3)) (ht : (pc : Int) + off = (tgt : Int)) (kk : hm_W C k n Q M tgt L st) : hm_W C k n Q M pc L (.ref a :: st) := by
  obtain ⟨p, l, e, R, s, m, args, below, meth, c, D, cA', A⟩ := C
  obtain ⟨hx, hb, hr, hml, hown, hts, hlk, hG, hnm, rfl, rfl, hst⟩ := X
  exact fun H locs ls hP hA hS hl => lv_ifnonnull hx hb d ht (kk H locs ls hP hA hS hl)
theorem hr_acmp_ne {rx ry : Option Nat} {off : Int} (tgt : Nat) (X : hm_X C own cc nL ret nm rm cA) (d : decode cc pc = .ok (.if_acmp .ne off, 3)) (ht : (pc : Int) + off = (tgt : Int)) (kt : ¬ rx = ry → hm_W C k n Q M tgt L st) (kf : rx = ry → hm_W C k n Q M (pc + 3) L st) : hm_W C k n Q M pc L (va_rf ry :: va_rf rx :: st) := by
  obtain ⟨p, l, e, R, s, m, args, below, meth, c, D, cA', A⟩ := C
  obtain ⟨hx, hb, hr, hml, hown, hts, hlk, hG, hnm, rfl, rfl, hst⟩ := X
  exact fun H locs ls hP hA hS hl => lv_acmp_ne hx hb d ht (fun q => kt q H locs ls hP hA hS hl) (fun q => kf q H locs ls hP hA hS hl)
/-- a field's place: the field k of the objects ci, as own's entry idx links it -/
def hm_lF (own : String) (idx ci k : Nat) (rt : FieldType) (fin ini : Bool) : Prop := ∃ (E : String) (T : u_T) (N : Nat) (ty0 : Nat → FieldType), vwCl[ci]? = some (E, T, N) ∧ k < N ∧ Cond.fieldLink own idx (T k).1 (T k).2.1 (T k).2.2.1 ∈ hm_tbl ∧ (∀ w ∈ u_ws E T N, w ∈ hm_tbl) ∧ (∀ j, j < N → parseFieldDescriptor (T j).2.2.1 = some (ty0 j)) ∧ (∀ a, a < N → ∀ b, b < N → a ≠ b → (T a).2.1 ≠ (T b).2.1) ∧ ty0 k = rt ∧ (T k).2.2.2 = fin ∧ (ini = true → fin = true ∧ (T k).1 = own)
theorem hr_get {idx ci j a : Nat} {rt : FieldType} {fin ini : Bool} {fs : List Value} {v : Value} (X : hm_X C own cc nL ret nm rm cA) (lF : hm_lF own idx ci j rt fin ini) (d : decode cc pc = .ok (.getfield idx, 3)) (hM : M a = some (.inr (ci, fs))) (hv : fs[j]? = some v) (kk : hm_W C k n Q M (pc + 3) L (v :: st)) : hm_W C k n Q M pc L (.ref a :: st) := by
  obtain ⟨p, l, e, R, s, m, args, below, meth, c, D, cA', A⟩ := C
  obtain ⟨hx, hb, hr, hml, hown, hts, hlk, hG, hnm, rfl, rfl, hst⟩ := X
  obtain ⟨E, T, N, ty0, h1, h2, h3, h4, -⟩ := lF
  exact fun H locs ls hP hA hS hl => va_get (D := D) (cl := vwCl) (tys := hm_tys cA') hx hb hts h4 hown hG.1 (hm_one hP hM) 0 rfl h1 j h2 (hts _ h3) (fun _ h => h) hv d (kk H locs ls hP hA hS hl)
theorem hr_put {idx ci j a : Nat} {rt : FieldType} {ini : Bool} {fs : List Value} {v : Value} (X : hm_X C own cc nL ret nm rm cA) (lF : hm_lF own idx ci j rt false ini) (d : decode cc pc = .ok (.putfield idx, 3)) (hM : M a = some (.inr (ci, fs))) (hn : narrow rt v = v) (hf : fits rt v = true) (hl0 : j < fs.length) (kk : hm_W C k n Q (hm_up M a (.inr (ci, fs.set j v))) (pc + 3) L st) : hm_W C k n Q M pc L (v :: .ref a :: st) := by
  obtain ⟨p, l, e, R, s, m, args, below, meth, c, D, cA', A⟩ := C
  obtain ⟨hx, hb, hr, hml, hown, hts, hlk, hG, hnm, rfl, rfl, hst⟩ := X
  obtain ⟨E, T, N, ty0, h1, h2, h3, h4, h5, h6, rfl, h8, h9⟩ := lF
  intro H locs ls hP hA hS hl
  obtain ⟨ws, wP, wD, hin', -⟩ := hm_list hP hA
  obtain ⟨q0, hq⟩ := hin' _ _ hM
  exact va_put (D := D) (cl := vwCl) (tys := hm_tys cA') hx hb hts h4 ty0 h5 h6 hown hG.1 wP wD hS q0 hq h1 j h2 (hts _ h3) (fun _ h => h) h8 (h5 j h2) hn hf hl0 d (fun H1 locs1 p1 _ s1 => kk H1 locs1 ls (hm_set hin' hq p1) (hA.up (hA _ _ hM)) s1 hl)
theorem hr_putF {idx ci j a : Nat} {rt : FieldType} {ini : Bool} {fs : List Value} {v : Value} (X : hm_X C own cc nL ret nm rm cA) (lF : hm_lF own idx ci j rt true true) (d : decode cc pc = .ok (.putfield idx, 3)) (hM : M a = some (.inr (ci, fs))) (hn : narrow rt v = v) (hf : fits rt v = true) (hl0 : j < fs.length) (hin : nm = "<init>") (kk : hm_W C k n Q (hm_up M a (.inr (ci, fs.set j v))) (pc + 3) L st) : hm_W C k n Q M pc L (v :: .ref a :: st) := by
  obtain ⟨p, l, e, R, s, m, args, below, meth, c, D, cA', A⟩ := C
  obtain ⟨hx, hb, hr, hml, hown, hts, hlk, hG, hnm, rfl, rfl, hst⟩ := X
  obtain ⟨E, T, N, ty0, h1, h2, h3, h4, h5, h6, rfl, h8, h9⟩ := lF
  intro H locs ls hP hA hS hl
  obtain ⟨ws, wP, wD, hin', -⟩ := hm_list hP hA
  obtain ⟨q0, hq⟩ := hin' _ _ hM
  exact va_putF (D := D) (cl := vwCl) (tys := hm_tys cA') hx hb hts h4 ty0 h5 h6 hown hG.1 wP wD hS q0 hq h1 j h2 (hts _ h3) (fun _ h => h) h8 (hnm.trans hin) (h9 rfl).2 (h5 j h2) hn hf hl0 d (fun H1 locs1 p1 _ s1 => kk H1 locs1 ls (hm_set hin' hq p1) (hA.up (hA _ _ hM)) s1 hl)
theorem hr_iald {a N : Nat} {f : Nat → Int32} {i : Int32} (X : hm_X C own cc nL ret nm rm cA) (d : decode cc pc = .ok (.iaload, 1)) (hM : M a = some (.inl (cA 0, N, .inl f))) (hi : vp_in i N) (kk : hm_W C k n Q M (pc + 1) L (.int (f i.toNatClampNeg) :: st)) : hm_W C k n Q M pc L (.int i :: .ref a :: st) := by
  obtain ⟨p, l, e, R, s, m, args, below, meth, c, D, cA', A⟩ := C
  obtain ⟨hx, hb, hr, hml, hown, hts, hlk, hG, hnm, rfl, rfl, hst⟩ := X
  exact fun H locs ls hP hA hS hl => va_iald (D := D) (cl := vwCl) (tys := hm_tys cA') hx hb hG.1 (hm_one hP hM) 0 0 rfl rfl hi d (kk H locs ls hP hA hS hl)
theorem hr_zald {a N : Nat} {f : Nat → Int32} {i : Int32} (X : hm_X C own cc nL ret nm rm cA) (d : decode cc pc = .ok (.baload, 1)) (hM : M a = some (.inl (cA 1, N, .inl f))) (hi : vp_in i N) (kk : hm_W C k n Q M (pc + 1) L (.int (f i.toNatClampNeg) :: st)) : hm_W C k n Q M pc L (.int i :: .ref a :: st) := by
  obtain ⟨p, l, e, R, s, m, args, below, meth, c, D, cA', A⟩ := C
  obtain ⟨hx, hb, hr, hml, hown, hts, hlk, hG, hnm, rfl, rfl, hst⟩ := X
  exact fun H locs ls hP hA hS hl => va_zald (D := D) (cl := vwCl) (tys := hm_tys cA') hx hb hG.1 (hm_one hP hM) 0 1 rfl rfl hi d (kk H locs ls hP hA hS hl)
theorem hr_iast {a N : Nat} {f : Nat → Int32} {i : Int32} {x : Int32} (X : hm_X C own cc nL ret nm rm cA) (d : decode cc pc = .ok (.iastore, 1)) (hM : M a = some (.inl (cA 0, N, .inl f))) (hi : vp_in i N) (kk : hm_W C k n Q (hm_up M a (.inl (cA 0, N, .inl (upd f i.toNatClampNeg x)))) (pc + 1) L st) : hm_W C k n Q M pc L (.int x :: .int i :: .ref a :: st) := by
  obtain ⟨p, l, e, R, s, m, args, below, meth, c, D, cA', A⟩ := C
  obtain ⟨hx, hb, hr, hml, hown, hts, hlk, hG, hnm, rfl, rfl, hst⟩ := X
  intro H locs ls hP hA hS hl
  obtain ⟨ws, wP, wD, hin', -⟩ := hm_list hP hA
  obtain ⟨q0, hq⟩ := hin' _ _ hM
  exact va_iast (D := D) (cl := vwCl) (tys := hm_tys cA') hx hb hG.1 wP wD hS q0 0 hq rfl hi d (fun H1 locs1 p1 _ s1 => kk H1 locs1 ls (hm_set hin' hq p1) (hA.up (hA _ _ hM)) s1 hl)
theorem hr_zast {a N : Nat} {f : Nat → Int32} {i : Int32} {x : Int32} (X : hm_X C own cc nL ret nm rm cA) (d : decode cc pc = .ok (.bastore, 1)) (hM : M a = some (.inl (cA 1, N, .inl f))) (hi : vp_in i N) (kk : hm_W C k n Q (hm_up M a (.inl (cA 1, N, .inl (upd f i.toNatClampNeg (vp_nar .boolean x))))) (pc + 1) L st) : hm_W C k n Q M pc L (.int x :: .int i :: .ref a :: st) := by
  obtain ⟨p, l, e, R, s, m, args, below, meth, c, D, cA', A⟩ := C
  obtain ⟨hx, hb, hr, hml, hown, hts, hlk, hG, hnm, rfl, rfl, hst⟩ := X
  intro H locs ls hP hA hS hl
  obtain ⟨ws, wP, wD, hin', -⟩ := hm_list hP hA
  obtain ⟨q0, hq⟩ := hin' _ _ hM
  exact va_zast (D := D) (cl := vwCl) (tys := hm_tys cA') hx hb hG.1 wP wD hS q0 1 hq rfl hi d (fun H1 locs1 p1 _ s1 => kk H1 locs1 ls (hm_set hin' hq p1) (hA.up (hA _ _ hM)) s1 hl)
theorem hr_aald (t : Nat) {a N : Nat} {f : Nat → Option Nat} {i : Int32} {E : String} (X : hm_X C own cc nL ret nm rm cA) (ht : (hm_tys cA)[t]? = some (cA t, .object E)) (d : decode cc pc = .ok (.aaload, 1)) (hM : M a = some (.inl (cA t, N, .inr (.inr (.inr (.inr f)))))) (hi : vp_in i N) (kk : hm_W C k n Q M (pc + 1) L (va_rf (f i.toNatClampNeg) :: st)) : hm_W C k n Q M pc L (.int i :: .ref a :: st) := by
  obtain ⟨p, l, e, R, s, m, args, below, meth, c, D, cA', A⟩ := C
  obtain ⟨hx, hb, hr, hml, hown, hts, hlk, hG, hnm, rfl, rfl, hst⟩ := X
  exact fun H locs ls hP hA hS hl => va_aldq (D := D) (cl := vwCl) (tys := hm_tys cA') hx hb hG.1 (hm_one hP hM) 0 t rfl ht hi d (kk H locs ls hP hA hS hl)
theorem hr_aast (t ci : Nat) {a N v : Nat} {f : Nat → Option Nat} {i : Int32} {r : vw_C} {vs : List Value} (X : hm_X C own cc nL ret nm rm cA) (ht : (hm_tys cA)[t]? = some (cA t, .object r.1)) (hc : vwCl[ci]? = some r) (d : decode cc pc = .ok (.aastore, 1)) (hM : M a = some (.inl (cA t, N, .inr (.inr (.inr (.inr f)))))) (hv : M v = some (.inr (ci, vs))) (hi : vp_in i N) (kk : hm_W C k n Q (hm_up M a (.inl (cA t, N, .inr (.inr (.inr (.inr (va_up f i.toNatClampNeg (some v)))))))) (pc + 1) L st) : hm_W C k n Q M pc L (.ref v :: .int i :: .ref a :: st) := by
  obtain ⟨p, l, e, R, s, m, args, below, meth, c, D, cA', A⟩ := C
  obtain ⟨hx, hb, hr, hml, hown, hts, hlk, hG, hnm, rfl, rfl, hst⟩ := X
  intro H locs ls hP hA hS hl
  obtain ⟨ws, wP, wD, hin', -⟩ := hm_list hP hA
  obtain ⟨q0, hq⟩ := hin' _ _ hM
  obtain ⟨q1, hq1⟩ := hin' _ _ hv
  exact va_astq (D := D) (cl := vwCl) (tys := hm_tys cA') hx hb hG.1 wP wD hS q0 t q1 ci hq ht hq1 hc hi d (fun H1 locs1 p1 _ s1 => kk H1 locs1 ls (hm_set hin' hq p1) (hA.up (hA _ _ hM)) s1 hl)
theorem hr_aastN (t : Nat) {a N : Nat} {f : Nat → Option Nat} {i : Int32} {E : String} (X : hm_X C own cc nL ret nm rm cA) (ht : (hm_tys cA)[t]? = some (cA t, .object E)) (d : decode cc pc = .ok (.aastore, 1)) (hM : M a = some (.inl (cA t, N, .inr (.inr (.inr (.inr f)))))) (hi : vp_in i N) (kk : hm_W C k n Q (hm_up M a (.inl (cA t, N, .inr (.inr (.inr (.inr (va_up f i.toNatClampNeg none))))))) (pc + 1) L st) : hm_W C k n Q M pc L (.null :: .int i :: .ref a :: st) := by
  obtain ⟨p, l, e, R, s, m, args, below, meth, c, D, cA', A⟩ := C
  obtain ⟨hx, hb, hr, hml, hown, hts, hlk, hG, hnm, rfl, rfl, hst⟩ := X
  intro H locs ls hP hA hS hl
  obtain ⟨ws, wP, wD, hin', -⟩ := hm_list hP hA
  obtain ⟨q0, hq⟩ := hin' _ _ hM
  exact va_astqN (D := D) (cl := vwCl) (tys := hm_tys cA') hx hb hG.1 wP wD hS q0 t hq ht hi d (fun H1 locs1 p1 _ s1 => kk H1 locs1 ls (hm_set hin' hq p1) (hA.up (hA _ _ hM)) s1 hl)
theorem hm_end {D : va_G} {A : Nat → Prop} {s t : State} {M : hm_M} {H : Heap} {locs : List Loc} {post : Option Value → hm_M → Prop} {v : Option Value} {args : Array Value} (hP : hm_P D M H) (hA : hm_A A M) (hS : va_S A s.heap H locs) (ht : t.heap = H) (hp : post v M) : hm_Q D A post args s (.returned v) t := ⟨⟨v, M, rfl, hp, by rw [ht]; exact hP, hA⟩, hS.F ht⟩
theorem hr_iret {v : Int32} {post : Option Value → hm_M → Prop} {mc ms : Nat} (X : hm_X C own cc nL (some .int) nm rm cA) (d : decode cc pc = .ok (.ireturn, 1)) (h1 : k ≤ mc) (h2 : n ≤ ms) (hp : post (some (.int v)) M) : hm_W C k n (hm_T C post mc ms) M pc L [.int v] := by
  obtain ⟨p, l, e, R, s, m, args, below, meth, c, D, cA', A⟩ := C
  obtain ⟨hx, hb, hr, hml, hown, hts, hlk, hG, hnm, rfl, rfl, hst⟩ := X
  exact fun H locs ls hP hA hS hl => W.widen h1 h2 ((W.iret hx hb hr (fun t ht _ => hm_end hP hA hS ht hp) hS.2.2 d hlk))
theorem hr_iretX {v : Int32} {post : Option Value → hm_M → Prop} {px : String → hm_M → Prop} {mc ms : Nat} (X : hm_X C own cc nL (some .int) nm rm cA) (d : decode cc pc = .ok (.ireturn, 1)) (h1 : k ≤ mc) (h2 : n ≤ ms) (hp : post (some (.int v)) M) : hm_W C k n (hm_TX C post px mc ms) M pc L [.int v] := by
  obtain ⟨p, l, e, R, s, m, args, below, meth, c, D, cA', A⟩ := C
  obtain ⟨hx, hb, hr, hml, hown, hts, hlk, hG, hnm, rfl, rfl, hst⟩ := X
  exact fun H locs ls hP hA hS hl => W.widen h1 h2 (vx_ret (W.iret hx hb hr (fun t ht _ => hm_end hP hA hS ht hp) hS.2.2 d hlk))
theorem hr_zret {v : Int32} {post : Option Value → hm_M → Prop} {mc ms : Nat} (X : hm_X C own cc nL (some .boolean) nm rm cA) (d : decode cc pc = .ok (.ireturn, 1)) (hz : narrow .boolean (.int v) = .int v) (h1 : k ≤ mc) (h2 : n ≤ ms) (hp : post (some (.int v)) M) : hm_W C k n (hm_T C post mc ms) M pc L [.int v] := by
  obtain ⟨p, l, e, R, s, m, args, below, meth, c, D, cA', A⟩ := C
  obtain ⟨hx, hb, hr, hml, hown, hts, hlk, hG, hnm, rfl, rfl, hst⟩ := X
  exact fun H locs ls hP hA hS hl => W.widen h1 h2 ((W.zret hx hb hr hz (fun t ht _ => hm_end hP hA hS ht hp) hS.2.2 d hlk))
theorem hr_zretX {v : Int32} {post : Option Value → hm_M → Prop} {px : String → hm_M → Prop} {mc ms : Nat} (X : hm_X C own cc nL (some .boolean) nm rm cA) (d : decode cc pc = .ok (.ireturn, 1)) (hz : narrow .boolean (.int v) = .int v) (h1 : k ≤ mc) (h2 : n ≤ ms) (hp : post (some (.int v)) M) : hm_W C k n (hm_TX C post px mc ms) M pc L [.int v] := by
  obtain ⟨p, l, e, R, s, m, args, below, meth, c, D, cA', A⟩ := C
  obtain ⟨hx, hb, hr, hml, hown, hts, hlk, hG, hnm, rfl, rfl, hst⟩ := X
  exact fun H locs ls hP hA hS hl => W.widen h1 h2 (vx_ret (W.zret hx hb hr hz (fun t ht _ => hm_end hP hA hS ht hp) hS.2.2 d hlk))
theorem hr_vret {post : Option Value → hm_M → Prop} {mc ms : Nat} (X : hm_X C own cc nL none nm rm cA) (d : decode cc pc = .ok (.return_, 1)) (h1 : k ≤ mc) (h2 : n ≤ ms) (hp : post (none) M) : hm_W C k n (hm_T C post mc ms) M pc L [] := by
  obtain ⟨p, l, e, R, s, m, args, below, meth, c, D, cA', A⟩ := C
  obtain ⟨hx, hb, hr, hml, hown, hts, hlk, hG, hnm, rfl, rfl, hst⟩ := X
  exact fun H locs ls hP hA hS hl => W.widen h1 h2 ((W.vret hx hb hr (fun t ht _ => hm_end hP hA hS ht hp) hS.2.2 d hlk))
theorem hr_vretX {post : Option Value → hm_M → Prop} {px : String → hm_M → Prop} {mc ms : Nat} (X : hm_X C own cc nL none nm rm cA) (d : decode cc pc = .ok (.return_, 1)) (h1 : k ≤ mc) (h2 : n ≤ ms) (hp : post (none) M) : hm_W C k n (hm_TX C post px mc ms) M pc L [] := by
  obtain ⟨p, l, e, R, s, m, args, below, meth, c, D, cA', A⟩ := C
  obtain ⟨hx, hb, hr, hml, hown, hts, hlk, hG, hnm, rfl, rfl, hst⟩ := X
  exact fun H locs ls hP hA hS hl => W.widen h1 h2 (vx_ret (W.vret hx hb hr (fun t ht _ => hm_end hP hA hS ht hp) hS.2.2 d hlk))
theorem hr_aret {E : String} {v : Value} {post : Option Value → hm_M → Prop} {mc ms : Nat} (X : hm_X C own cc nL (some (.object E)) nm rm cA) (d : decode cc pc = .ok (.areturn, 1)) (hv : v = .null ∨ ∃ a, v = .ref a) (h1 : k ≤ mc) (h2 : n ≤ ms) (hp : post (some v) M) : hm_W C k n (hm_T C post mc ms) M pc L [v] := by
  obtain ⟨p, l, e, R, s, m, args, below, meth, c, D, cA', A⟩ := C
  obtain ⟨hx, hb, hr, hml, hown, hts, hlk, hG, hnm, rfl, rfl, hst⟩ := X
  exact fun H locs ls hP hA hS hl => W.widen h1 h2 ((W.aret hx hb hr (Or.inl ⟨_, rfl⟩) hv (fun t ht _ => hm_end hP hA hS ht hp) hS.2.2 d hlk))
theorem hr_aretX {E : String} {v : Value} {post : Option Value → hm_M → Prop} {px : String → hm_M → Prop} {mc ms : Nat} (X : hm_X C own cc nL (some (.object E)) nm rm cA) (d : decode cc pc = .ok (.areturn, 1)) (hv : v = .null ∨ ∃ a, v = .ref a) (h1 : k ≤ mc) (h2 : n ≤ ms) (hp : post (some v) M) : hm_W C k n (hm_TX C post px mc ms) M pc L [v] := by
  obtain ⟨p, l, e, R, s, m, args, below, meth, c, D, cA', A⟩ := C
  obtain ⟨hx, hb, hr, hml, hown, hts, hlk, hG, hnm, rfl, rfl, hst⟩ := X
  exact fun H locs ls hP hA hS hl => W.widen h1 h2 (vx_ret (W.aret hx hb hr (Or.inl ⟨_, rfl⟩) hv (fun t ht _ => hm_end hP hA hS ht hp) hS.2.2 d hlk))
end HR
