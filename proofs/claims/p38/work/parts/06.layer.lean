/-! MY LAYER: what is known of the heap is a function from addresses to contents (hm_M); one judgement hm_W; one row an instruction. -/
abbrev hm_M : Type := Nat → Option va_E
def hm_up (M : hm_M) (a : Nat) (e : va_E) : hm_M := fun x => if x = a then some e else M x
theorem hm_up_s {M : hm_M} {a : Nat} {e : va_E} : hm_up M a e a = some e := if_pos rfl
theorem hm_up_n {M : hm_M} {a x : Nat} {e : va_E} (h : x ≠ a) : hm_up M a e x = M x := if_neg h
def hm_P (D : va_G) (M : hm_M) (H : Heap) : Prop := ∀ (a : Nat) (e : va_E), M a = some e → va_at D vwCl (a, e) H
def hm_A (A : Nat → Prop) (M : hm_M) : Prop := ∀ (a : Nat) (e : va_E), M a = some e → A a
theorem hm_app_get {α : Type} {l : List α} {x q : α} {k : Nat} (h : (l ++ [x])[k]? = some q) : l[k]? = some q ∨ (k = l.length ∧ q = x) := by
  by_cases hl : k < l.length
  · rw [List.getElem?_append_left hl] at h
    exact Or.inl h
  · rw [List.getElem?_append_right (by omega)] at h
    have hz : k - l.length < 1 := (List.getElem?_eq_some_iff.mp h).1
    rw [show k - l.length = 0 by omega] at h
    cases h
    exact Or.inr ⟨by omega, rfl⟩
theorem hm_list_n (M : hm_M) : ∀ n : Nat, ∃ ws : va_W, (∀ (k : Nat) (q : Nat × va_E), ws[k]? = some q → M q.1 = some q.2 ∧ q.1 < n) ∧ (∀ (a : Nat) (e : va_E), a < n → M a = some e → ∃ k : Nat, ws[k]? = some (a, e)) ∧ (∀ (i j : Nat) (p q : Nat × va_E), ws[i]? = some p → ws[j]? = some q → p.1 = q.1 → i = j)
  | 0 => ⟨[], fun k q h => by simp at h, fun a e h => absurd h (Nat.not_lt_zero a), fun i j p q h => by simp at h⟩
  | n + 1 => by
    obtain ⟨ws, h1, h2, h3⟩ := hm_list_n M n
    cases hM : M n with
    | none =>
      refine ⟨ws, fun k q h => ⟨(h1 k q h).1, Nat.lt_succ_of_lt (h1 k q h).2⟩, fun a e ha he => ?_, h3⟩
      rcases Nat.lt_succ_iff_lt_or_eq.mp ha with h | h
      · exact h2 a e h he
      · subst h
        rw [hM] at he
        cases he
    | some e0 =>
      refine ⟨ws ++ [(n, e0)], fun k q h => ?_, fun a e ha he => ?_, fun i j p q hi hj hpq => ?_⟩
      · rcases hm_app_get h with h | ⟨-, rfl⟩
        · exact ⟨(h1 k q h).1, Nat.lt_succ_of_lt (h1 k q h).2⟩
        · exact ⟨hM, Nat.lt_succ_self n⟩
      · rcases Nat.lt_succ_iff_lt_or_eq.mp ha with h | h
        · obtain ⟨k, hk⟩ := h2 a e h he
          exact ⟨k, by rw [List.getElem?_append_left (List.getElem?_eq_some_iff.mp hk).1]; exact hk⟩
        · subst h
          rw [hM] at he
          cases he
          exact ⟨ws.length, by rw [List.getElem?_append_right (Nat.le_refl _), Nat.sub_self]; rfl⟩
      · rcases hm_app_get hi with hi | ⟨ei, rfl⟩ <;> rcases hm_app_get hj with hj | ⟨ej, rfl⟩
        · exact h3 i j p q hi hj hpq
        · have := (h1 i p hi).2
          rw [hpq] at this
          exact absurd this (Nat.lt_irrefl n)
        · have := (h1 j q hj).2
          rw [← hpq] at this
          exact absurd this (Nat.lt_irrefl n)
        · rw [ei, ej]
theorem hm_list {D : va_G} {A : Nat → Prop} {M : hm_M} {H : Heap} (hP : hm_P D M H) (hA : hm_A A M) : ∃ ws : va_W, va_P D vwCl ws H ∧ va_D A ws ∧ (∀ (a : Nat) (e : va_E), M a = some e → ∃ k : Nat, ws[k]? = some (a, e)) ∧ (∀ (k : Nat) (q : Nat × va_E), ws[k]? = some q → M q.1 = some q.2) := by
  obtain ⟨ws, h1, h2, h3⟩ := hm_list_n M H.size
  exact ⟨ws, fun k q h => hP q.1 q.2 (h1 k q h).1, ⟨h3, fun k q h => hA q.1 q.2 (h1 k q h).1⟩, fun a e h => h2 a e (hP a e h).lt h, fun k q h => (h1 k q h).1⟩
theorem hm_set {D : va_G} {M : hm_M} {ws : va_W} {k a : Nat} {e0 e : va_E} {H1 : Heap} (hin : ∀ (a : Nat) (e : va_E), M a = some e → ∃ k : Nat, ws[k]? = some (a, e)) (hk : ws[k]? = some (a, e0)) (hP1 : va_P D vwCl (ws.set k (a, e)) H1) : hm_P D (hm_up M a e) H1 := by
  intro x e' hx
  by_cases hxa : x = a
  · subst hxa
    rw [hm_up_s] at hx
    cases hx
    exact hP1 k (x, e) (List.getElem?_set_self (List.getElem?_eq_some_iff.mp hk).1)
  · rw [hm_up_n hxa] at hx
    obtain ⟨j, hj⟩ := hin x e' hx
    have hkj : k ≠ j := fun h => by
      subst h
      rw [hk] at hj
      cases hj
      exact hxa rfl
    exact hP1 j (x, e') (by rw [List.getElem?_set_ne hkj]; exact hj)
theorem hm_new {D : va_G} {M : hm_M} {ws : va_W} {a : Nat} {e : va_E} {H1 : Heap} (hin : ∀ (a : Nat) (e : va_E), M a = some e → ∃ k : Nat, ws[k]? = some (a, e)) (hP1 : va_P D vwCl (ws ++ [(a, e)]) H1) : hm_P D (hm_up M a e) H1 := by
  intro x e' hx
  by_cases hxa : x = a
  · subst hxa
    rw [hm_up_s] at hx
    cases hx
    exact hP1 ws.length (x, e) (by rw [List.getElem?_append_right (Nat.le_refl _), Nat.sub_self]; rfl)
  · rw [hm_up_n hxa] at hx
    obtain ⟨j, hj⟩ := hin x e' hx
    exact hP1 j (x, e') (by rw [List.getElem?_append_left (List.getElem?_eq_some_iff.mp hj).1]; exact hj)
theorem hm_fresh {A : Nat → Prop} {M : hm_M} {ws : va_W} {a : Nat} {e : va_E} (hin : ∀ (a : Nat) (e : va_E), M a = some e → ∃ k : Nat, ws[k]? = some (a, e)) (hD : va_D A (ws ++ [(a, e)])) : M a = none := by
  cases h : M a with
  | none => rfl
  | some e2 =>
    obtain ⟨j, hj⟩ := hin a e2 h
    have hl := (List.getElem?_eq_some_iff.mp hj).1
    have h1 : (ws ++ [(a, e)])[j]? = some (a, e2) := by rw [List.getElem?_append_left hl]; exact hj
    have h2 : (ws ++ [(a, e)])[ws.length]? = some (a, e) := by rw [List.getElem?_append_right (Nat.le_refl _), Nat.sub_self]; rfl
    have := hD.1 j ws.length _ _ h1 h2 rfl
    omega
theorem hm_A.up {A : Nat → Prop} {M : hm_M} {a : Nat} {e : va_E} (h : hm_A A M) (ha : A a) : hm_A A (hm_up M a e) := by
  intro x e' hx
  by_cases hxa : x = a
  · rw [hxa]; exact ha
  · rw [hm_up_n hxa] at hx
    exact h x e' hx
theorem hm_one {D : va_G} {M : hm_M} {H : Heap} {a : Nat} {e : va_E} (hP : hm_P D M H) (h : M a = some e) : va_P D vwCl [(a, e)] H := by
  intro k q hk
  have hz : k < 1 := (List.getElem?_eq_some_iff.mp hk).1
  rw [show k = 0 by omega] at hk
  cases hk
  exact hP a e h
/-! locals -/
def hm_al : Nat → List (Option Value) → List (Nat × Value)
  | _, [] => []
  | n, none :: L => hm_al (n + 1) L
  | n, some v :: L => (n, v) :: hm_al (n + 1) L
theorem hm_al_in : ∀ (L : List (Option Value)) (n i : Nat) (v : Value), L[i]? = some (some v) → (n + i, v) ∈ hm_al n L
  | [], n, i, v, h => by simp at h
  | none :: L, n, 0, v, h => by simp at h
  | none :: L, n, i + 1, v, h => by
    rw [List.getElem?_cons_succ] at h
    have := hm_al_in L (n + 1) i v h
    rw [show n + 1 + i = n + (i + 1) by omega] at this
    exact this
  | some w :: L, n, 0, v, h => by
    rw [List.getElem?_cons_zero] at h
    cases h
    exact List.mem_cons_self
  | some w :: L, n, i + 1, v, h => by
    rw [List.getElem?_cons_succ] at h
    have := hm_al_in L (n + 1) i v h
    rw [show n + 1 + i = n + (i + 1) by omega] at this
    exact List.mem_cons_of_mem _ this
theorem hm_al_of : ∀ (L : List (Option Value)) (n j : Nat) (v : Value), (j, v) ∈ hm_al n L → ∃ i : Nat, j = n + i ∧ L[i]? = some (some v)
  | [], n, j, v, h => by simp [hm_al] at h
  | none :: L, n, j, v, h => by
    obtain ⟨i, h1, h2⟩ := hm_al_of L (n + 1) j v h
    exact ⟨i + 1, by omega, by rw [List.getElem?_cons_succ]; exact h2⟩
  | some w :: L, n, j, v, h => by
    rcases List.mem_cons.mp h with h | h
    · cases h
      exact ⟨0, rfl, rfl⟩
    · obtain ⟨i, h1, h2⟩ := hm_al_of L (n + 1) j v h
      exact ⟨i + 1, by omega, by rw [List.getElem?_cons_succ]; exact h2⟩
def hm_L (ls : Array Slot) (L : List (Option Value)) : Prop := ls.size = L.length ∧ lv_wf ls ∧ ∀ (i : Nat) (v : Value), L[i]? = some (some v) → ls[i]? = some (.val v) ∧ v.category = 1
theorem hm_L.has {ls : Array Slot} {L : List (Option Value)} (h : hm_L ls L) : lv_has ls L.length (hm_al 0 L) := ⟨h.1, h.2.1, fun q hq => by
  obtain ⟨j, v⟩ := q
  obtain ⟨i, e, h1⟩ := hm_al_of L 0 j v hq
  rw [Nat.zero_add] at e
  subst e
  exact (h.2.2 _ v h1).1⟩
theorem hm_L.set {ls ls' : Array Slot} {L : List (Option Value)} {i : Nat} {v : Value} (h : hm_L ls L) (hv : v.category = 1) (h' : lv_has ls' L.length ((i, v) :: (hm_al 0 L).filter (fun q => !(q.1 == i) && !(q.1 + 1 == i && q.2.category == 2)))) : hm_L ls' (L.set i (some v)) := by
  refine ⟨by rw [List.length_set]; exact h'.1, h'.2.1, fun j w hj => ?_⟩
  by_cases e : j = i
  · subst e
    have hl : j < L.length := by
      have := (List.getElem?_eq_some_iff.mp hj).1
      rwa [List.length_set] at this
    rw [List.getElem?_set_self hl] at hj
    cases hj
    exact ⟨h'.2.2 (j, v) List.mem_cons_self, hv⟩
  · rw [List.getElem?_set_ne (Ne.symm e)] at hj
    have hc := (h.2.2 j w hj).2
    refine ⟨h'.2.2 (j, w) (List.mem_cons_of_mem _ (List.mem_filter.mpr ⟨?_, ?_⟩)), hc⟩
    · have := hm_al_in L 0 j w hj
      rwa [Nat.zero_add] at this
    · simp [e, hc]
def hm_sub : List (Option Value) → List (Option Value) → Prop
  | [], [] => True
  | none :: a, _ :: b => hm_sub a b
  | some v :: a, some w :: b => w = v ∧ hm_sub a b
  | _, _ => False
theorem hm_sub_get : ∀ (a b : List (Option Value)), hm_sub a b → a.length = b.length ∧ ∀ (i : Nat) (v : Value), a[i]? = some (some v) → b[i]? = some (some v)
  | [], [], _ => ⟨rfl, fun i v h => h⟩
  | none :: a, y :: b, h => by
    obtain ⟨h1, h2⟩ := hm_sub_get a b (by cases y <;> exact h)
    refine ⟨by simp [h1], fun i v hi => ?_⟩
    cases i with
    | zero => simp at hi
    | succ i => rw [List.getElem?_cons_succ] at hi ⊢; exact h2 i v hi
  | some v :: a, some w :: b, h => by
    obtain ⟨h0, h3⟩ := h
    obtain ⟨h1, h2⟩ := hm_sub_get a b h3
    subst h0
    refine ⟨by simp [h1], fun i v hi => ?_⟩
    cases i with
    | zero => exact hi
    | succ i => rw [List.getElem?_cons_succ] at hi ⊢; exact h2 i v hi
  | some v :: a, none :: b, h => absurd h id
  | [], y :: b, h => absurd h id
  | some v :: a, [], h => absurd h id
  | none :: a, [], h => absurd h id
theorem hm_L.sub {ls : Array Slot} {a b : List (Option Value)} (h : hm_L ls b) (hs : hm_sub a b) : hm_L ls a := by
  obtain ⟨h1, h2⟩ := hm_sub_get a b hs
  exact ⟨by rw [h1]; exact h.1, h.2.1, fun i v hi => h.2.2 i v (h2 i v hi)⟩
theorem hm_args_in : ∀ (vs : List Value) (n i : Nat) (v : Value), (∀ w ∈ vs, w.category = 1) → vs[i]? = some v → (n + i, v) ∈ lv_args n vs
  | [], n, i, v, _, h => by simp at h
  | w :: vs, n, 0, v, hc, h => by
    rw [List.getElem?_cons_zero] at h
    cases h
    exact List.mem_cons_self
  | w :: vs, n, i + 1, v, hc, h => by
    rw [List.getElem?_cons_succ] at h
    have h1 := hm_args_in vs (n + 1) i v (fun x hx => hc x (List.mem_cons_of_mem _ hx)) h
    rw [show n + 1 + i = n + (i + 1) by omega] at h1
    refine List.mem_cons_of_mem _ ?_
    have h2 : ¬ w.category = 2 := by rw [hc w List.mem_cons_self]; decide
    rw [if_neg h2]
    exact h1
theorem hm_entry {vs : List Value} {n k : Nat} {ls : Array Slot} (hc : ∀ w ∈ vs, w.category = 1) (hn : vs.length + k = n) (h : lv_has ls n (lv_args 0 vs)) : hm_L ls (vs.map some ++ List.replicate k none) := by
  refine ⟨by rw [h.1]; simp [hn], h.2.1, fun i v hi => ?_⟩
  by_cases hl : i < vs.length
  · rw [List.getElem?_append_left (by rw [List.length_map]; exact hl), List.getElem?_map] at hi
    have h1 : vs[i]? = some v := by
      cases hq : vs[i]? with
      | none => rw [hq] at hi; cases hi
      | some w => rw [hq] at hi; cases hi; rfl
    have h2 := hm_args_in vs 0 i v hc h1
    rw [Nat.zero_add] at h2
    exact ⟨h.2.2 (i, v) h2, hc v (List.mem_of_getElem? h1)⟩
  · rw [List.getElem?_append_right (by rw [List.length_map]; omega)] at hi
    have := List.mem_replicate.mp (List.mem_of_getElem? hi)
    cases this.2
/-! the words, the arrays, what holds of every state -/
def hm_tbl : List Cond := lw_tbl.filter goodWord
theorem hm_in {w : Cond} (i : Nat) (h : lw_tbl[i]? = some w) (g : goodWord w = true) : w ∈ hm_tbl := List.mem_filter.mpr ⟨List.mem_of_getElem? h, g⟩
def hm_ws (y : MethodName) (cc : ByteArray) (maxL : Nat) (ret : Option FieldType) : List Cond := .code y cc maxL ret :: hm_tbl
def hm_tys (cA : Nat → ClassId) : List (ClassId × FieldType) := [(cA 0, .int), (cA 1, .boolean), (cA 2, .byte), (cA 3, .object RX3), (cA 4, .object RX4), (cA 5, .object RX1), (cA 6, .object RX0), (cA 7, .object RX2), (cA 8, .array .int)]
def hm_oK (w : Cond) : Prop := (∃ a i x h, w = .methodLinkNest a i x h) ∨ (∃ C, w = .arrayOver (.object C)) ∨ (∃ C T, w = .castable C T) ∨ (∃ T, w = .arrayOver (.array T)) ∨ (∃ x, w = .declares x) ∨ ∃ C T, w = .not (.castable C T)
/-- what isn't castable: names and kinds alone -/
theorem hm_ncW {C T : String} {U : State} (h : va_Nc C T U) : va_Nw (.not (.castable C T)) U := by
  obtain ⟨c, t, h1, h2, h3⟩ := h
  show (Cond.not (.castable C T)).holds #[] U none U [] = true
  simp [Cond.holds, Cond.value, h1, h2, h3]
theorem hm_ncM {C T : String} {u U : State} (hvm : u.vm.Alike U.vm) (h : va_Nw (.not (.castable C T)) u) : va_Nw (.not (.castable C T)) U := hm_ncW ((va_Nc.of (args := #[]) h).moved hvm)
/-- an array over arrays: what the tables say of it reads names and kinds alone -/
theorem hm_AOA_moved {T : FieldType} {u U : State} (hvm : u.vm.Alike U.vm) (h : va_Nw (.arrayOver (.array T)) u) : va_Nw (.arrayOver (.array T)) U := by
  have h0 : (Cond.arrayOver (.array T)).holds #[] u none u [] = true := h
  simp only [Cond.holds, Cond.value, beq_iff_eq] at h0
  cases hc : u.vm.findClass (FieldType.array T).toString with
  | none => simp [hc] at h0
  | some comp =>
    simp only [hc, Option.bind_some, Option.bind_eq_some_iff, Option.map_eq_some_iff] at h0
    obtain ⟨c, hi, k, hk, hb⟩ := h0
    obtain ⟨k', hk', he⟩ := hvm.2.2 _ _ hk
    have hi2 : (U.vm.classes.findIdx? fun (x : Class) => match x.kind with | .array component _ => component == comp | _ => false) = some c := by
      have eb : U.vm.bare = u.vm.bare := by first | exact hvm.bare_eq | exact hvm.bare_eq.symm
      have e1 := va_idx_bare U.vm comp
      rw [eb] at e1
      exact e1.symm.trans ((va_idx_bare u.vm comp).trans hi)
    have hkind : k'.kind = k.kind := by rw [he]
    show (Cond.arrayOver (.array T)).holds #[] U none U [] = true
    simp only [Cond.holds, Cond.value, beq_iff_eq]
    rw [hvm.findClass, hc, Option.bind_some]
    refine (congrArg (fun o : Option Nat => (o.bind (fun c => (U.vm.classes[c]?).map fun (k : Class) => match k.kind with | .array _ ty => decide (ty = FieldType.array T) && decide (U.vm.findClass ("[" ++ (FieldType.array T).toString) = some c) | _ => false))) hi2).trans ?_
    simp only [Option.bind_some, hk', Option.map_some, hkind, hvm.findClass]
    exact congrArg some hb
def hm_Z (A : Nat → Prop) (U : State) (H : Heap) : Prop := vx_Zq Bundle.tN "UNASSIGNED_STACK" Bundle.steD A U H ∧ vx_Zq Bundle.tN "SUPPRESSED_SENTINEL" Bundle.listD A U H
/-- the ground: what every state of the walk keeps -/
def hm_G (D : va_G) (cA : Nat → ClassId) (A : Nat → Prop) (oth : List Cond) (strs : List (String × Nat × String)) (U : State) : Prop :=
  va_K D vwCl (hm_tys cA) U ∧ (∀ q, U.heap.size ≤ q → A q) ∧ (∀ w ∈ oth, hm_oK w ∧ va_Nw w U) ∧ hm_Z A U U.heap ∧ ∀ q ∈ strs, ∃ a : Nat, vk_R q.1 q.2.1 q.2.2 a U
theorem hm_G.same {D : va_G} {cA : Nat → ClassId} {A : Nat → Prop} {oth : List Cond} {strs : List (String × Nat × String)} {u U : State} (hv : U.vm = u.vm) (hh : U.heap = u.heap) (h : hm_G D cA A oth strs u) : hm_G D cA A oth strs U := by
  obtain ⟨h1, h2, h3, h4, h5⟩ := h
  have hal : u.vm.Alike U.vm := by rw [hv]; exact Vm.Alike.refl _
  refine ⟨va_K.moved hal h1, by rw [hh]; exact h2, fun w hw => ⟨(h3 w hw).1, ?_⟩, ?_, fun q hq => ?_⟩
  · rcases (h3 w hw).1 with ⟨a, i, x, h, rfl⟩ | ⟨C, rfl⟩ | ⟨C, T, rfl⟩ | ⟨T, rfl⟩ | ⟨x, rfl⟩ | ⟨C, T, rfl⟩
    · exact va_Nw.same rfl hv.symm (h3 _ hw).2
    · exact va_AO.moved hal (h3 _ hw).2
    · exact va_Nw.same rfl hv.symm (h3 _ hw).2
    · exact hm_AOA_moved hal (h3 _ hw).2
    · exact va_Nw.same rfl hv.symm (h3 _ hw).2
    · exact hm_ncM hal (h3 _ hw).2
  · rw [hh]
    exact ⟨h4.1.moved hal, h4.2.moved hal⟩
  · obtain ⟨a, ha⟩ := h5 q hq
    exact ⟨a, vk_R.same hv ha⟩
theorem hm_G.warm {D : va_G} {cA : Nat → ClassId} {A : Nat → Prop} {oth : List Cond} {strs : List (String × Nat × String)} {s U : State} {locs : List Loc} (hW : s.WarmedH U.vm) (hS : va_S A s.heap U.heap locs) (h : hm_G D cA A oth strs s) : hm_G D cA A oth strs U := by
  obtain ⟨h1, h2, h3, h4, h5⟩ := h
  have hal := hW.alike
  refine ⟨va_K.moved hal h1, fun q hq => h2 q (Nat.le_trans hS.1 hq), fun w hw => ⟨(h3 w hw).1, ?_⟩, ?_, fun q hq => ?_⟩
  · rcases (h3 w hw).1 with ⟨a, i, x, h, rfl⟩ | ⟨C, rfl⟩ | ⟨C, T, rfl⟩ | ⟨T, rfl⟩ | ⟨x, rfl⟩ | ⟨C, T, rfl⟩
    · exact va_Nw.warmM hW (h3 _ hw).2
    · exact va_AO.moved hal (h3 _ hw).2
    · exact va_Nw.warmC hW (h3 _ hw).2
    · exact hm_AOA_moved hal (h3 _ hw).2
    · exact va_Nw.warmD hW (h3 _ hw).2
    · exact hm_ncM hal (h3 _ hw).2
  · exact ⟨(h4.1.kept hS.2.1).moved hal, (h4.2.kept hS.2.1).moved hal⟩
  · obtain ⟨a, ha⟩ := h5 q hq
    exact ⟨a, vk_R.warm hW ha⟩
def hm_B (D : va_G) (cA : Nat → ClassId) (A : Nat → Prop) (oth : List Cond) (strs : List (String × Nat × String)) (M : hm_M) (U : State) : Prop := hm_P D M U.heap ∧ hm_A A M ∧ hm_G D cA A oth strs U
def hm_Q (D : va_G) (A : Nat → Prop) (post : Option Value → hm_M → Prop) : Array Value → State → Outcome → State → Prop := fun _ st oc t => (∃ (v : Option Value) (M' : hm_M), oc = .returned v ∧ post v M' ∧ hm_P D M' t.heap ∧ hm_A A M') ∧ va_F A st t
def hm_Xq (D : va_G) (A : Nat → Prop) (px : String → hm_M → Prop) : String → State → State → Prop := fun E st t => (∃ M' : hm_M, px E M' ∧ hm_P D M' t.heap ∧ hm_A A M') ∧ va_F A st t
