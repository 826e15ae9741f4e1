/-! a row of rows of numbers, made at once -/
section HMM
variable {C : hm_C} {own : String} {cc : ByteArray} {nL : Nat} {ret : Option FieldType} {nm : String} {rm : Room} {cA : Nat → ClassId} {k n : Nat} {Q : State → Prop} {M : hm_M} {pc : Nat} {L : List (Option Value)} {st : List Value}
theorem hr_mna {idx N K : Nat} {v w : Int32} (X : hm_X C own cc nL ret nm rm cA) (d : decode cc pc = .ok (.multianewarray idx 2, 4)) (hw : Cond.classLink own idx ("[" ++ (FieldType.array .int).toString) ∈ hm_tbl) (ho : Cond.arrayOver (.array .int) ∈ hm_oth) (hi : Cond.arrayClass .int ∈ hm_tbl) (hn : ¬ v < 0) (hk : ¬ w < 0) (hN : v.toNatClampNeg = N) (hK : w.toNatClampNeg = K) (hb1 : N * 4 ≤ 536870912) (hb2 : K * componentBytes .int ≤ 536870912) (hb3 : K ≤ 536870912) (hf : k + (1 + N) ≤ rm.cells ∧ n + (N + N * K) ≤ rm.slots)
    (kk : ∀ (q : Nat) (r : Nat → Nat) (M1 : hm_M), M q = none → (∀ i, i < N → M (r i) = none ∧ r i ≠ q) → (∀ i j, i < N → j < N → r i = r j → i = j) → M1 q = some (.inl (cA 8, N, .inr (.inr (.inr (.inr (fun i => if i < N then some (r i) else none)))))) → (∀ i, i < N → M1 (r i) = some (.inl (cA 0, K, .inl (fun _ => 0)))) → (∀ a e, M a = some e → M1 a = some e) → hm_W C (k + 1 + N) (n + N + N * K) Q M1 (pc + 4) L (.ref q :: st)) : hm_W C k n Q M pc L (.int w :: .int v :: st) := by
  obtain ⟨p, l, e, R, s, m, args, below, meth, c, D, cA', A⟩ := C
  obtain ⟨hx, hb, hr, hml, hown, hts, hlk, hG, hnm, rfl, rfl, hst'⟩ := X
  intro H locs ls hP hA hS hl
  obtain ⟨ws, wP, wD, hin', -⟩ := hm_list hP hA
  have hws : ws ++ va_pl [] (fun _ => (.inl (cA' 0, 0, .inl (fun _ => 0)) : va_E)) = ws := List.append_nil ws
  refine va_mna (X := ws) (L := []) (f := fun _ => .inl (cA' 0, 0, .inl (fun _ => 0))) (D := D) (cl := vwCl) (tys := hm_tys cA') (cy := cA' 0) (z := (K, .inl (fun _ => 0))) hx hb hown (hts _ hw) (hG.2.2.1 _ ho).2 (hts _ hi) (hG.1.2 0 _ rfl).2 hG.1 (by rw [hws]; exact wP) (by rw [hws]; exact wD) hS hG.2.1 hn hk hN hK hb1 hb2 hb3 rfl rfl hf.1 hf.2 (fun c => ?_) d (fun q r c2 H1 hinj _ k1 p1 d1 s1 => ?_)
  · show ({ cls := c, slots := Array.replicate K (.int 0), vm := .none } : Cell) = _
    rw [arrV_new]
    rfl
  have g2 : s.vm.findClass ("[" ++ (FieldType.array .int).toString) = some c2 := (k1.2 (hm_tys cA').length _ hm_last).2
  have g8 : s.vm.findClass ("[" ++ (FieldType.array .int).toString) = some (cA' 8) := (hG.1.2 8 _ rfl).2
  have e1 : c2 = cA' 8 := Option.some.inj (g2.symm.trans g8)
  subst e1
  rw [List.nil_append] at p1 d1
  have hmem : ∀ i, i < N → r i ∈ (List.range N).map r := fun i hi => List.mem_map.mpr ⟨i, List.mem_range.mpr hi, rfl⟩
  generalize hF : vr_up (fun _ => (.inl (cA' 0, 0, .inl (fun _ => 0)) : va_E)) ((List.range N).map r) (.inl (cA' 0, K, .inl (fun _ => 0))) = F at p1 d1
  have hFr : ∀ i, i < N → F (r i) = .inl (cA' 0, K, .inl (fun _ => 0)) := fun i hi => by rw [← hF]; exact vr_up_in (hmem i hi)
  generalize ho2 : (.inl (cA' 8, N, .inr (.inr (.inr (.inr (fun i => if i < N then some (r i) else none))))) : va_E) = o at p1 d1 kk
  have old : ∀ (j : Nat) (x : Nat × va_E), ws[j]? = some x → ((ws ++ [(q, o)]) ++ va_pl ((List.range N).map r) F)[j]? = some x ∧ j < ws.length := fun j x hj => by
    have hlt := (List.getElem?_eq_some_iff.mp hj).1
    refine ⟨?_, hlt⟩
    rw [List.getElem?_append_left (by rw [List.length_append]; omega), List.getElem?_append_left hlt]
    exact hj
  have top : ((ws ++ [(q, o)]) ++ va_pl ((List.range N).map r) F)[ws.length]? = some (q, o) := by
    rw [List.getElem?_append_left (by rw [List.length_append]; show _ < _ + 1; omega), List.getElem?_append_right (Nat.le_refl _), Nat.sub_self]
    rfl
  have rowi : ∀ i, i < N → ((ws ++ [(q, o)]) ++ va_pl ((List.range N).map r) F)[ws.length + 1 + i]? = some (r i, .inl (cA' 0, K, .inl (fun _ => 0))) := fun i hi => by
    have hl1 : (ws ++ [(q, o)]).length = ws.length + 1 := by rw [List.length_append]; rfl
    rw [List.getElem?_append_right (by omega), hl1, Nat.add_sub_cancel_left]
    unfold va_pl
    rw [List.getElem?_map, List.getElem?_map, List.getElem?_range hi]
    show some (r i, F (r i)) = _
    rw [hFr i hi]
  have no : ∀ a e2, M a = some e2 → ∃ j, ((ws ++ [(q, o)]) ++ va_pl ((List.range N).map r) F)[j]? = some (a, e2) ∧ j < ws.length := fun a e2 he => by
    obtain ⟨j, hj⟩ := hin' a e2 he
    exact ⟨j, old j _ hj⟩
  have hq : M q = none := by
    cases hh : M q with
    | none => rfl
    | some e2 =>
      obtain ⟨j, j1, j2⟩ := no q e2 hh
      have := d1.1 _ _ _ _ j1 top rfl
      omega
  have hri : ∀ i, i < N → M (r i) = none ∧ r i ≠ q := fun i hi => by
    refine ⟨?_, fun z => ?_⟩
    · cases hh : M (r i) with
      | none => rfl
      | some e2 =>
        obtain ⟨j, j1, j2⟩ := no _ e2 hh
        have := d1.1 _ _ _ _ j1 (rowi i hi) rfl
        omega
    · have := d1.1 _ _ _ _ (rowi i hi) top z
      omega
  have hm1 : ∀ a e2, (if a = q then some o else if a ∈ (List.range N).map r then some (.inl (cA' 0, K, .inl (fun _ => 0)) : va_E) else M a) = some e2 → ∃ j, ((ws ++ [(q, o)]) ++ va_pl ((List.range N).map r) F)[j]? = some (a, e2) := fun a e2 he => by
    by_cases z1 : a = q
    · rw [if_pos z1] at he
      cases he
      subst z1
      exact ⟨_, top⟩
    · by_cases z2 : a ∈ (List.range N).map r
      · rw [if_neg z1, if_pos z2] at he
        cases he
        obtain ⟨i, i1, rfl⟩ := List.mem_map.mp z2
        exact ⟨_, rowi i (List.mem_range.mp i1)⟩
      · rw [if_neg z1, if_neg z2] at he
        obtain ⟨j, j1, -⟩ := no a e2 he
        exact ⟨j, j1⟩
  exact kk q r (fun a => if a = q then some o else if a ∈ (List.range N).map r then some (.inl (cA' 0, K, .inl (fun _ => 0))) else M a) hq hri hinj ((if_pos rfl).trans (congrArg some ho2.symm)) (fun i hi => by
    show (if r i = q then some o else if r i ∈ (List.range N).map r then some (.inl (cA' 0, K, .inl (fun _ => 0)) : va_E) else M (r i)) = _
    rw [if_neg (hri i hi).2, if_pos (hmem i hi)]) (fun a e2 he => by
    show (if a = q then some o else if a ∈ (List.range N).map r then some (.inl (cA' 0, K, .inl (fun _ => 0)) : va_E) else M a) = _
    rw [if_neg (fun z => by rw [z, hq] at he; cases he), if_neg (fun z => by
      obtain ⟨i, i1, rfl⟩ := List.mem_map.mp z
      rw [(hri i (List.mem_range.mp i1)).1] at he
      cases he)]
    exact he) H1 locs ls (fun a e2 he => by
      obtain ⟨j, hj⟩ := hm1 a e2 he
      exact p1 j _ hj) (fun a e2 he => by
      obtain ⟨j, hj⟩ := hm1 a e2 he
      exact d1.2 j _ hj) s1 hl
end HMM
