/-! THE PLAIN MACHINE, 11: into a call. -/
theorem gm_en1_len : ∀ vs : List Value, (gm_en1 vs).length = (lg_sl vs).length
  | [] => rfl
  | v :: r => by
    have ih := gm_en1_len r
    cases v <;> simp [gm_en1, lg_sl, Value.category] at ih ⊢ <;> omega
theorem gm_en1_at : ∀ (vs : List Value) (i : Nat) (v : Value), (gm_en1 vs)[i]? = some v → v ≠ gm_u → (lg_sl vs)[i]? = some (.val v)
  | [], i, v, h, _ => by simp [gm_en1] at h
  | w :: r, i, v, h, hu => by
    have ih := gm_en1_at r
    have e2 : ∀ x : Value, x.category = 2 → lg_sl (x :: r) = .val x :: .second :: lg_sl r := fun x hx => by simp [lg_sl, hx]
    have e1 : ∀ x : Value, ¬ x.category = 2 → lg_sl (x :: r) = .val x :: lg_sl r := fun x hx => by simp [lg_sl, hx]
    have g1 : (∀ x : Value, ¬ x.category = 2 → gm_en1 (x :: r) = x :: gm_en1 r) := fun x hx => by cases x <;> first | rfl | exact absurd rfl hx
    have g2 : (∀ x : Value, x.category = 2 → gm_en1 (x :: r) = x :: gm_u :: gm_en1 r) := fun x hx => by cases x <;> first | rfl | cases hx
    by_cases hc : w.category = 2
    · rw [g2 w hc] at h
      rw [e2 w hc]
      match i, h with
      | 0, h => simp at h; subst h; rfl
      | 1, h => simp at h; exact absurd h.symm hu
      | i + 2, h => simp at h ⊢; exact ih i v h hu
    · rw [g1 w hc] at h
      rw [e1 w hc]
      match i, h with
      | 0, h => simp at h; subst h; rfl
      | i + 1, h => simp at h ⊢; exact ih i v h hu
theorem gm_entry {vs : List Value} {n : Nat} (h : (gm_en1 vs).length ≤ n) : gm_L ((lg_sl vs ++ List.replicate (n - (lg_sl vs).length) Slot.unset).toArray) n (gm_en vs n) := by
  have hl := gm_en1_len vs
  have he := lv_entry vs (n := n) (by omega)
  refine ⟨he.1, he.2.1, by simp [gm_en]; omega, fun i v hv hu => ?_⟩
  unfold gm_en at hv
  rw [List.getElem?_append] at hv
  split at hv
  case isTrue hi =>
    have := gm_en1_at vs i v hv hu
    rw [List.getElem?_toArray, List.getElem?_append, if_pos (by omega)]
    exact this
  case isFalse hi =>
    rw [List.getElem?_replicate] at hv
    split at hv
    · cases hv; exact absurd rfl hu
    · cases hv
/-- what is known of a frame of the method M -/
def gm_Fr (M : gm_M) (p : Program) (s : State) (m : MethodId) (meth : Method) (c : Code) : Prop :=
  p.tables.exec = Jvm.exec ∧ c.code = M.2.1 ∧ c.maxLocals = M.2.2.1 ∧ meth.sig.returnType = M.2.2.2.1 ∧ meth.locks = false ∧ c.exceptionTable.toList.map (fun h => (h.startPc, h.endPc, h.handlerPc, h.catchType)) = M.2.2.2.2.1 ∧ s.vm.findClass (gm_cn.getD M.2.2.2.2.2.1 "") = some m.cls ∧ meth.name = M.1.name
theorem gm_cal_of {cn : Nat} {i : Instr} {st : List Value} {h : gm_H} {sd mi : Nat} {as rest : List Value} (hq : gm_cal cn i st h = some (sd, mi, as, rest)) :
    ∃ (x n w : Nat), (cn, x, sd, mi, n, w) ∈ gm_ct ∧ (rest.map fun v => v.category).sum ≤ 8 ∧ (gm_en1 as).length ≤ gm_mL mi ∧
      ((sd = 1 ∧ i = .invokestatic x ∧ n ≤ st.length ∧ as = (st.take n).reverse ∧ rest = st.drop n) ∨
       (sd ≠ 1 ∧ ∃ a : Nat, st.drop n = .ref a :: rest ∧ as = .ref a :: (st.take n).reverse ∧ ((sd = 0 ∧ i = .invokevirtual x ∧ (gm_rd h a).map (·.1) = (gm_mt[mi]?).map (·.2.2.2.2.2.1)) ∨ ((sd = 2 ∨ sd = 3 ∨ sd = 4) ∧ i = .invokespecial x)))) := by
  have key : ∀ {sorts : List Nat} {x : Nat}, gm_ca1 cn sorts x st h = some (sd, mi, as, rest) → ∃ (n w : Nat), (cn, x, sd, mi, n, w) ∈ gm_ct ∧ sd ∈ sorts ∧ (rest.map fun v => v.category).sum ≤ 8 ∧ (gm_en1 as).length ≤ gm_mL mi ∧
      ((sd = 1 ∧ n ≤ st.length ∧ as = (st.take n).reverse ∧ rest = st.drop n) ∨ (sd ≠ 1 ∧ ∃ a : Nat, st.drop n = .ref a :: rest ∧ as = .ref a :: (st.take n).reverse ∧ (sd = 0 → (gm_rd h a).map (·.1) = (gm_mt[mi]?).map (·.2.2.2.2.2.1)))) := by
    intro sorts x hz
    unfold gm_ca1 at hz
    split at hz
    case _ sd1 mi1 n w hlk =>
      have hm := gm_look_mem hlk
      split at hz
      case isTrue hs =>
        split at hz
        case isTrue h1 =>
          split at hz
          case isTrue h2 =>
            cases hz
            exact ⟨n, w, hm, hs, h2.2.1, h2.2.2, Or.inl ⟨h1, h2.1, rfl, rfl⟩⟩
          case isFalse => cases hz
        case isFalse h1 =>
          split at hz
          case _ a rest1 hd =>
            split at hz
            case isTrue h2 =>
              cases hz
              exact ⟨n, w, hm, hs, h2.1, h2.2.1, Or.inr ⟨h1, a, hd, rfl, h2.2.2⟩⟩
            case isFalse => cases hz
          case _ => cases hz
      case isFalse => cases hz
    case _ => cases hz
  unfold gm_cal at hq
  split at hq
  case _ x =>
    obtain ⟨n, w, h1, h2, h3, h4, h5⟩ := key hq
    have e0 : sd = 0 := by simpa using h2
    refine ⟨x, n, w, h1, h3, h4, ?_⟩
    rcases h5 with ⟨z, -⟩ | ⟨z, a, g1, g2, g3⟩
    · omega
    · exact Or.inr ⟨z, a, g1, g2, Or.inl ⟨e0, rfl, g3 e0⟩⟩
  case _ x =>
    obtain ⟨n, w, h1, h2, h3, h4, h5⟩ := key hq
    have e0 : sd = 1 := by simpa using h2
    refine ⟨x, n, w, h1, h3, h4, ?_⟩
    rcases h5 with ⟨z, g1, g2, g3⟩ | ⟨z, -⟩
    · exact Or.inl ⟨z, rfl, g1, g2, g3⟩
    · exact absurd e0 z
  case _ x =>
    obtain ⟨n, w, h1, h2, h3, h4, h5⟩ := key hq
    have e0 : sd = 2 ∨ sd = 3 ∨ sd = 4 := by simpa using h2
    refine ⟨x, n, w, h1, h3, h4, ?_⟩
    rcases h5 with ⟨z, -⟩ | ⟨z, a, g1, g2, g3⟩
    · omega
    · exact Or.inr ⟨z, a, g1, g2, Or.inr ⟨e0, rfl⟩⟩
  case _ => cases hq
