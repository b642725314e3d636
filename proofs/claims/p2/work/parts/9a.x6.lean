/-! THE CLASS, 6: chains, slots, fits. -/
section X6
variable {E : Nat → Value} {d x : Nat} {h : gm_H} {ca : Nat → Nat} {K : gs_K} {F G : Nat → Prop} {s : gs_S}
/-- a class that is there -/
theorem gx_C.at {c : Nat} {C : gs_C} (q : gx_C E h x ca K F) (hC : gs_cls K c = some C) : c < 6 ∧ gm_fv h (x + 1) c = .ref (ca c) ∧ gx_cl h x ca F c C (ca c) := by
  have hc := (q.wf c C hC).1
  exact ⟨hc, ((q.2 c hc).2 C hC).1, ((q.2 c hc).2 C hC).2.1⟩
theorem gx_C.inj {c c' : Nat} {C C' : gs_C} (q : gx_C E h x ca K F) (hC : gs_cls K c = some C) (hC' : gs_cls K c' = some C') (e : ca c = ca c') : c = c' := by
  obtain ⟨a1, -, -, -, a2, -⟩ := q.at hC
  obtain ⟨b1, -, -, -, b2, -⟩ := q.at hC'
  rw [e, b2] at a2
  injection a2 with a2
  rw [nI_eq (by omega) (by omega)] at a2
  exact a2.symm
theorem x_chainHas {c : Nat} {C : gs_C} {o : Option Nat} (R : gx_C E h x ca K F) (hC : gs_cls K c = some C) (ho : ∀ c', o = some c' → (gs_cls K c').isSome = true) : gm_Ca E d 117 [.ref (ca c), gx_ow ca o] h (gx_v (some (.int (if gs_inch K o (some c) = true then 1 else 0))) h) := by
  have hw := R.wf
  have loop : ∀ (m : Nat) (u : Option Nat) (w : Value), (∀ c', u = some c' → c' < m ∧ (gs_cls K c').isSome = true) → gm_W E d 117 2 [w, gx_ow ca o, gx_ow ca u] [] h (gx_v (some (.int (if gs_inch K o u = true then 1 else 0))) h) := by
    intro m
    induction m with
    | zero =>
      intro u w hu
      cases u with
      | none =>
        simp only [r117_0, r117_0n, r117_1, r117_1n, r117_2, r117_2n, r117_3n, r117_3, r117_6, r117_6n, r117_7, r117_7n, r117_8, r117_8n, r117_8m, r117_8o, r117_11, r117_12, r117_13, r117_13n, r117_14, r117_17, r117_17n, r117_18, r117_21, r117_22, i32_10, reduceIte, gm_cmp1, gm_cmp3, gm_cmp4, gm_kd_sf, gm_ln_sf, gm_sf_1, gm_sf_2, gm_nw_1, gm_nw_2, gm_k_int, gm_k_ref, gm_k_null, gm_k_u, gm_k_long, and_true, true_and, true_or, or_true, or_false, false_or, and_self, or_self, if_true, if_false, List.map_nil, List.map_cons, List.sum_nil, List.sum_cons, Nat.zero_le, Option.toList_some, Option.toList_none, List.cons_append, List.nil_append, ne_eq, not_false_eq_true, not_true_eq_false, nI_1, nI_add, Value.category, Nat.reduceAdd, Nat.reduceMod, Nat.reduceLeDiff, Nat.reduceLT, Nat.reduceEqDiff, Nat.reducePow, Nat.le_refl, Nat.add_left_cancel_iff, Nat.add_eq_left, Nat.left_eq_add, Nat.add_zero, gx_ow]
        exact ⟨rfl, rfl⟩
      | some c' => exact absurd (hu c' rfl).1 (by omega)
    | succ m ih =>
      intro u w hu
      cases u with
      | none =>
        simp only [r117_0, r117_0n, r117_1, r117_1n, r117_2, r117_2n, r117_3n, r117_3, r117_6, r117_6n, r117_7, r117_7n, r117_8, r117_8n, r117_8m, r117_8o, r117_11, r117_12, r117_13, r117_13n, r117_14, r117_17, r117_17n, r117_18, r117_21, r117_22, i32_10, reduceIte, gm_cmp1, gm_cmp3, gm_cmp4, gm_kd_sf, gm_ln_sf, gm_sf_1, gm_sf_2, gm_nw_1, gm_nw_2, gm_k_int, gm_k_ref, gm_k_null, gm_k_u, gm_k_long, and_true, true_and, true_or, or_true, or_false, false_or, and_self, or_self, if_true, if_false, List.map_nil, List.map_cons, List.sum_nil, List.sum_cons, Nat.zero_le, Option.toList_some, Option.toList_none, List.cons_append, List.nil_append, ne_eq, not_false_eq_true, not_true_eq_false, nI_1, nI_add, Value.category, Nat.reduceAdd, Nat.reduceMod, Nat.reduceLeDiff, Nat.reduceLT, Nat.reduceEqDiff, Nat.reducePow, Nat.le_refl, Nat.add_left_cancel_iff, Nat.add_eq_left, Nat.left_eq_add, Nat.add_zero, gx_ow]
        exact ⟨rfl, rfl⟩
      | some c' =>
        obtain ⟨h1, h2⟩ := hu c' rfl
        obtain ⟨C', hC'⟩ := Option.isSome_iff_exists.mp h2
        obtain ⟨-, -, -, k3, -, -, fs, -⟩ := R.at hC'
        have nx : gm_W E d 117 2 [w, gx_ow ca o, gx_ow ca (gs_sup C')] [] h (gx_v (some (.int (if gs_inch K o (gs_sup C') = true then 1 else 0))) h) := ih (gs_sup C') w (fun c2 e2 => ⟨by have := ((hw c' C' hC').2 c2 e2).1; omega, ((hw c' C' hC').2 c2 e2).2⟩)
        have go : gm_W E d 117 13 [w, gx_ow ca o, .ref (ca c')] [] h (gx_v (some (.int (if gs_inch K o (gs_sup C') = true then 1 else 0))) h) := by
          cases hs : gs_sup C' with
          | none =>
            rw [hs] at fs nx
            have fs : gm_fv h (ca c') 2 = .null := fs
            simp only [r117_0, r117_0n, r117_1, r117_1n, r117_3n, r117_3, r117_6, r117_6n, r117_7, r117_7n, r117_8, r117_8n, r117_8m, r117_8o, r117_11, r117_12, r117_13, r117_13n, r117_14, r117_17, r117_17n, r117_18, r117_21, r117_22, i32_10, reduceIte, gm_cmp1, gm_cmp3, gm_cmp4, gm_kd_sf, gm_ln_sf, gm_sf_1, gm_sf_2, gm_nw_1, gm_nw_2, gm_k_int, gm_k_ref, gm_k_null, gm_k_u, gm_k_long, and_true, true_and, true_or, or_true, or_false, false_or, and_self, or_self, if_true, if_false, List.map_nil, List.map_cons, List.sum_nil, List.sum_cons, Nat.zero_le, Option.toList_some, Option.toList_none, List.cons_append, List.nil_append, ne_eq, not_false_eq_true, not_true_eq_false, nI_1, nI_add, Value.category, Nat.reduceAdd, Nat.reduceMod, Nat.reduceLeDiff, Nat.reduceLT, Nat.reduceEqDiff, Nat.reducePow, Nat.le_refl, Nat.add_left_cancel_iff, Nat.add_eq_left, Nat.left_eq_add, Nat.add_zero, k3, fs]
            cases o <;> exact nx
          | some c2 =>
            rw [hs] at fs nx
            have fs : gm_fv h (ca c') 2 = .ref (ca c2) := fs
            simp only [r117_0, r117_0n, r117_1, r117_1n, r117_3n, r117_3, r117_6, r117_6n, r117_7, r117_7n, r117_8, r117_8n, r117_8m, r117_8o, r117_11, r117_12, r117_13, r117_13n, r117_14, r117_17, r117_17n, r117_18, r117_21, r117_22, i32_10, reduceIte, gm_cmp1, gm_cmp3, gm_cmp4, gm_kd_sf, gm_ln_sf, gm_sf_1, gm_sf_2, gm_nw_1, gm_nw_2, gm_k_int, gm_k_ref, gm_k_null, gm_k_u, gm_k_long, and_true, true_and, true_or, or_true, or_false, false_or, and_self, or_self, if_true, if_false, List.map_nil, List.map_cons, List.sum_nil, List.sum_cons, Nat.zero_le, Option.toList_some, Option.toList_none, List.cons_append, List.nil_append, ne_eq, not_false_eq_true, not_true_eq_false, nI_1, nI_add, Value.category, Nat.reduceAdd, Nat.reduceMod, Nat.reduceLeDiff, Nat.reduceLT, Nat.reduceEqDiff, Nat.reducePow, Nat.le_refl, Nat.add_left_cancel_iff, Nat.add_eq_left, Nat.left_eq_add, Nat.add_zero, k3, fs]
            cases o <;> exact nx
        rw [gs_inch_cons hw hC']
        show gm_W E d 117 2 [w, gx_ow ca o, .ref (ca c')] [] h _
        cases o with
        | none =>
          simp only [r117_0, r117_0n, r117_1, r117_1n, r117_2, r117_2n, r117_3n, r117_3, r117_6, r117_6n, r117_7, r117_7n, r117_8, r117_8n, r117_8m, r117_8o, r117_11, r117_12, r117_14, r117_17, r117_17n, r117_18, r117_21, r117_22, i32_10, reduceIte, gm_cmp1, gm_cmp3, gm_cmp4, gm_kd_sf, gm_ln_sf, gm_sf_1, gm_sf_2, gm_nw_1, gm_nw_2, gm_k_int, gm_k_ref, gm_k_null, gm_k_u, gm_k_long, and_true, true_and, true_or, or_true, or_false, false_or, and_self, or_self, if_true, if_false, List.map_nil, List.map_cons, List.sum_nil, List.sum_cons, Nat.zero_le, Option.toList_some, Option.toList_none, List.cons_append, List.nil_append, ne_eq, not_false_eq_true, not_true_eq_false, nI_1, nI_add, Value.category, Nat.reduceAdd, Nat.reduceMod, Nat.reduceLeDiff, Nat.reduceLT, Nat.reduceEqDiff, Nat.reducePow, Nat.le_refl, Nat.add_left_cancel_iff, Nat.add_eq_left, Nat.left_eq_add, Nat.add_zero, gx_ow] at go ⊢
          simpa using go
        | some c2 =>
          obtain ⟨C2, hC2⟩ := Option.isSome_iff_exists.mp (ho c2 rfl)
          simp only [r117_0, r117_0n, r117_1, r117_1n, r117_2, r117_2n, r117_3n, r117_3, r117_6, r117_6n, r117_7, r117_7n, r117_8, r117_8n, r117_8m, r117_8o, r117_11, r117_12, r117_14, r117_17, r117_17n, r117_18, r117_21, r117_22, i32_10, reduceIte, gm_cmp1, gm_cmp3, gm_cmp4, gm_kd_sf, gm_ln_sf, gm_sf_1, gm_sf_2, gm_nw_1, gm_nw_2, gm_k_int, gm_k_ref, gm_k_null, gm_k_u, gm_k_long, and_true, true_and, true_or, or_true, or_false, false_or, and_self, or_self, if_true, if_false, List.map_nil, List.map_cons, List.sum_nil, List.sum_cons, Nat.zero_le, Option.toList_some, Option.toList_none, List.cons_append, List.nil_append, ne_eq, not_false_eq_true, not_true_eq_false, nI_1, nI_add, Value.category, Nat.reduceAdd, Nat.reduceMod, Nat.reduceLeDiff, Nat.reduceLT, Nat.reduceEqDiff, Nat.reducePow, Nat.le_refl, Nat.add_left_cancel_iff, Nat.add_eq_left, Nat.left_eq_add, Nat.add_zero, gx_ow] at go ⊢
          by_cases e : c' = c2
          · subst e
            simp only [reduceIte]
            exact ⟨by simp, rfl⟩
          · have e' : ca c' ≠ ca c2 := fun z => e (R.inj hC' hC2 z)
            simp only [e', reduceIte]
            have e3 : (some c' == some c2) = false := by simp [e]
            rw [e3, Bool.false_or]
            exact go
  have l := loop 6 (some c) (.ref (ca c)) (fun c' e => by cases e; exact ⟨(hw c C hC).1, by rw [hC]; rfl⟩)
  cases o with
  | none =>
    show gm_W E d 117 0 [.ref (ca c), .null, gm_u] [] h _
    simp only [r117_0, r117_0n, r117_1, r117_1n, r117_3n, r117_3, r117_6, r117_6n, r117_7, r117_7n, r117_8, r117_8n, r117_8m, r117_8o, r117_11, r117_12, r117_13, r117_13n, r117_14, r117_17, r117_17n, r117_18, r117_21, r117_22, i32_10, reduceIte, gm_cmp1, gm_cmp3, gm_cmp4, gm_kd_sf, gm_ln_sf, gm_sf_1, gm_sf_2, gm_nw_1, gm_nw_2, gm_k_int, gm_k_ref, gm_k_null, gm_k_u, gm_k_long, and_true, true_and, true_or, or_true, or_false, false_or, and_self, or_self, if_true, if_false, List.map_nil, List.map_cons, List.sum_nil, List.sum_cons, Nat.zero_le, Option.toList_some, Option.toList_none, List.cons_append, List.nil_append, ne_eq, not_false_eq_true, not_true_eq_false, nI_1, nI_add, Value.category, Nat.reduceAdd, Nat.reduceMod, Nat.reduceLeDiff, Nat.reduceLT, Nat.reduceEqDiff, Nat.reducePow, Nat.le_refl, Nat.add_left_cancel_iff, Nat.add_eq_left, Nat.left_eq_add, Nat.add_zero]
    exact l
  | some c2 =>
    show gm_W E d 117 0 [.ref (ca c), .ref (ca c2), gm_u] [] h _
    simp only [r117_0, r117_0n, r117_1, r117_1n, r117_3n, r117_3, r117_6, r117_6n, r117_7, r117_7n, r117_8, r117_8n, r117_8m, r117_8o, r117_11, r117_12, r117_13, r117_13n, r117_14, r117_17, r117_17n, r117_18, r117_21, r117_22, i32_10, reduceIte, gm_cmp1, gm_cmp3, gm_cmp4, gm_kd_sf, gm_ln_sf, gm_sf_1, gm_sf_2, gm_nw_1, gm_nw_2, gm_k_int, gm_k_ref, gm_k_null, gm_k_u, gm_k_long, and_true, true_and, true_or, or_true, or_false, false_or, and_self, or_self, if_true, if_false, List.map_nil, List.map_cons, List.sum_nil, List.sum_cons, Nat.zero_le, Option.toList_some, Option.toList_none, List.cons_append, List.nil_append, ne_eq, not_false_eq_true, not_true_eq_false, nI_1, nI_add, Value.category, Nat.reduceAdd, Nat.reduceMod, Nat.reduceLeDiff, Nat.reduceLT, Nat.reduceEqDiff, Nat.reducePow, Nat.le_refl, Nat.add_left_cancel_iff, Nat.add_eq_left, Nat.left_eq_add, Nat.add_zero]
    exact l
theorem gx_C.le4 {c : Nat} {C : gs_C} (R : gx_C E h x ca K F) (hC : gs_cls K c = some C) : (gs_fs C).length ≤ 4 := by
  obtain ⟨-, -, -, -, -, -, -, -, -, -, -, -, -, l4, -⟩ := R.at hC
  exact l4
theorem gx_C.slots {o : Option Nat} (R : gx_C E h x ca K F) : gs_slots K o ≤ 24 := by
  by_cases ho : ∀ c, o = some c → c < 6
  · exact gs_slots_le R.wf (fun c C hC => R.le4 hC) 6 o ho
  · have : ∃ c, o = some c ∧ ¬ c < 6 := Classical.byContradiction fun z => ho (fun c e => Classical.byContradiction fun w => z ⟨c, e, w⟩)
    obtain ⟨c, rfl, hc⟩ := this
    have hn := R.1.2 c (by omega)
    have : gs_slots K (some c) = 0 := by
      unfold gs_slots gs_chain
      rw [show (6 : Nat) = 5 + 1 from rfl]
      unfold gs_up
      rw [hn]
      rfl
    omega
theorem x_slotCount {c : Nat} {C : gs_C} (R : gx_C E h x ca K F) (hC : gs_cls K c = some C) : gm_Ca E d 119 [.ref (ca c)] h (gx_v (some (.int (nI (gs_slots K (some c))))) h) := by
  have hw := R.wf
  have loop : ∀ (m : Nat) (u : Option Nat) (n : Nat), (∀ c', u = some c' → c' < m ∧ (gs_cls K c').isSome = true) → gm_W E d 119 4 [.ref (ca c), .int (nI n), gx_ow ca u] [] h (gx_v (some (.int (nI (n + gs_slots K u)))) h) := by
    intro m
    induction m with
    | zero =>
      intro u n hu
      cases u with
      | none =>
        simp only [r119_0, r119_1, r119_2, r119_2n, r119_3, r119_3n, r119_4, r119_4n, r119_5n, r119_5, r119_8, r119_9, r119_9n, r119_10, r119_13, r119_14, r119_15, r119_15n, r119_16, r119_19, r119_19n, r119_20, r119_23, r119_24, i32_10, reduceIte, gm_cmp1, gm_cmp3, gm_cmp4, gm_kd_sf, gm_ln_sf, gm_sf_1, gm_sf_2, gm_nw_1, gm_nw_2, gm_k_int, gm_k_ref, gm_k_null, gm_k_u, gm_k_long, and_true, true_and, true_or, or_true, or_false, false_or, and_self, or_self, if_true, if_false, List.map_nil, List.map_cons, List.sum_nil, List.sum_cons, Nat.zero_le, Option.toList_some, Option.toList_none, List.cons_append, List.nil_append, ne_eq, not_false_eq_true, not_true_eq_false, nI_1, nI_add, Value.category, Nat.reduceAdd, Nat.reduceMod, Nat.reduceLeDiff, Nat.reduceLT, Nat.reduceEqDiff, Nat.reducePow, Nat.le_refl, Nat.add_left_cancel_iff, Nat.add_eq_left, Nat.left_eq_add, Nat.add_zero, gx_ow]
        exact ⟨rfl, rfl⟩
      | some c' => exact absurd (hu c' rfl).1 (by omega)
    | succ m ih =>
      intro u n hu
      cases u with
      | none =>
        simp only [r119_0, r119_1, r119_2, r119_2n, r119_3, r119_3n, r119_4, r119_4n, r119_5n, r119_5, r119_8, r119_9, r119_9n, r119_10, r119_13, r119_14, r119_15, r119_15n, r119_16, r119_19, r119_19n, r119_20, r119_23, r119_24, i32_10, reduceIte, gm_cmp1, gm_cmp3, gm_cmp4, gm_kd_sf, gm_ln_sf, gm_sf_1, gm_sf_2, gm_nw_1, gm_nw_2, gm_k_int, gm_k_ref, gm_k_null, gm_k_u, gm_k_long, and_true, true_and, true_or, or_true, or_false, false_or, and_self, or_self, if_true, if_false, List.map_nil, List.map_cons, List.sum_nil, List.sum_cons, Nat.zero_le, Option.toList_some, Option.toList_none, List.cons_append, List.nil_append, ne_eq, not_false_eq_true, not_true_eq_false, nI_1, nI_add, Value.category, Nat.reduceAdd, Nat.reduceMod, Nat.reduceLeDiff, Nat.reduceLT, Nat.reduceEqDiff, Nat.reducePow, Nat.le_refl, Nat.add_left_cancel_iff, Nat.add_eq_left, Nat.left_eq_add, Nat.add_zero, gx_ow]
        exact ⟨rfl, rfl⟩
      | some c' =>
        obtain ⟨h1, h2⟩ := hu c' rfl
        obtain ⟨C', hC'⟩ := Option.isSome_iff_exists.mp h2
        obtain ⟨-, -, -, k3, -, -, fs, -, -, -, f6, -⟩ := R.at hC'
        have nx := ih (gs_sup C') (n + (gs_fs C').length) (fun c2 e2 => ⟨by have := ((hw c' C' hC').2 c2 e2).1; omega, ((hw c' C' hC').2 c2 e2).2⟩)
        rw [gs_slots_cons hw hC', ← Nat.add_assoc]
        show gm_W E d 119 4 [.ref (ca c), .int (nI n), .ref (ca c')] [] h _
        rw [r119_4]
        cases hs : gs_sup C' with
        | none =>
          rw [hs] at fs nx
          have fs : gm_fv h (ca c') 2 = .null := fs
          unfold gs_first
          rw [hs]
          simp only [r119_0, r119_1, r119_2, r119_2n, r119_3, r119_3n, r119_5n, r119_5, r119_8, r119_9, r119_9n, r119_10, r119_13, r119_14, r119_15, r119_15n, r119_16, r119_19, r119_19n, r119_20, r119_23, r119_24, i32_10, reduceIte, gm_cmp1, gm_cmp3, gm_cmp4, gm_kd_sf, gm_ln_sf, gm_sf_1, gm_sf_2, gm_nw_1, gm_nw_2, gm_k_int, gm_k_ref, gm_k_null, gm_k_u, gm_k_long, and_true, true_and, true_or, or_true, or_false, false_or, and_self, or_self, if_true, if_false, List.map_nil, List.map_cons, List.sum_nil, List.sum_cons, Nat.zero_le, Option.toList_some, Option.toList_none, List.cons_append, List.nil_append, ne_eq, not_false_eq_true, not_true_eq_false, nI_1, nI_add, Value.category, Nat.reduceAdd, Nat.reduceMod, Nat.reduceLeDiff, Nat.reduceLT, Nat.reduceEqDiff, Nat.reducePow, Nat.le_refl, Nat.add_left_cancel_iff, Nat.add_eq_left, Nat.left_eq_add, Nat.add_zero, k3, fs, f6]
          exact nx
        | some c2 =>
          rw [hs] at fs nx
          have fs : gm_fv h (ca c') 2 = .ref (ca c2) := fs
          unfold gs_first
          rw [hs]
          simp only [r119_0, r119_1, r119_2, r119_2n, r119_3, r119_3n, r119_5n, r119_5, r119_8, r119_9, r119_9n, r119_10, r119_13, r119_14, r119_15, r119_15n, r119_16, r119_19, r119_19n, r119_20, r119_23, r119_24, i32_10, reduceIte, gm_cmp1, gm_cmp3, gm_cmp4, gm_kd_sf, gm_ln_sf, gm_sf_1, gm_sf_2, gm_nw_1, gm_nw_2, gm_k_int, gm_k_ref, gm_k_null, gm_k_u, gm_k_long, and_true, true_and, true_or, or_true, or_false, false_or, and_self, or_self, if_true, if_false, List.map_nil, List.map_cons, List.sum_nil, List.sum_cons, Nat.zero_le, Option.toList_some, Option.toList_none, List.cons_append, List.nil_append, ne_eq, not_false_eq_true, not_true_eq_false, nI_1, nI_add, Value.category, Nat.reduceAdd, Nat.reduceMod, Nat.reduceLeDiff, Nat.reduceLT, Nat.reduceEqDiff, Nat.reducePow, Nat.le_refl, Nat.add_left_cancel_iff, Nat.add_eq_left, Nat.left_eq_add, Nat.add_zero, k3, fs, f6]
          exact nx
  have l := loop 6 (some c) 0 (fun c' e => by cases e; exact ⟨(hw c C hC).1, by rw [hC]; rfl⟩)
  rw [Nat.zero_add] at l
  show gm_W E d 119 0 [.ref (ca c), gm_u, gm_u] [] h _
  simp only [r119_0, r119_1, r119_2, r119_2n, r119_3, r119_3n, r119_5n, r119_5, r119_8, r119_9, r119_9n, r119_10, r119_13, r119_14, r119_15, r119_15n, r119_16, r119_19, r119_19n, r119_20, r119_23, r119_24, i32_10, reduceIte, gm_cmp1, gm_cmp3, gm_cmp4, gm_kd_sf, gm_ln_sf, gm_sf_1, gm_sf_2, gm_nw_1, gm_nw_2, gm_k_int, gm_k_ref, gm_k_null, gm_k_u, gm_k_long, and_true, true_and, true_or, or_true, or_false, false_or, and_self, or_self, if_true, if_false, List.map_nil, List.map_cons, List.sum_nil, List.sum_cons, Nat.zero_le, Option.toList_some, Option.toList_none, List.cons_append, List.nil_append, ne_eq, not_false_eq_true, not_true_eq_false, nI_1, nI_add, Value.category, Nat.reduceAdd, Nat.reduceMod, Nat.reduceLeDiff, Nat.reduceLT, Nat.reduceEqDiff, Nat.reducePow, Nat.le_refl, Nat.add_left_cancel_iff, Nat.add_eq_left, Nat.left_eq_add, Nat.add_zero]
  exact l
theorem x_firstSlot {c : Nat} {C : gs_C} (hd : 1 ≤ d) (R : gx_C E h x ca K F) (hC : gs_cls K c = some C) : gm_Ca E d 118 [.ref (ca c)] h (gx_v (some (.int (nI (gs_first K C)))) h) := by
  show gm_W E d 118 0 [.ref (ca c)] [] h _
  obtain ⟨-, -, -, k3, -, -, fs, -⟩ := R.at hC
  cases hs : gs_sup C with
  | none =>
    rw [hs] at fs
    have fs : gm_fv h (ca c) 2 = .null := fs
    unfold gs_first
    rw [hs]
    simp only [r118_0, r118_0n, r118_1, r118_4n, r118_4, r118_7, r118_8, r118_11, r118_11n, r118_12, r118_18, i32_10, reduceIte, gm_cmp1, gm_cmp3, gm_cmp4, gm_kd_sf, gm_ln_sf, gm_sf_1, gm_sf_2, gm_nw_1, gm_nw_2, gm_k_int, gm_k_ref, gm_k_null, gm_k_u, gm_k_long, and_true, true_and, true_or, or_true, or_false, false_or, and_self, or_self, if_true, if_false, List.map_nil, List.map_cons, List.sum_nil, List.sum_cons, Nat.zero_le, Option.toList_some, Option.toList_none, List.cons_append, List.nil_append, ne_eq, not_false_eq_true, not_true_eq_false, nI_1, nI_add, Value.category, Nat.reduceAdd, Nat.reduceMod, Nat.reduceLeDiff, Nat.reduceLT, Nat.reduceEqDiff, Nat.reducePow, Nat.le_refl, Nat.add_left_cancel_iff, Nat.add_eq_left, Nat.left_eq_add, Nat.add_zero, k3, fs]
    exact ⟨rfl, rfl⟩
  | some c2 =>
    rw [hs] at fs
    have fs : gm_fv h (ca c) 2 = .ref (ca c2) := fs
    obtain ⟨C2, hC2⟩ := Option.isSome_iff_exists.mp ((R.wf c C hC).2 c2 hs).2
    obtain ⟨-, -, -, k32, -⟩ := R.at hC2
    unfold gs_first
    rw [hs]
    simp only [r118_0, r118_0n, r118_1, r118_4n, r118_4, r118_7, r118_8, r118_11, r118_11n, r118_12, r118_18, i32_10, reduceIte, gm_cmp1, gm_cmp3, gm_cmp4, gm_kd_sf, gm_ln_sf, gm_sf_1, gm_sf_2, gm_nw_1, gm_nw_2, gm_k_int, gm_k_ref, gm_k_null, gm_k_u, gm_k_long, and_true, true_and, true_or, or_true, or_false, false_or, and_self, or_self, if_true, if_false, List.map_nil, List.map_cons, List.sum_nil, List.sum_cons, Nat.zero_le, Option.toList_some, Option.toList_none, List.cons_append, List.nil_append, ne_eq, not_false_eq_true, not_true_eq_false, nI_1, nI_add, Value.category, Nat.reduceAdd, Nat.reduceMod, Nat.reduceLeDiff, Nat.reduceLT, Nat.reduceEqDiff, Nat.reducePow, Nat.le_refl, Nat.add_left_cancel_iff, Nat.add_eq_left, Nat.left_eq_add, Nat.add_zero, k3, fs]
    refine c118_15 (by simp) k32 hd (x_slotCount R hC2) (gx_kn ?_) gx_kx
    simp only [r118_0, r118_0n, r118_1, r118_4n, r118_4, r118_7, r118_8, r118_11, r118_11n, r118_12, r118_18, i32_10, reduceIte, gm_cmp1, gm_cmp3, gm_cmp4, gm_kd_sf, gm_ln_sf, gm_sf_1, gm_sf_2, gm_nw_1, gm_nw_2, gm_k_int, gm_k_ref, gm_k_null, gm_k_u, gm_k_long, and_true, true_and, true_or, or_true, or_false, false_or, and_self, or_self, if_true, if_false, List.map_nil, List.map_cons, List.sum_nil, List.sum_cons, Nat.zero_le, Option.toList_some, Option.toList_none, List.cons_append, List.nil_append, ne_eq, not_false_eq_true, not_true_eq_false, nI_1, nI_add, Value.category, Nat.reduceAdd, Nat.reduceMod, Nat.reduceLeDiff, Nat.reduceLT, Nat.reduceEqDiff, Nat.reducePow, Nat.le_refl, Nat.add_left_cancel_iff, Nat.add_eq_left, Nat.left_eq_add, Nat.add_zero]
    exact ⟨rfl, rfl⟩
theorem gs_ix_lt {fs : List (Int32 × Int32)} {v : Int32} {j : Nat} (e : gs_ix fs v = some j) : j < fs.length := by
  unfold gs_ix at e
  rw [List.findIdx?_eq_some_iff_getElem] at e
  exact e.1
def gs_sloti (K : gs_K) (C : gs_C) (v t : Int32) : Int32 := match gs_ix (gs_fs C) v with
  | none => -1
  | some j => if ((gs_fs C).getD j (0, 0)).2 = t then nI (gs_first K C + j) else -1
theorem x_slotOf {c : Nat} {C : gs_C} {v t : Int32} (hd : 2 ≤ d) (R : gx_C E h x ca K F) (hC : gs_cls K c = some C) : gm_Ca E d 120 [.ref (ca c), .int v, .int t] h (gx_v (some (.int (gs_sloti K C v t))) h) := by
  show gm_W E d 120 0 [.ref (ca c), .int v, .int t, gm_u] [] h _
  obtain ⟨hc6, -, q⟩ := R.at hC
  have q' := q
  obtain ⟨-, k3, -, -, -, -, p4, p5, p6, -, -, l4, n1, n2, n3, n4, nn⟩ := q'
  simp only [r120_0, r120_0n, r120_1, r120_5, r120_6, r120_7, r120_10, r120_10n, r120_11, r120_14, r120_15, r120_16, r120_17, r120_20, r120_20n, r120_24, r120_25, r120_26, r120_29, r120_30, i32_10, reduceIte, gm_cmp1, gm_cmp3, gm_cmp4, gm_kd_sf, gm_ln_sf, gm_sf_1, gm_sf_2, gm_nw_1, gm_nw_2, gm_k_int, gm_k_ref, gm_k_null, gm_k_u, gm_k_long, and_true, true_and, true_or, or_true, or_false, false_or, and_self, or_self, if_true, if_false, List.map_nil, List.map_cons, List.sum_nil, List.sum_cons, Nat.zero_le, Option.toList_some, Option.toList_none, List.cons_append, List.nil_append, ne_eq, not_false_eq_true, not_true_eq_false, nI_1, nI_add, Value.category, Nat.reduceAdd, Nat.reduceMod, Nat.reduceLeDiff, Nat.reduceLT, Nat.reduceEqDiff, Nat.reducePow, Nat.le_refl, Nat.add_left_cancel_iff, Nat.add_eq_left, Nat.left_eq_add, Nat.add_zero]
  refine c120_2 (by simp) k3 (by omega) (x_indexOf q) (gx_kn ?_) gx_kx
  unfold gs_sloti gs_ixi
  cases e : gs_ix (gs_fs C) v with
  | none =>
    have m1 : (-1 : Int32) < 0 := by decide
    simp only [r120_0, r120_0n, r120_1, r120_5, r120_6, r120_7, r120_10, r120_10n, r120_11, r120_14, r120_15, r120_16, r120_17, r120_20, r120_20n, r120_24, r120_25, r120_26, r120_29, r120_30, i32_10, reduceIte, gm_cmp1, gm_cmp3, gm_cmp4, gm_kd_sf, gm_ln_sf, gm_sf_1, gm_sf_2, gm_nw_1, gm_nw_2, gm_k_int, gm_k_ref, gm_k_null, gm_k_u, gm_k_long, and_true, true_and, true_or, or_true, or_false, false_or, and_self, or_self, if_true, if_false, List.map_nil, List.map_cons, List.sum_nil, List.sum_cons, Nat.zero_le, Option.toList_some, Option.toList_none, List.cons_append, List.nil_append, ne_eq, not_false_eq_true, not_true_eq_false, nI_1, nI_add, Value.category, Nat.reduceAdd, Nat.reduceMod, Nat.reduceLeDiff, Nat.reduceLT, Nat.reduceEqDiff, Nat.reducePow, Nat.le_refl, Nat.add_left_cancel_iff, Nat.add_eq_left, Nat.left_eq_add, Nat.add_zero, m1]
    exact ⟨rfl, rfl⟩
  | some j =>
    have hj := gs_ix_lt e
    have hj4 : j < 4 := by omega
    have f2 := (nn j _ (List.getElem?_eq_getElem hj)).2
    have eg : (gs_fs C).getD j (0, 0) = (gs_fs C)[j] := by simp [List.getD, hj]
    simp only [r120_0, r120_0n, r120_1, r120_5, r120_6, r120_7, r120_10, r120_10n, r120_11, r120_14, r120_15, r120_16, r120_17, r120_20, r120_20n, r120_24, r120_25, r120_26, r120_29, r120_30, i32_10, reduceIte, gm_cmp1, gm_cmp3, gm_cmp4, gm_kd_sf, gm_ln_sf, gm_sf_1, gm_sf_2, gm_nw_1, gm_nw_2, gm_k_int, gm_k_ref, gm_k_null, gm_k_u, gm_k_long, and_true, true_and, true_or, or_true, or_false, false_or, and_self, or_self, if_true, if_false, List.map_nil, List.map_cons, List.sum_nil, List.sum_cons, Nat.zero_le, Option.toList_some, Option.toList_none, List.cons_append, List.nil_append, ne_eq, not_false_eq_true, not_true_eq_false, nI_1, nI_add, Value.category, Nat.reduceAdd, Nat.reduceMod, Nat.reduceLeDiff, Nat.reduceLT, Nat.reduceEqDiff, Nat.reducePow, Nat.le_refl, Nat.add_left_cancel_iff, Nat.add_eq_left, Nat.left_eq_add, Nat.add_zero, nI_pos (show j < 2 ^ 31 by omega), k3, p5, n3, n4, hj4, f2, eg]
    by_cases ht : (gs_fs C)[j].2 = t
    · simp only [ht, reduceIte]
      refine c120_21 (by simp) k3 (by omega) (x_firstSlot (by omega) R hC) (gx_kn ?_) gx_kx
      simp only [r120_0, r120_0n, r120_1, r120_5, r120_6, r120_7, r120_10, r120_10n, r120_11, r120_14, r120_15, r120_16, r120_17, r120_20, r120_20n, r120_24, r120_25, r120_26, r120_29, r120_30, i32_10, reduceIte, gm_cmp1, gm_cmp3, gm_cmp4, gm_kd_sf, gm_ln_sf, gm_sf_1, gm_sf_2, gm_nw_1, gm_nw_2, gm_k_int, gm_k_ref, gm_k_null, gm_k_u, gm_k_long, and_true, true_and, true_or, or_true, or_false, false_or, and_self, or_self, if_true, if_false, List.map_nil, List.map_cons, List.sum_nil, List.sum_cons, Nat.zero_le, Option.toList_some, Option.toList_none, List.cons_append, List.nil_append, ne_eq, not_false_eq_true, not_true_eq_false, nI_1, nI_add, Value.category, Nat.reduceAdd, Nat.reduceMod, Nat.reduceLeDiff, Nat.reduceLT, Nat.reduceEqDiff, Nat.reducePow, Nat.le_refl, Nat.add_left_cancel_iff, Nat.add_eq_left, Nat.left_eq_add, Nat.add_zero]
      exact ⟨rfl, rfl⟩
    · simp only [ht, reduceIte]
      exact ⟨rfl, rfl⟩
def gs_v0i (C : gs_C) (t : Int32) : Int32 := if 6 ≤ t then -2 else if gs_kind C ≠ 0 then 0 else if t = 5 then 1 else 7
theorem gs_v0i_64 {C : gs_C} {t : Int32} : (gs_v0i C t).toInt64 = gs_v0 C t := by
  unfold gs_v0i gs_v0
  split
  · rfl
  · split
    · rfl
    · split <;> rfl
theorem x_valueAtFirst {c a : Nat} {C : gs_C} {t : Int32} (q : gx_cl h x ca F c C a) : gm_Ca E d 122 [.ref a, .int t] h (gx_v (some (.int (gs_v0i C t))) h) := by
  show gm_W E d 122 0 [.ref a, .int t] [] h _
  obtain ⟨-, k3, -, fk, -⟩ := q
  unfold gs_v0i
  by_cases h1 : 6 ≤ t
  · have h2 : ¬ t < 6 := Int32.not_lt.mpr h1
    simp only [r122_0, r122_1, r122_3, r122_6, r122_8, r122_9, r122_9n, r122_10, r122_13, r122_16, r122_17, r122_18, r122_19, r122_20, r122_23, r122_24, r122_27, r122_29, i32_10, reduceIte, gm_cmp1, gm_cmp3, gm_cmp4, gm_kd_sf, gm_ln_sf, gm_sf_1, gm_sf_2, gm_nw_1, gm_nw_2, gm_k_int, gm_k_ref, gm_k_null, gm_k_u, gm_k_long, and_true, true_and, true_or, or_true, or_false, false_or, and_self, or_self, if_true, if_false, List.map_nil, List.map_cons, List.sum_nil, List.sum_cons, Nat.zero_le, Option.toList_some, Option.toList_none, List.cons_append, List.nil_append, ne_eq, not_false_eq_true, not_true_eq_false, nI_1, nI_add, Value.category, Nat.reduceAdd, Nat.reduceMod, Nat.reduceLeDiff, Nat.reduceLT, Nat.reduceEqDiff, Nat.reducePow, Nat.le_refl, Nat.add_left_cancel_iff, Nat.add_eq_left, Nat.left_eq_add, Nat.add_zero, h1, h2]
    exact ⟨rfl, rfl⟩
  · have h2 : t < 6 := Int32.not_le.mp h1
    by_cases h3 : gs_kind C = 0
    · by_cases h4 : t = 5
      · simp only [r122_0, r122_1, r122_3, r122_6, r122_8, r122_9, r122_9n, r122_10, r122_13, r122_16, r122_17, r122_18, r122_19, r122_20, r122_23, r122_24, r122_27, r122_29, i32_10, reduceIte, gm_cmp1, gm_cmp3, gm_cmp4, gm_kd_sf, gm_ln_sf, gm_sf_1, gm_sf_2, gm_nw_1, gm_nw_2, gm_k_int, gm_k_ref, gm_k_null, gm_k_u, gm_k_long, and_true, true_and, true_or, or_true, or_false, false_or, and_self, or_self, if_true, if_false, List.map_nil, List.map_cons, List.sum_nil, List.sum_cons, Nat.zero_le, Option.toList_some, Option.toList_none, List.cons_append, List.nil_append, ne_eq, not_false_eq_true, not_true_eq_false, nI_1, nI_add, Value.category, Nat.reduceAdd, Nat.reduceMod, Nat.reduceLeDiff, Nat.reduceLT, Nat.reduceEqDiff, Nat.reducePow, Nat.le_refl, Nat.add_left_cancel_iff, Nat.add_eq_left, Nat.left_eq_add, Nat.add_zero, h1, h2, k3, fk, h3, h4]
        exact ⟨rfl, rfl⟩
      · simp only [r122_0, r122_1, r122_3, r122_6, r122_8, r122_9, r122_9n, r122_10, r122_13, r122_16, r122_17, r122_18, r122_19, r122_20, r122_23, r122_24, r122_27, r122_29, i32_10, reduceIte, gm_cmp1, gm_cmp3, gm_cmp4, gm_kd_sf, gm_ln_sf, gm_sf_1, gm_sf_2, gm_nw_1, gm_nw_2, gm_k_int, gm_k_ref, gm_k_null, gm_k_u, gm_k_long, and_true, true_and, true_or, or_true, or_false, false_or, and_self, or_self, if_true, if_false, List.map_nil, List.map_cons, List.sum_nil, List.sum_cons, Nat.zero_le, Option.toList_some, Option.toList_none, List.cons_append, List.nil_append, ne_eq, not_false_eq_true, not_true_eq_false, nI_1, nI_add, Value.category, Nat.reduceAdd, Nat.reduceMod, Nat.reduceLeDiff, Nat.reduceLT, Nat.reduceEqDiff, Nat.reducePow, Nat.le_refl, Nat.add_left_cancel_iff, Nat.add_eq_left, Nat.left_eq_add, Nat.add_zero, h1, h2, k3, fk, h3, h4]
        exact ⟨rfl, rfl⟩
    · simp only [r122_0, r122_1, r122_3, r122_6, r122_8, r122_9, r122_9n, r122_10, r122_13, r122_16, r122_17, r122_18, r122_19, r122_20, r122_23, r122_24, r122_27, r122_29, i32_10, reduceIte, gm_cmp1, gm_cmp3, gm_cmp4, gm_kd_sf, gm_ln_sf, gm_sf_1, gm_sf_2, gm_nw_1, gm_nw_2, gm_k_int, gm_k_ref, gm_k_null, gm_k_u, gm_k_long, and_true, true_and, true_or, or_true, or_false, false_or, and_self, or_self, if_true, if_false, List.map_nil, List.map_cons, List.sum_nil, List.sum_cons, Nat.zero_le, Option.toList_some, Option.toList_none, List.cons_append, List.nil_append, ne_eq, not_false_eq_true, not_true_eq_false, nI_1, nI_add, Value.category, Nat.reduceAdd, Nat.reduceMod, Nat.reduceLeDiff, Nat.reduceLT, Nat.reduceEqDiff, Nat.reducePow, Nat.le_refl, Nat.add_left_cancel_iff, Nat.add_eq_left, Nat.left_eq_add, Nat.add_zero, h1, h2, k3, fk, h3]
      exact ⟨rfl, rfl⟩
end X6
