/-! THE CLASS, 25: constant, field. -/
section Z8
variable {E : Nat → Value} {d x b : Nat} {h h' : gm_H} {ca ca' : Nat → Nat} {K K' : gs_K} {F G : Nat → Prop} {s : gs_S} {lf : Int32}
/-- a class changed in place -/
theorem gx_R.cls {c : Nat} {C C' : gs_C} (R : gx_R E h x ca K F s) (hC : gs_cls K c = some C) (h1 : h'.1 = h.1) (hr : ∀ a, a ≠ ca c → a ≠ ca c + 1 → a ≠ ca c + 2 → gm_rd h' a = gm_rd h a) (hcl : gx_cl h' x ca F c C' (ca c)) (hs : gs_sup C' = gs_sup C) : gx_R E h' x ca (gs_def1 K c C') F s := by
  obtain ⟨hc6, fc, ⟨⟨o1, o2, o3⟩, k0, -, -, -, -, -, -, -, -, -, -, k1, -, k2, -, -⟩⟩ := R.2.2.1.at hC
  obtain ⟨q1, q2, q3, q4, ⟨ta, q5⟩, q6, q7⟩ := R
  have w1 := o1.1
  have w2 := o2.1
  have w3 := o3.1
  have ro : ∀ i, i ≤ 6 → gm_rd h' (x + i) = gm_rd h (x + i) := fun i hi => hr _ (by omega) (by omega) (by omega)
  have r0 := ro 0 (by decide)
  rw [Nat.add_zero] at r0
  have ne : ∀ {a q : Nat}, gm_kd h a = q → q ≠ 3 → q ≠ 100 → gm_rd h' a = gm_rd h a := fun {a q} e n1 n2 => hr a (fun z => by subst z; omega) (fun z => by subst z; omega) (fun z => by subst z; omega)
  have ok : ∀ {a}, gx_ok h x F a → gx_ok h' x F a := fun o => o.tr (by omega)
  have cs : ∀ c', (gs_cls K c').isSome = true ↔ (gs_cls (gs_def1 K c C') c').isSome = true := by
    intro c'
    show _ ↔ (if c' = c then some C' else gs_cls K c').isSome = true
    by_cases e : c' = c
    · rw [if_pos e, e, hC]; simp
    · rw [if_neg e]
  have ds : ∀ {L : List gs_L} {v : Value}, gx_ds h x ca K F L v → gx_ds h' x ca (gs_def1 K c C') F L v := by
    intro L
    induction L with
    | nil => intro v q; exact q
    | cons l L ih =>
      intro v q
      obtain ⟨a, u, w, rfl, p1, p2, p3, g1, g2, g3, g4, g5, g6, g7, g8, g9, g10, g11, g12, g13, g14, g15, g16, g17, g18, g19⟩ := q
      have ea := ne g1 (by decide) (by decide)
      have dj := g15.2 c (by rw [hC]; rfl)
      have eu := hr u dj.1 dj.2.1 dj.2.2.1
      have ew := hr w dj.2.2.2.1 dj.2.2.2.2.1 dj.2.2.2.2.2
      refine ⟨a, u, w, rfl, ok p1, ok p2, ok p3, ?_⟩
      simp only [gv_kd ea, gv_kd eu, gv_kd ew, gv_ln eu, gv_ln ew, gv_fv ea, gv_fv eu, gv_fv ew]
      exact ⟨g1, g2, g3, g4, g5, g6, g7, g8, g9, g10, g11, g12, g13, g14, ⟨g15.1, fun c' z => g15.2 c' ((cs c').mpr z)⟩, g16, fun c' z => ⟨(g17 c' z).1, (cs c').mp (g17 c' z).2⟩, g18, ih g19⟩
  have gG : gx_G E h' x F := by
    obtain ⟨⟨z, e0, o, j1, j2, j3⟩, e5, q⟩ := q3.1.1
    refine ⟨⟨z, e0, ok o, ?_⟩, e5, fun i hi => ?_⟩
    · have ea := ne j1 (by decide) (by decide)
      simp only [gv_kd ea, gv_ln ea, gv_fv ea]
      exact ⟨j1, j2, j3⟩
    · obtain ⟨a, v, e, p1, p2, i1, i2, i3, i4, i5, i6⟩ := q i hi
      have ea := ne i1 (by decide) (by decide)
      have ev := ne i5 (by decide) (by decide)
      refine ⟨a, v, e, ok p1, ok p2, ?_⟩
      simp only [gv_kd ea, gv_ln ea, gv_fv ea, gv_kd ev, gv_ln ev, gv_fv ev]
      exact ⟨i1, i2, i3, i4, i5, i6⟩
  refine ⟨?_, ?_, ⟨⟨gG, fun c' z => ?_⟩, fun c' z => ⟨fun z2 => ?_, fun C2 z2 => ?_⟩⟩, ?_, ⟨ta, q5.1, fun i o z => ?_⟩, fun i e z => ?_, fun i o c' z z2 => (cs c').mp (q7.1 i o c' z z2), q7.2⟩
  · unfold gx_A at q1 ⊢
    simp only [gv_kd r0, gv_fv r0, gv_kd (ro 1 (by decide)), gv_ln (ro 1 (by decide)), gv_kd (ro 2 (by decide)), gv_ln (ro 2 (by decide)), gv_kd (ro 3 (by decide)), gv_ln (ro 3 (by decide)), gv_kd (ro 4 (by decide)), gv_fv (ro 4 (by decide)), gv_kd (ro 5 (by decide)), gv_ln (ro 5 (by decide)), gv_kd (ro 6 (by decide)), gv_ln (ro 6 (by decide)), h1]
    exact q1
  · unfold gx_B at q2 ⊢
    simp only [gv_fv r0, gv_fv (ro 2 (by decide))]
    exact q2
  · show (if c' = c then some C' else gs_cls K c') = none
    rw [if_neg (by omega)]
    exact q3.1.2 c' z
  · have z2 : (if c' = c then some C' else gs_cls K c') = none := z2
    by_cases e : c' = c
    · rw [if_pos e] at z2; cases z2
    · rw [if_neg e] at z2
      rw [gv_fv (ro 1 (by decide))]
      exact (q3.2 c' z).1 z2
  · have z2 : (if c' = c then some C' else gs_cls K c') = some C2 := z2
    by_cases e : c' = c
    · rw [if_pos e] at z2
      cases z2
      subst e
      obtain ⟨y1, y2, y3⟩ := (q3.2 c' z).2 C hC
      exact ⟨by rw [gv_fv (ro 1 (by decide))]; exact y1, hcl, fun s' e' => by
        rw [hs] at e'
        exact ⟨(y3 s' e').1, (cs s').mp (y3 s' e').2⟩⟩
    · rw [if_neg e] at z2
      obtain ⟨y1, ⟨⟨p1, p2, p3⟩, g1, g2, g3, g4, g5, g6, g7, g8, g9, g10, g11, g12, g13, g14, g15, g16⟩, y3⟩ := (q3.2 c' z).2 C2 z2
      have hne : ca c' ≠ ca c := fun w => e (q3.inj z2 hC w)
      have n1 : ca c' ≠ ca c + 1 := fun w => by rw [w] at g1; omega
      have n2 : ca c' ≠ ca c + 2 := fun w => by rw [w] at g1; omega
      have m1 : ca c' + 1 ≠ ca c := fun w => by rw [w] at g12; omega
      have m2 : ca c' + 2 ≠ ca c := fun w => by rw [w] at g14; omega
      have ea := hr (ca c') hne n1 n2
      have eu := hr (ca c' + 1) m1 (by omega) (by omega)
      have ew := hr (ca c' + 2) m2 (by omega) (by omega)
      refine ⟨by rw [gv_fv (ro 1 (by decide))]; exact y1, ⟨⟨ok p1, ok p2, ok p3⟩, ?_⟩, fun s' e' => ⟨(y3 s' e').1, (cs s').mp (y3 s' e').2⟩⟩
      simp only [gv_kd ea, gv_kd eu, gv_kd ew, gv_ln eu, gv_ln ew, gv_fv ea, gv_fv eu, gv_fv ew]
      exact ⟨g1, g2, g3, g4, g5, g6, g7, g8, g9, g10, g11, g12, g13, g14, g15, g16⟩
  · unfold gx_M at q4 ⊢
    simp only [gv_fv r0, gv_fv (ro 4 (by decide))]
    exact q4
  · obtain ⟨b1, b2, b3⟩ := q5.2 i o z
    exact ⟨by rw [gv_fv (ro 3 (by decide))]; exact b1, ⟨ok b2.1, ok b2.2⟩, b3.tr (ne b3.1 (by decide) (by decide)) (ne b3.2.2.2.2.2.2.1 (by decide) (by decide))⟩
  · rw [gv_fv (ro 5 (by decide)), gv_fv (ro 6 (by decide))]
    exact ⟨(q6 i e z).1, ds (q6 i e z).2⟩
/-- a field of the class's own cell -/
theorem gx_X.cls {c j : Nat} {C C' : gs_C} {v : Value} (X : gx_X E h x ca K s lf) (hC : gs_cls K c = some C) (hs : gs_sup C' = gs_sup C) (hcl : gx_cl (gm_sf h (ca c) j v) x ca (fun _ => False) c C' (ca c)) : gx_X E (gm_sf h (ca c) j v) x ca (gs_def1 K c C') s lf := by
  obtain ⟨-, -, ⟨⟨o1, -, -⟩, -⟩⟩ := X.1.2.2.1.at hC
  refine ⟨X.1.cls hC gm_sf_1 (fun a n1 _ _ => gm_rd_sfn n1) hcl hs, ?_⟩
  rw [gm_fv_sfa (by have := o1.1; omega)]
  exact X.2
/-- may the constant be had, the class be barred; what becomes of the classes -/
def gs_cst (K : gs_K) (n nm on : Int32) : Int32 × gs_K := match gs_cn K n with
  | none => (-1, K)
  | some c => match gs_cls K c with
    | none => (-1, K)
    | some C => if gs_kind C = 3 then (if nm < 0 ∨ 26 ≤ nm then (-1, K) else (0, gs_def1 K c (C.1, C.2.1, C.2.2.1, C.2.2.2.1, C.2.2.2.2.1, gs_con C ||| 1 <<< (nm &&& 31)))) else (0, gs_def1 K c (C.1, C.2.1, C.2.2.1, C.2.2.2.1, decide (on = 1), C.2.2.2.2.2))
theorem gs_cn_some {n : Int32} {c : Nat} (e : gs_cn K n = some c) : (gs_cls K c).isSome = true := by
  unfold gs_cn at e
  split at e
  · cases e
  · split at e
    · rename_i z; cases e; exact z
    · cases e
theorem x_constant {n nm on : Int32} (hd : 1 ≤ d) (hon : on = 0 ∨ on = 1) (X : gx_X E h x ca K s lf) : gm_Ca E d 54 [.ref x, .int n, .int nm, .int on] h (fun r h' => r = .inl (some (.int (gs_cst K n nm on).1)) ∧ gx_X E h' x ca (gs_cst K n nm on).2 s lf ∧ h'.1 = h.1 ∧ h'.2.1 = h.2.1) := by
  have R := X.1
  show gm_W E d 54 0 [.ref x, .int n, .int nm, .int on, gm_u] [] h _
  simp only [r54_0, r54_0n, r54_1, r54_5, r54_5n, r54_7, r54_7n, r54_9n, r54_9, r54_12, r54_13, r54_14, r54_14n, r54_16, r54_19, r54_20, r54_23, r54_23n, r54_25, r54_26, r54_29, r54_30, r54_31, r54_35, r54_38, r54_39, r54_40, r54_40n, r54_42, r54_42i, r54_43, r54_46, r54_47, r54_48, r54_49, r54_50, r54_53, r54_54, i32_10, reduceIte, gm_cmp1, gm_cmp3, gm_cmp4, gm_kd_sf, gm_ln_sf, gm_sf_1, gm_sf_2, gm_nw_1, gm_nw_2, gm_k_int, gm_k_ref, gm_k_null, gm_k_u, gm_k_long, and_true, true_and, true_or, or_true, or_false, false_or, and_self, or_self, if_true, if_false, List.map_nil, List.map_cons, List.sum_nil, List.sum_cons, Nat.zero_le, Option.toList_some, Option.toList_none, List.cons_append, List.nil_append, ne_eq, not_false_eq_true, not_true_eq_false, nI_1, nI_add, Value.category, Nat.reduceAdd, Nat.reduceMod, Nat.reduceLeDiff, Nat.reduceLT, Nat.reduceEqDiff, Nat.reducePow, Nat.le_refl, Nat.add_left_cancel_iff, Nat.add_eq_left, Nat.left_eq_add, Nat.add_zero]
  refine c54_2 (by simp) R.1.1 hd (x_classNumbered R) (gx_kn ?_) gx_kx
  unfold gs_cst
  cases e : gs_cn K n with
  | none =>
    simp only [r54_0, r54_0n, r54_1, r54_5, r54_5n, r54_7, r54_7n, r54_9n, r54_9, r54_12, r54_13, r54_14, r54_14n, r54_16, r54_19, r54_20, r54_23, r54_23n, r54_25, r54_26, r54_29, r54_30, r54_31, r54_35, r54_38, r54_39, r54_40, r54_40n, r54_42, r54_42i, r54_43, r54_46, r54_47, r54_48, r54_49, r54_50, r54_53, r54_54, i32_10, reduceIte, gm_cmp1, gm_cmp3, gm_cmp4, gm_kd_sf, gm_ln_sf, gm_sf_1, gm_sf_2, gm_nw_1, gm_nw_2, gm_k_int, gm_k_ref, gm_k_null, gm_k_u, gm_k_long, and_true, true_and, true_or, or_true, or_false, false_or, and_self, or_self, if_true, if_false, List.map_nil, List.map_cons, List.sum_nil, List.sum_cons, Nat.zero_le, Option.toList_some, Option.toList_none, List.cons_append, List.nil_append, ne_eq, not_false_eq_true, not_true_eq_false, nI_1, nI_add, Value.category, Nat.reduceAdd, Nat.reduceMod, Nat.reduceLeDiff, Nat.reduceLT, Nat.reduceEqDiff, Nat.reducePow, Nat.le_refl, Nat.add_left_cancel_iff, Nat.add_eq_left, Nat.left_eq_add, Nat.add_zero, gx_ow]
    exact X
  | some c =>
    obtain ⟨C, hC⟩ := Option.isSome_iff_exists.mp (gs_cn_some e)
    have q := (R.2.2.1.at hC).2.2
    have q' := q
    obtain ⟨p0, k3, p2, p3, p4, p5, p6, p7, p8, p9, p10, p11, p12, p13, p14, p15, p16⟩ := q'
    have lc : gm_ln h (ca c) = 9 := gm_kd_ln k3 (by decide)
    have n1 : ca c + 1 ≠ ca c := by omega
    have n2 : ca c + 2 ≠ ca c := by omega
    dsimp only
    rw [hC]
    dsimp only
    by_cases k33 : gs_kind C = 3
    · rw [if_pos k33]
      simp only [r54_0, r54_0n, r54_1, r54_5, r54_5n, r54_7, r54_7n, r54_9n, r54_9, r54_12, r54_13, r54_14, r54_14n, r54_16, r54_19, r54_20, r54_23, r54_23n, r54_25, r54_26, r54_29, r54_30, r54_31, r54_35, r54_38, r54_39, r54_40, r54_40n, r54_42, r54_42i, r54_43, r54_46, r54_47, r54_48, r54_49, r54_50, r54_53, r54_54, i32_10, reduceIte, gm_cmp1, gm_cmp3, gm_cmp4, gm_kd_sf, gm_ln_sf, gm_sf_1, gm_sf_2, gm_nw_1, gm_nw_2, gm_k_int, gm_k_ref, gm_k_null, gm_k_u, gm_k_long, and_true, true_and, true_or, or_true, or_false, false_or, and_self, or_self, if_true, if_false, List.map_nil, List.map_cons, List.sum_nil, List.sum_cons, Nat.zero_le, Option.toList_some, Option.toList_none, List.cons_append, List.nil_append, ne_eq, not_false_eq_true, not_true_eq_false, nI_1, nI_add, Value.category, Nat.reduceAdd, Nat.reduceMod, Nat.reduceLeDiff, Nat.reduceLT, Nat.reduceEqDiff, Nat.reducePow, Nat.le_refl, Nat.add_left_cancel_iff, Nat.add_eq_left, Nat.left_eq_add, Nat.add_zero, gx_ow, k3, p3, k33]
      refine c54_32 (by simp) hd (x_isName nm) (gx_kn ?_) gx_kx
      by_cases m0 : nm < 0
      · simp only [r54_0, r54_0n, r54_1, r54_5, r54_5n, r54_7, r54_7n, r54_9n, r54_9, r54_12, r54_13, r54_14, r54_14n, r54_16, r54_19, r54_20, r54_23, r54_23n, r54_25, r54_26, r54_29, r54_30, r54_31, r54_35, r54_38, r54_39, r54_40, r54_40n, r54_42, r54_42i, r54_43, r54_46, r54_47, r54_48, r54_49, r54_50, r54_53, r54_54, i32_10, reduceIte, gm_cmp1, gm_cmp3, gm_cmp4, gm_kd_sf, gm_ln_sf, gm_sf_1, gm_sf_2, gm_nw_1, gm_nw_2, gm_k_int, gm_k_ref, gm_k_null, gm_k_u, gm_k_long, and_true, true_and, true_or, or_true, or_false, false_or, and_self, or_self, if_true, if_false, List.map_nil, List.map_cons, List.sum_nil, List.sum_cons, Nat.zero_le, Option.toList_some, Option.toList_none, List.cons_append, List.nil_append, ne_eq, not_false_eq_true, not_true_eq_false, nI_1, nI_add, Value.category, Nat.reduceAdd, Nat.reduceMod, Nat.reduceLeDiff, Nat.reduceLT, Nat.reduceEqDiff, Nat.reducePow, Nat.le_refl, Nat.add_left_cancel_iff, Nat.add_eq_left, Nat.left_eq_add, Nat.add_zero, m0]
        exact X
      by_cases m1 : 26 ≤ nm
      · simp only [r54_0, r54_0n, r54_1, r54_5, r54_5n, r54_7, r54_7n, r54_9n, r54_9, r54_12, r54_13, r54_14, r54_14n, r54_16, r54_19, r54_20, r54_23, r54_23n, r54_25, r54_26, r54_29, r54_30, r54_31, r54_35, r54_38, r54_39, r54_40, r54_40n, r54_42, r54_42i, r54_43, r54_46, r54_47, r54_48, r54_49, r54_50, r54_53, r54_54, i32_10, reduceIte, gm_cmp1, gm_cmp3, gm_cmp4, gm_kd_sf, gm_ln_sf, gm_sf_1, gm_sf_2, gm_nw_1, gm_nw_2, gm_k_int, gm_k_ref, gm_k_null, gm_k_u, gm_k_long, and_true, true_and, true_or, or_true, or_false, false_or, and_self, or_self, if_true, if_false, List.map_nil, List.map_cons, List.sum_nil, List.sum_cons, Nat.zero_le, Option.toList_some, Option.toList_none, List.cons_append, List.nil_append, ne_eq, not_false_eq_true, not_true_eq_false, nI_1, nI_add, Value.category, Nat.reduceAdd, Nat.reduceMod, Nat.reduceLeDiff, Nat.reduceLT, Nat.reduceEqDiff, Nat.reducePow, Nat.le_refl, Nat.add_left_cancel_iff, Nat.add_eq_left, Nat.left_eq_add, Nat.add_zero, m0, m1]
        exact X
      simp only [r54_0, r54_0n, r54_1, r54_5, r54_5n, r54_7, r54_7n, r54_9n, r54_9, r54_12, r54_13, r54_14, r54_14n, r54_16, r54_19, r54_20, r54_23, r54_23n, r54_25, r54_26, r54_29, r54_30, r54_31, r54_35, r54_38, r54_39, r54_40, r54_40n, r54_42, r54_42i, r54_43, r54_46, r54_47, r54_48, r54_49, r54_50, r54_53, r54_54, i32_10, reduceIte, gm_cmp1, gm_cmp3, gm_cmp4, gm_kd_sf, gm_ln_sf, gm_sf_1, gm_sf_2, gm_nw_1, gm_nw_2, gm_k_int, gm_k_ref, gm_k_null, gm_k_u, gm_k_long, and_true, true_and, true_or, or_true, or_false, false_or, and_self, or_self, if_true, if_false, List.map_nil, List.map_cons, List.sum_nil, List.sum_cons, Nat.zero_le, Option.toList_some, Option.toList_none, List.cons_append, List.nil_append, ne_eq, not_false_eq_true, not_true_eq_false, nI_1, nI_add, Value.category, Nat.reduceAdd, Nat.reduceMod, Nat.reduceLeDiff, Nat.reduceLT, Nat.reduceEqDiff, Nat.reducePow, Nat.le_refl, Nat.add_left_cancel_iff, Nat.add_eq_left, Nat.left_eq_add, Nat.add_zero, m0, m1, k3, p10]
      refine X.cls hC rfl ⟨⟨p0.1.tr (by rw [gm_sf_1]; exact Nat.le_refl _), p0.2.1.tr (by rw [gm_sf_1]; exact Nat.le_refl _), p0.2.2.tr (by rw [gm_sf_1]; exact Nat.le_refl _)⟩, ?_⟩
      simp only [gm_kd_sf, gm_ln_sf, gm_fv_sfa n1, gm_fv_sfa n2, gm_fv_sfj (show (0 : Nat) ≠ 8 by decide), gm_fv_sfj (show (1 : Nat) ≠ 8 by decide), gm_fv_sfj (show (2 : Nat) ≠ 8 by decide), gm_fv_sfj (show (3 : Nat) ≠ 8 by decide), gm_fv_sfj (show (4 : Nat) ≠ 8 by decide), gm_fv_sfj (show (5 : Nat) ≠ 8 by decide), gm_fv_sfj (show (6 : Nat) ≠ 8 by decide), gm_fv_sfj (show (7 : Nat) ≠ 8 by decide)]
      exact ⟨k3, p2, p3, p4, p5, p6, p7, p8, p9, gm_fv_sf (by rw [lc]; decide), p11, p12, p13, p14, p15, p16⟩
    · rw [if_neg k33]
      simp only [r54_0, r54_0n, r54_1, r54_5, r54_5n, r54_7, r54_7n, r54_9n, r54_9, r54_12, r54_13, r54_14, r54_14n, r54_16, r54_19, r54_20, r54_23, r54_23n, r54_25, r54_26, r54_29, r54_30, r54_31, r54_35, r54_38, r54_39, r54_40, r54_40n, r54_42, r54_42i, r54_43, r54_46, r54_47, r54_48, r54_49, r54_50, r54_53, r54_54, i32_10, reduceIte, gm_cmp1, gm_cmp3, gm_cmp4, gm_kd_sf, gm_ln_sf, gm_sf_1, gm_sf_2, gm_nw_1, gm_nw_2, gm_k_int, gm_k_ref, gm_k_null, gm_k_u, gm_k_long, and_true, true_and, true_or, or_true, or_false, false_or, and_self, or_self, if_true, if_false, List.map_nil, List.map_cons, List.sum_nil, List.sum_cons, Nat.zero_le, Option.toList_some, Option.toList_none, List.cons_append, List.nil_append, ne_eq, not_false_eq_true, not_true_eq_false, nI_1, nI_add, Value.category, Nat.reduceAdd, Nat.reduceMod, Nat.reduceLeDiff, Nat.reduceLT, Nat.reduceEqDiff, Nat.reducePow, Nat.le_refl, Nat.add_left_cancel_iff, Nat.add_eq_left, Nat.left_eq_add, Nat.add_zero, gx_ow, k3, p3, k33, hon]
      refine X.cls hC rfl ⟨⟨p0.1.tr (by rw [gm_sf_1]; exact Nat.le_refl _), p0.2.1.tr (by rw [gm_sf_1]; exact Nat.le_refl _), p0.2.2.tr (by rw [gm_sf_1]; exact Nat.le_refl _)⟩, ?_⟩
      simp only [gm_kd_sf, gm_ln_sf, gm_fv_sfa n1, gm_fv_sfa n2, gm_fv_sfj (show (0 : Nat) ≠ 7 by decide), gm_fv_sfj (show (1 : Nat) ≠ 7 by decide), gm_fv_sfj (show (2 : Nat) ≠ 7 by decide), gm_fv_sfj (show (3 : Nat) ≠ 7 by decide), gm_fv_sfj (show (4 : Nat) ≠ 7 by decide), gm_fv_sfj (show (5 : Nat) ≠ 7 by decide), gm_fv_sfj (show (6 : Nat) ≠ 7 by decide), gm_fv_sfj (show (8 : Nat) ≠ 7 by decide)]
      refine ⟨k3, p2, p3, p4, p5, p6, p7, p8, ?_, p10, p11, p12, p13, p14, p15, p16⟩
      rw [gm_fv_sf (by rw [lc]; decide)]
      rcases hon with rfl | rfl <;> rfl
end Z8
