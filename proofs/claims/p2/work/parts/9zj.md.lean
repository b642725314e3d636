/-! THE REFERENCE, 12: chains of classes; limits. -/
section MD
variable {E : Nat → Value} {d m : Nat} {h : gm_H} {t : gr_t} {K : gs_K} {s : gs_S}
theorem gr_C.at {c : Nat} {C : gs_C} (Cl : gr_C t K) (hc : c < 6) (hC : gs_cls K c = some C) : t.1 2 c = gs_kind C ∧ t.1 4 c = gr_o (gs_sup C) ∧ t.1 5 c = nI (gs_fs C).length ∧ (gs_fs C).length ≤ 4 ∧ t.1 8 c = gs_con C ∧ t.1 9 c = (if gs_bar C = true then 1 else 0) ∧ ∀ (j : Nat) (q : Int32 × Int32), (gs_fs C)[j]? = some q → t.1 6 (4 * c + j) = q.1 ∧ t.1 7 (4 * c + j) = q.2 := by
  have q := Cl c hc
  rw [hC] at q
  exact ⟨q.1, q.2.2.1, q.2.2.2.2.1, q.2.2.2.2.2.1, q.2.2.2.2.2.2.1, q.2.2.2.2.2.2.2.1, q.2.2.2.2.2.2.2.2⟩
theorem gr_C.slots {o : Option Nat} (Cl : gr_C t K) (hw : gs_wf K) (h6 : ∀ c, 6 ≤ c → gs_cls K c = none) (ho : ∀ c, o = some c → c < 6) : gs_slots K o ≤ 24 := by
  have h4 : ∀ c C, gs_cls K c = some C → (gs_fs C).length ≤ 4 := fun c C e => by
    rcases Nat.lt_or_ge c 6 with z | z
    · exact (Cl.at z e).2.2.2.1
    · rw [h6 c z] at e; cases e
  have := gs_slots_le hw h4 6 o ho
  omega
theorem m_firstSlot {c : Nat} {C : gs_C} (Cl : gr_C t K) (hw : gs_wf K) (h6 : ∀ c, 6 ≤ c → gs_cls K c = none) (hC : gs_cls K c = some C) : gm_Ca E d 20 [.ref m, .int (nI c)] (gr_H h m t) (gx_v (some (.int (nI (gs_first K C)))) (gr_H h m t)) := by
  have hc6 : c < 6 := by
    rcases Nat.lt_or_ge c 6 with z | z
    · exact z
    · rw [h6 c z] at hC; cases hC
  obtain ⟨Q, hQ⟩ : ∃ Q : gm_R → gm_H → Prop, Q = gx_v (some (.int (nI (gs_first K C)))) (gr_H h m t) := ⟨_, rfl⟩
  rw [← hQ]
  have loop : ∀ (k : Nat) (o : Option Nat) (n : Nat), (∀ q, o = some q → q < k ∧ q < 6 ∧ (gs_cls K q).isSome = true) → n + gs_slots K o = gs_first K C → gm_W E d 20 9 [.ref m, .int (nI c), .int (nI n), .int (gr_o o)] [] (gr_H h m t) Q := by
    intro k
    induction k with
    | zero =>
      intro o n ho hs
      cases o with
      | some q => exact absurd (ho q rfl).1 (by omega)
      | none =>
        have e : (gr_o none : Int32) < 0 := by decide
        simp only [r20_0, r20_1, r20_2, r20_2n, r20_3, r20_6, r20_7, r20_8, r20_9, r20_10, r20_13, r20_14, r20_14n, r20_15, r20_18, r20_19, r20_20, r20_21, r20_22, r20_22n, r20_23, r20_26, r20_27, r20_28, r20_29, r20_32, r20_33, i32_10, reduceIte, gm_cmp1, gm_cmp3, gm_cmp4, gm_kd_sf, gm_ln_sf, gm_sf_1, gm_sf_2, gm_nw_1, gm_nw_2, gm_k_int, gm_k_ref, gm_k_null, gm_k_u, gm_k_long, and_true, true_and, true_or, or_true, or_false, false_or, and_self, or_self, if_true, if_false, List.map_nil, List.map_cons, List.sum_nil, List.sum_cons, Nat.zero_le, Option.toList_some, Option.toList_none, List.cons_append, List.nil_append, ne_eq, not_false_eq_true, not_true_eq_false, nI_1, nI_add, Value.category, Nat.reduceAdd, Nat.reduceMod, Nat.reduceLeDiff, Nat.reduceLT, Nat.reduceEqDiff, Nat.reducePow, Nat.le_refl, Nat.add_left_cancel_iff, Nat.add_eq_left, Nat.left_eq_add, Nat.add_zero, e]
        rw [hQ]
        have : gs_slots K none = 0 := rfl
        rw [← hs, this]
        exact ⟨rfl, rfl⟩
    | succ k ih =>
      intro o n ho hs
      cases o with
      | none =>
        have e : (gr_o none : Int32) < 0 := by decide
        simp only [r20_0, r20_1, r20_2, r20_2n, r20_3, r20_6, r20_7, r20_8, r20_9, r20_10, r20_13, r20_14, r20_14n, r20_15, r20_18, r20_19, r20_20, r20_21, r20_22, r20_22n, r20_23, r20_26, r20_27, r20_28, r20_29, r20_32, r20_33, i32_10, reduceIte, gm_cmp1, gm_cmp3, gm_cmp4, gm_kd_sf, gm_ln_sf, gm_sf_1, gm_sf_2, gm_nw_1, gm_nw_2, gm_k_int, gm_k_ref, gm_k_null, gm_k_u, gm_k_long, and_true, true_and, true_or, or_true, or_false, false_or, and_self, or_self, if_true, if_false, List.map_nil, List.map_cons, List.sum_nil, List.sum_cons, Nat.zero_le, Option.toList_some, Option.toList_none, List.cons_append, List.nil_append, ne_eq, not_false_eq_true, not_true_eq_false, nI_1, nI_add, Value.category, Nat.reduceAdd, Nat.reduceMod, Nat.reduceLeDiff, Nat.reduceLT, Nat.reduceEqDiff, Nat.reducePow, Nat.le_refl, Nat.add_left_cancel_iff, Nat.add_eq_left, Nat.left_eq_add, Nat.add_zero, e]
        rw [hQ]
        have : gs_slots K none = 0 := rfl
        rw [← hs, this]
        exact ⟨rfl, rfl⟩
      | some q =>
        obtain ⟨z1, z2, z3⟩ := ho q rfl
        obtain ⟨D, hD⟩ := Option.isSome_iff_exists.mp z3
        obtain ⟨a1, a2, a3, a4, -⟩ := Cl.at z2 hD
        have e : ¬ nI q < 0 := nI_pos (by omega)
        have e2 : (gr_o (some q) : Int32) = nI q := rfl
        have es := gs_slots_cons hw hD
        have g := ih (gs_sup D) (n + (gs_fs D).length) (fun p hp => by
          obtain ⟨y1, y2⟩ := (hw q D hD).2 p hp
          exact ⟨by omega, by omega, y2⟩) (by rw [← hs, es]; unfold gs_first; omega)
        rw [r20_9, e2]
        simp only [r20_0, r20_1, r20_2, r20_2n, r20_3, r20_6, r20_7, r20_8, r20_10, r20_13, r20_14, r20_14n, r20_15, r20_18, r20_19, r20_20, r20_21, r20_22, r20_22n, r20_23, r20_26, r20_27, r20_28, r20_29, r20_32, r20_33, i32_10, reduceIte, gm_cmp1, gm_cmp3, gm_cmp4, gm_kd_sf, gm_ln_sf, gm_sf_1, gm_sf_2, gm_nw_1, gm_nw_2, gm_k_int, gm_k_ref, gm_k_null, gm_k_u, gm_k_long, and_true, true_and, true_or, or_true, or_false, false_or, and_self, or_self, if_true, if_false, List.map_nil, List.map_cons, List.sum_nil, List.sum_cons, Nat.zero_le, Option.toList_some, Option.toList_none, List.cons_append, List.nil_append, ne_eq, not_false_eq_true, not_true_eq_false, nI_1, nI_add, Value.category, Nat.reduceAdd, Nat.reduceMod, Nat.reduceLeDiff, Nat.reduceLT, Nat.reduceEqDiff, Nat.reducePow, Nat.le_refl, Nat.add_left_cancel_iff, Nat.add_eq_left, Nat.left_eq_add, Nat.add_zero, g_k0, g_k1, g_l1, g_p4, g_a1, g_w1, g_k2, g_l2, g_p10, g_a2, g_w2, g_k3, g_l3, g_p11, g_a3, g_w3, g_k4, g_l4, g_p12, g_a4, g_w4, g_k5, g_l5, g_p13, g_a5, g_w5, g_k6, g_l6, g_p14, g_a6, g_w6, g_k7, g_l7, g_p15, g_a7, g_w7, g_k8, g_l8, g_p16, g_a8, g_w8, g_k9, g_l9, g_p17, g_a9, g_w9, g_k10, g_l10, g_p18, g_a10, g_w10, g_k11, g_l11, g_p19, g_a11, g_w11, g_k12, g_l12, g_p20, g_a12, g_w12, g_k13, g_l13, g_p21, g_a13, g_w13, g_k14, g_l14, g_p22, g_a14, g_w14, g_k15, g_l15, g_p24, g_a15, g_w15, g_k16, g_l16, g_p26, g_a16, g_w16, g_k17, g_l17, g_p27, g_a17, g_w17, g_k18, g_l18, g_p29, g_a18, g_w18, g_k19, g_l19, g_p30, g_a19, g_w19, g_k20, g_l20, g_p31, g_a20, g_w20, g_k21, g_l21, g_p32, g_a21, g_w21, g_k22, g_l22, g_p33, g_a22, g_w22, g_k23, g_l23, g_p34, g_a23, g_w23, g_k24, g_l24, g_p35, g_a24, g_w24, g_k25, g_l25, g_p36, g_a25, g_w25, g_k26, g_l26, g_p37, g_a26, g_w26, g_k27, g_l27, g_p38, g_a27, g_w27, g_k28, g_l28, g_p40, g_a28, g_w28, g_k29, g_l29, g_p41, g_a29, g_w29, g_k30, g_l30, g_p42, g_a30, g_w30, g_k31, g_l31, g_p43, g_a31, g_w31, g_k32, g_l32, g_p44, g_a32, g_w32, g_k33, g_l33, g_p45, g_a33, g_w33, g_k34, g_l34, g_p46, g_a34, g_w34, g_f0, g_s0, g_f1, g_s1, g_f2, g_s2, g_f3, g_s3, g_f5, g_s5, g_f6, g_s6, g_f7, g_s7, g_f8, g_s8, g_f9, g_s9, g_f23, g_s23, g_f25, g_s25, g_f28, g_s28, g_f39, g_s39, g_f47, g_s47, gr_ui_eq, gr_ui_2, gr_ul_eq, gr_ul_1, gr_ui_no, gr_ui_ni, gr_ul_no, gr_ul_ni, e, z2, a2, a3]
        exact g
  obtain ⟨a1, a2, a3, a4, -⟩ := Cl.at hc6 hC
  have g := loop c (gs_sup C) 0 (fun p hp => by
    obtain ⟨y1, y2⟩ := (hw c C hC).2 p hp
    exact ⟨by omega, by omega, y2⟩) (by unfold gs_first; omega)
  show gm_W E d 20 0 [.ref m, .int (nI c), gm_u, gm_u] [] (gr_H h m t) Q
  simp only [r20_0, r20_1, r20_2, r20_2n, r20_3, r20_6, r20_7, r20_8, r20_10, r20_13, r20_14, r20_14n, r20_15, r20_18, r20_19, r20_20, r20_21, r20_22, r20_22n, r20_23, r20_26, r20_27, r20_28, r20_29, r20_32, r20_33, i32_10, reduceIte, gm_cmp1, gm_cmp3, gm_cmp4, gm_kd_sf, gm_ln_sf, gm_sf_1, gm_sf_2, gm_nw_1, gm_nw_2, gm_k_int, gm_k_ref, gm_k_null, gm_k_u, gm_k_long, and_true, true_and, true_or, or_true, or_false, false_or, and_self, or_self, if_true, if_false, List.map_nil, List.map_cons, List.sum_nil, List.sum_cons, Nat.zero_le, Option.toList_some, Option.toList_none, List.cons_append, List.nil_append, ne_eq, not_false_eq_true, not_true_eq_false, nI_1, nI_add, Value.category, Nat.reduceAdd, Nat.reduceMod, Nat.reduceLeDiff, Nat.reduceLT, Nat.reduceEqDiff, Nat.reducePow, Nat.le_refl, Nat.add_left_cancel_iff, Nat.add_eq_left, Nat.left_eq_add, Nat.add_zero, g_k0, g_k1, g_l1, g_p4, g_a1, g_w1, g_k2, g_l2, g_p10, g_a2, g_w2, g_k3, g_l3, g_p11, g_a3, g_w3, g_k4, g_l4, g_p12, g_a4, g_w4, g_k5, g_l5, g_p13, g_a5, g_w5, g_k6, g_l6, g_p14, g_a6, g_w6, g_k7, g_l7, g_p15, g_a7, g_w7, g_k8, g_l8, g_p16, g_a8, g_w8, g_k9, g_l9, g_p17, g_a9, g_w9, g_k10, g_l10, g_p18, g_a10, g_w10, g_k11, g_l11, g_p19, g_a11, g_w11, g_k12, g_l12, g_p20, g_a12, g_w12, g_k13, g_l13, g_p21, g_a13, g_w13, g_k14, g_l14, g_p22, g_a14, g_w14, g_k15, g_l15, g_p24, g_a15, g_w15, g_k16, g_l16, g_p26, g_a16, g_w16, g_k17, g_l17, g_p27, g_a17, g_w17, g_k18, g_l18, g_p29, g_a18, g_w18, g_k19, g_l19, g_p30, g_a19, g_w19, g_k20, g_l20, g_p31, g_a20, g_w20, g_k21, g_l21, g_p32, g_a21, g_w21, g_k22, g_l22, g_p33, g_a22, g_w22, g_k23, g_l23, g_p34, g_a23, g_w23, g_k24, g_l24, g_p35, g_a24, g_w24, g_k25, g_l25, g_p36, g_a25, g_w25, g_k26, g_l26, g_p37, g_a26, g_w26, g_k27, g_l27, g_p38, g_a27, g_w27, g_k28, g_l28, g_p40, g_a28, g_w28, g_k29, g_l29, g_p41, g_a29, g_w29, g_k30, g_l30, g_p42, g_a30, g_w30, g_k31, g_l31, g_p43, g_a31, g_w31, g_k32, g_l32, g_p44, g_a32, g_w32, g_k33, g_l33, g_p45, g_a33, g_w33, g_k34, g_l34, g_p46, g_a34, g_w34, g_f0, g_s0, g_f1, g_s1, g_f2, g_s2, g_f3, g_s3, g_f5, g_s5, g_f6, g_s6, g_f7, g_s7, g_f8, g_s8, g_f9, g_s9, g_f23, g_s23, g_f25, g_s25, g_f28, g_s28, g_f39, g_s39, g_f47, g_s47, gr_ui_eq, gr_ui_2, gr_ul_eq, gr_ul_1, gr_ui_no, gr_ui_ni, gr_ul_no, gr_ul_ni, hc6, a2]
  exact g
theorem m_inChain {c : Nat} {o : Option Nat} (Cl : gr_C t K) (hw : gs_wf K) (hc : c < 6) (ho : ∀ q, o = some q → q < 6 ∧ (gs_cls K q).isSome = true) : gm_Ca E d 21 [.ref m, .int (nI c), .int (gr_o o)] (gr_H h m t) (gx_v (some (.int (if gs_inch K (some c) o = true then 1 else 0))) (gr_H h m t)) := by
  obtain ⟨Q, hQ⟩ : ∃ Q : gm_R → gm_H → Prop, Q = gx_v (some (.int (if gs_inch K (some c) o = true then 1 else 0))) (gr_H h m t) := ⟨_, rfl⟩
  rw [← hQ]
  have loop : ∀ (k i : Nat) (o1 : Option Nat), i + k = 6 → (∀ q, o1 = some q → q < k ∧ (gs_cls K q).isSome = true) → gs_inch K (some c) o1 = gs_inch K (some c) o → gm_W E d 21 5 [.ref m, .int (nI c), .int (gr_o o), .int (gr_o o1), .int (nI i)] [] (gr_H h m t) Q := by
    intro k
    induction k with
    | zero =>
      intro i o1 hi ho1 he
      cases o1 with
      | some q => exact absurd (ho1 q rfl).1 (by omega)
      | none =>
        have hi : i = 6 := by omega
        subst hi
        have e6 : (6 : Int32) ≤ nI 6 := by decide
        have en : ¬ (gr_o none : Int32) = nI c := fun z => (nI_pos (n := c) (by omega)) (by rw [← z]; decide)
        simp only [r21_0, r21_1, r21_2, r21_3, r21_5, r21_7, r21_9, r21_12, r21_13, r21_16, r21_17, r21_18, r21_21, r21_21n, r21_22, r21_25, r21_26, r21_27, r21_28, r21_31, r21_34, r21_35, r21_36, r21_39, r21_40, r21_43, r21_44, i32_10, reduceIte, gm_cmp1, gm_cmp3, gm_cmp4, gm_kd_sf, gm_ln_sf, gm_sf_1, gm_sf_2, gm_nw_1, gm_nw_2, gm_k_int, gm_k_ref, gm_k_null, gm_k_u, gm_k_long, and_true, true_and, true_or, or_true, or_false, false_or, and_self, or_self, if_true, if_false, List.map_nil, List.map_cons, List.sum_nil, List.sum_cons, Nat.zero_le, Option.toList_some, Option.toList_none, List.cons_append, List.nil_append, ne_eq, not_false_eq_true, not_true_eq_false, nI_1, nI_add, Value.category, Nat.reduceAdd, Nat.reduceMod, Nat.reduceLeDiff, Nat.reduceLT, Nat.reduceEqDiff, Nat.reducePow, Nat.le_refl, Nat.add_left_cancel_iff, Nat.add_eq_left, Nat.left_eq_add, Nat.add_zero, e6, en]
        rw [hQ, ← he]
        exact ⟨rfl, rfl⟩
    | succ k ih =>
      intro i o1 hi ho1 he
      have e6 : ¬ (6 : Int32) ≤ nI i := nI_ge (b := 6) (by omega) (by decide)
      cases o1 with
      | none =>
        have e : (gr_o none : Int32) < 0 := by decide
        have en : ¬ (gr_o none : Int32) = nI c := fun z => (nI_pos (n := c) (by omega)) (by rw [← z]; decide)
        simp only [r21_0, r21_1, r21_2, r21_3, r21_5, r21_7, r21_9, r21_12, r21_13, r21_16, r21_17, r21_18, r21_21, r21_21n, r21_22, r21_25, r21_26, r21_27, r21_28, r21_31, r21_34, r21_35, r21_36, r21_39, r21_40, r21_43, r21_44, i32_10, reduceIte, gm_cmp1, gm_cmp3, gm_cmp4, gm_kd_sf, gm_ln_sf, gm_sf_1, gm_sf_2, gm_nw_1, gm_nw_2, gm_k_int, gm_k_ref, gm_k_null, gm_k_u, gm_k_long, and_true, true_and, true_or, or_true, or_false, false_or, and_self, or_self, if_true, if_false, List.map_nil, List.map_cons, List.sum_nil, List.sum_cons, Nat.zero_le, Option.toList_some, Option.toList_none, List.cons_append, List.nil_append, ne_eq, not_false_eq_true, not_true_eq_false, nI_1, nI_add, Value.category, Nat.reduceAdd, Nat.reduceMod, Nat.reduceLeDiff, Nat.reduceLT, Nat.reduceEqDiff, Nat.reducePow, Nat.le_refl, Nat.add_left_cancel_iff, Nat.add_eq_left, Nat.left_eq_add, Nat.add_zero, e6, e, en]
        rw [hQ, ← he]
        exact ⟨rfl, rfl⟩
      | some q =>
        obtain ⟨z1, z3⟩ := ho1 q rfl
        have z2 : q < 6 := by omega
        obtain ⟨D, hD⟩ := Option.isSome_iff_exists.mp z3
        obtain ⟨a1, a2, -⟩ := Cl.at z2 hD
        have e : ¬ nI q < 0 := nI_pos (by omega)
        have e2 : (gr_o (some q) : Int32) = nI q := rfl
        have es := gs_inch_cons (o := some c) hw hD
        rw [e2]
        by_cases hqc : q = c
        · subst hqc
          simp only [r21_0, r21_1, r21_2, r21_3, r21_5, r21_7, r21_9, r21_12, r21_13, r21_16, r21_17, r21_18, r21_21, r21_21n, r21_22, r21_25, r21_26, r21_27, r21_28, r21_31, r21_34, r21_35, r21_36, r21_39, r21_40, r21_43, r21_44, i32_10, reduceIte, gm_cmp1, gm_cmp3, gm_cmp4, gm_kd_sf, gm_ln_sf, gm_sf_1, gm_sf_2, gm_nw_1, gm_nw_2, gm_k_int, gm_k_ref, gm_k_null, gm_k_u, gm_k_long, and_true, true_and, true_or, or_true, or_false, false_or, and_self, or_self, if_true, if_false, List.map_nil, List.map_cons, List.sum_nil, List.sum_cons, Nat.zero_le, Option.toList_some, Option.toList_none, List.cons_append, List.nil_append, ne_eq, not_false_eq_true, not_true_eq_false, nI_1, nI_add, Value.category, Nat.reduceAdd, Nat.reduceMod, Nat.reduceLeDiff, Nat.reduceLT, Nat.reduceEqDiff, Nat.reducePow, Nat.le_refl, Nat.add_left_cancel_iff, Nat.add_eq_left, Nat.left_eq_add, Nat.add_zero, e6, e]
          rw [hQ, ← he, es]
          simp
          exact ⟨rfl, rfl⟩
        · have en : ¬ nI q = nI c := fun z => hqc (nI_inj (by omega) (by omega) z)
          have g := ih (i + 1) (gs_sup D) (by omega) (fun p hp => by
            obtain ⟨y1, y2⟩ := (hw q D hD).2 p hp
            exact ⟨by omega, y2⟩) (by
            rw [← he, es]
            have : (some q == some c) = false := by simpa using hqc
            rw [this]; rfl)
          rw [r21_5]
          simp only [r21_0, r21_1, r21_2, r21_3, r21_7, r21_9, r21_12, r21_13, r21_16, r21_17, r21_18, r21_21, r21_21n, r21_22, r21_25, r21_26, r21_27, r21_28, r21_31, r21_34, r21_35, r21_36, r21_39, r21_40, r21_43, r21_44, i32_10, reduceIte, gm_cmp1, gm_cmp3, gm_cmp4, gm_kd_sf, gm_ln_sf, gm_sf_1, gm_sf_2, gm_nw_1, gm_nw_2, gm_k_int, gm_k_ref, gm_k_null, gm_k_u, gm_k_long, and_true, true_and, true_or, or_true, or_false, false_or, and_self, or_self, if_true, if_false, List.map_nil, List.map_cons, List.sum_nil, List.sum_cons, Nat.zero_le, Option.toList_some, Option.toList_none, List.cons_append, List.nil_append, ne_eq, not_false_eq_true, not_true_eq_false, nI_1, nI_add, Value.category, Nat.reduceAdd, Nat.reduceMod, Nat.reduceLeDiff, Nat.reduceLT, Nat.reduceEqDiff, Nat.reducePow, Nat.le_refl, Nat.add_left_cancel_iff, Nat.add_eq_left, Nat.left_eq_add, Nat.add_zero, g_k0, g_k1, g_l1, g_p4, g_a1, g_w1, g_k2, g_l2, g_p10, g_a2, g_w2, g_k3, g_l3, g_p11, g_a3, g_w3, g_k4, g_l4, g_p12, g_a4, g_w4, g_k5, g_l5, g_p13, g_a5, g_w5, g_k6, g_l6, g_p14, g_a6, g_w6, g_k7, g_l7, g_p15, g_a7, g_w7, g_k8, g_l8, g_p16, g_a8, g_w8, g_k9, g_l9, g_p17, g_a9, g_w9, g_k10, g_l10, g_p18, g_a10, g_w10, g_k11, g_l11, g_p19, g_a11, g_w11, g_k12, g_l12, g_p20, g_a12, g_w12, g_k13, g_l13, g_p21, g_a13, g_w13, g_k14, g_l14, g_p22, g_a14, g_w14, g_k15, g_l15, g_p24, g_a15, g_w15, g_k16, g_l16, g_p26, g_a16, g_w16, g_k17, g_l17, g_p27, g_a17, g_w17, g_k18, g_l18, g_p29, g_a18, g_w18, g_k19, g_l19, g_p30, g_a19, g_w19, g_k20, g_l20, g_p31, g_a20, g_w20, g_k21, g_l21, g_p32, g_a21, g_w21, g_k22, g_l22, g_p33, g_a22, g_w22, g_k23, g_l23, g_p34, g_a23, g_w23, g_k24, g_l24, g_p35, g_a24, g_w24, g_k25, g_l25, g_p36, g_a25, g_w25, g_k26, g_l26, g_p37, g_a26, g_w26, g_k27, g_l27, g_p38, g_a27, g_w27, g_k28, g_l28, g_p40, g_a28, g_w28, g_k29, g_l29, g_p41, g_a29, g_w29, g_k30, g_l30, g_p42, g_a30, g_w30, g_k31, g_l31, g_p43, g_a31, g_w31, g_k32, g_l32, g_p44, g_a32, g_w32, g_k33, g_l33, g_p45, g_a33, g_w33, g_k34, g_l34, g_p46, g_a34, g_w34, g_f0, g_s0, g_f1, g_s1, g_f2, g_s2, g_f3, g_s3, g_f5, g_s5, g_f6, g_s6, g_f7, g_s7, g_f8, g_s8, g_f9, g_s9, g_f23, g_s23, g_f25, g_s25, g_f28, g_s28, g_f39, g_s39, g_f47, g_s47, gr_ui_eq, gr_ui_2, gr_ul_eq, gr_ul_1, gr_ui_no, gr_ui_ni, gr_ul_no, gr_ul_ni, e6, e, en, z2, a2]
          exact g
  have g := loop 6 0 o rfl ho rfl
  show gm_W E d 21 0 [.ref m, .int (nI c), .int (gr_o o), gm_u, gm_u] [] (gr_H h m t) Q
  simp only [r21_0, r21_1, r21_2, r21_3, r21_7, r21_9, r21_12, r21_13, r21_16, r21_17, r21_18, r21_21, r21_21n, r21_22, r21_25, r21_26, r21_27, r21_28, r21_31, r21_34, r21_35, r21_36, r21_39, r21_40, r21_43, r21_44, i32_10, reduceIte, gm_cmp1, gm_cmp3, gm_cmp4, gm_kd_sf, gm_ln_sf, gm_sf_1, gm_sf_2, gm_nw_1, gm_nw_2, gm_k_int, gm_k_ref, gm_k_null, gm_k_u, gm_k_long, and_true, true_and, true_or, or_true, or_false, false_or, and_self, or_self, if_true, if_false, List.map_nil, List.map_cons, List.sum_nil, List.sum_cons, Nat.zero_le, Option.toList_some, Option.toList_none, List.cons_append, List.nil_append, ne_eq, not_false_eq_true, not_true_eq_false, nI_1, nI_add, Value.category, Nat.reduceAdd, Nat.reduceMod, Nat.reduceLeDiff, Nat.reduceLT, Nat.reduceEqDiff, Nat.reducePow, Nat.le_refl, Nat.add_left_cancel_iff, Nat.add_eq_left, Nat.left_eq_add, Nat.add_zero]
  exact g
end MD
