/-! THE REFERENCE, 22: handles; reference. -/
section MN
variable {E : Nat → Value} {d m : Nat} {h : gm_H} {t : gr_t} {K : gs_K} {s : gs_S}
/-- a handle -/
def gr_en (t : gr_t) (K : gs_K) (i : Nat) (q : Int32 × List gs_L) : Prop :=
  (t.1 16 i = 0 ∧ q = (-1, [])) ∨ (t.1 16 i = 1 ∧ q.1 = -1 ∧ q.2 ≠ [] ∧ gr_ch t K q.2 (t.1 17 i)) ∨ (t.1 16 i = 2 ∧ q.2 = [] ∧ ¬ q.1 < 0 ∧ t.1 17 i = q.1) ∨ (t.1 16 i = 3 ∧ q = (-2, []))
def gr_hs (t : gr_t) (K : gs_K) (s : gs_S) : Prop := t.1 0 28 = nI (gs_size s) ∧ gs_size s ≤ 130 ∧ gs_f1 s ≤ (gs_hs s).length ∧ ∀ (i : Nat) (q : Int32 × List gs_L), i < gs_size s → (gs_hs s)[gs_f1 s + i]? = some q → gr_en t K i q
def gr_rf (K : gs_K) (b : Bool) (s : gs_S) : Except Int32 ((Int32 ⊕ List gs_L) × gs_S) := if b = true then gs_b (gs_ent K) (fun e => fun s => (match ((gs_hs s).getD e (-1, [])).2 with
      | [] => .error (-4)
      | l :: L => .ok (Sum.inr (l :: L), s))) s else gs_b (gs_ref K) (fun v => gs_r (Sum.inl v)) s
theorem m_reference {b : Bool} {fr : Int32} (hd : 3 ≤ d) (B : gr_B t K) (H : gr_hs t K s) (hp : t.1 0 6 = nI (gs_pl s)) (hpn : gs_pl s ≤ gs_n K) (h8 : t.1 0 8 = 0) : gm_Ca E d 22 [.ref m, .int fr, .int (if b = true then 1 else 0)] (gr_H h m t) (fun r h' => r = .inl none ∧ match gr_rf K b s with
    | .ok q => q.2 = gs_p (gs_pl s + 4) s ∧ gs_pl s + 4 ≤ gs_n K ∧ ∃ w, h' = gr_H h m (gr_give (gr_ui t 0 6 (nI (gs_pl s + 4))) w) ∧ match q.1 with
      | .inl v => w = v ∧ (v = -2 ∨ ∃ (i : Nat) (q : Int32 × List gs_L), (gs_hs s)[i]? = some q ∧ q.1 = v ∧ ¬ v < 0)
      | .inr L => L ≠ [] ∧ ∃ (i : Nat) (q : Int32 × List gs_L), i < gs_size s ∧ (gs_hs s)[gs_f1 s + i]? = some q ∧ q.2 = L ∧ w = t.1 17 i
    | .error f => ∃ t', h' = gr_H h m t' ∧ gr_er t t' f) := by
  have hn7 := B.2.1
  obtain ⟨H1, H2, H3, H4⟩ := H
  obtain ⟨Q, hQ⟩ : ∃ Q : gm_R → gm_H → Prop, Q = (fun r h' => r = .inl none ∧ match gr_rf K b s with
    | .ok q => q.2 = gs_p (gs_pl s + 4) s ∧ gs_pl s + 4 ≤ gs_n K ∧ ∃ w, h' = gr_H h m (gr_give (gr_ui t 0 6 (nI (gs_pl s + 4))) w) ∧ match q.1 with
      | .inl v => w = v ∧ (v = -2 ∨ ∃ (i : Nat) (q : Int32 × List gs_L), (gs_hs s)[i]? = some q ∧ q.1 = v ∧ ¬ v < 0)
      | .inr L => L ≠ [] ∧ ∃ (i : Nat) (q : Int32 × List gs_L), i < gs_size s ∧ (gs_hs s)[gs_f1 s + i]? = some q ∧ q.2 = L ∧ w = t.1 17 i
    | .error f => ∃ t', h' = gr_H h m t' ∧ gr_er t t' f) := ⟨_, rfl⟩
  rw [← hQ]
  have bad : ∀ f t', gr_rf K b s = .error f → gr_er t t' f → Q (.inl none) (gr_H h m t') := fun f t' z y => by
    rw [hQ]; dsimp only; rw [z]; exact ⟨rfl, t', rfl, y⟩
  have good : ∀ (x : Int32 ⊕ List gs_L) (w : Int32), gr_rf K b s = .ok (x, gs_p (gs_pl s + 4) s) → gs_pl s + 4 ≤ gs_n K → (match x with
      | .inl v => w = v ∧ (v = -2 ∨ ∃ (i : Nat) (q : Int32 × List gs_L), (gs_hs s)[i]? = some q ∧ q.1 = v ∧ ¬ v < 0)
      | .inr L => L ≠ [] ∧ ∃ (i : Nat) (q : Int32 × List gs_L), i < gs_size s ∧ (gs_hs s)[gs_f1 s + i]? = some q ∧ q.2 = L ∧ w = t.1 17 i) → Q (.inl none) (gr_H h m (gr_give (gr_ui t 0 6 (nI (gs_pl s + 4))) w)) := fun x w z y u => by
    rw [hQ]; dsimp only; rw [z]; exact ⟨rfl, rfl, y, w, rfl, u⟩
  show gm_W E d 22 0 [.ref m, .int fr, .int (if b = true then 1 else 0), gm_u, gm_u] [] (gr_H h m t) Q
  simp only [r22_0, r22_0n, r22_1, r22_5, r22_6, r22_8, r22_9, r22_10, r22_10n, r22_11, r22_14, r22_17, r22_18, r22_18n, r22_19, r22_20, r22_20n, r22_21, r22_27, r22_30, r22_31, r22_34, r22_34n, r22_35, r22_38, r22_39, r22_40, r22_41, r22_44, r22_47, r22_47n, r22_48, r22_51, r22_52, r22_53, r22_54, r22_57, r22_58, r22_61, r22_62, r22_64, r22_66, r22_69, r22_69n, r22_70, r22_75, r22_78, r22_78n, r22_79, r22_79n, r22_80, r22_83, r22_84, r22_85, r22_86, r22_89, r22_91, r22_94, r22_94n, r22_95, r22_98, r22_99, r22_103, i32_10, reduceIte, gm_cmp1, gm_cmp3, gm_cmp4, gm_kd_sf, gm_ln_sf, gm_sf_1, gm_sf_2, gm_nw_1, gm_nw_2, gm_k_int, gm_k_ref, gm_k_null, gm_k_u, gm_k_long, and_true, true_and, true_or, or_true, or_false, false_or, and_self, or_self, if_true, if_false, List.map_nil, List.map_cons, List.sum_nil, List.sum_cons, Nat.zero_le, Option.toList_some, Option.toList_none, List.cons_append, List.nil_append, ne_eq, not_false_eq_true, not_true_eq_false, nI_1, nI_add, Value.category, Nat.reduceAdd, Nat.reduceMod, Nat.reduceLeDiff, Nat.reduceLT, Nat.reduceEqDiff, Nat.reducePow, Nat.le_refl, Nat.add_left_cancel_iff, Nat.add_eq_left, Nat.left_eq_add, Nat.add_zero]
  refine c22_2 (by simp) g_k0 (by omega) (m_number (k := 4) (by omega) B hp hpn h8 (by decide)) (fun v h' q => ?_) (fun x h' q => ?_)
  · by_cases hl : gs_pl s + 4 ≤ gs_n K
    · obtain ⟨q1, q2⟩ := q.1 hl
      cases q1
      subst q2
      obtain ⟨i, hi⟩ : ∃ i, i = (gs_num K (gs_pl s) 4).toInt32 - 8257536 := ⟨_, rfl⟩
      have e4 : gs_u4 K s = .ok ((gs_num K (gs_pl s) 4).toInt32, gs_p (gs_pl s + 4) s) := by
        unfold gs_u4 gs_b
        rw [gs_nxt_y hl]
        rfl
      have esz : gs_size (gs_p (gs_pl s + 4) s) = gs_size s := rfl
      have ef1 : gs_f1 (gs_p (gs_pl s + 4) s) = gs_f1 s := rfl
      have ehs : gs_hs (gs_p (gs_pl s + 4) s) = gs_hs s := rfl
      have een : gs_ent K s = if i < 0 then .error (-4) else if nI (gs_size s) ≤ i then .error (-4) else .ok (gs_f1 s + i.toNatClampNeg, gs_p (gs_pl s + 4) s) := by
        unfold gs_ent gs_b
        rw [e4]
        dsimp only
        rw [← hi, esz, ef1]
      have f8 : (gr_ui t 0 6 (nI (gs_pl s + 4))).1 0 8 = 0 := by rw [gr_ui_ni (by decide)]; exact h8
      have ef : gr_fl (gr_ui t 0 6 (nI (gs_pl s + 4))) (-4) = gr_ui (gr_ui t 0 6 (nI (gs_pl s + 4))) 0 8 (-4) := by unfold gr_fl; rw [if_pos f8]
      have er : gr_er t (gr_ui (gr_ui t 0 6 (nI (gs_pl s + 4))) 0 8 (-4)) (-4) := ⟨by decide, _, by omega, rfl⟩
      -- no such handle
      have no : gr_rf K b s = .error (-4) → gm_W E d 22 61 [.ref m, .int fr, .int (if b = true then 1 else 0), .int i, gm_u] [] (gr_H h m (gr_ui t 0 6 (nI (gs_pl s + 4)))) Q := by
        intro z
        simp only [r22_0, r22_0n, r22_1, r22_5, r22_6, r22_8, r22_9, r22_10, r22_10n, r22_11, r22_14, r22_17, r22_18, r22_18n, r22_19, r22_20, r22_20n, r22_21, r22_27, r22_30, r22_31, r22_34, r22_34n, r22_35, r22_38, r22_39, r22_40, r22_41, r22_44, r22_47, r22_47n, r22_48, r22_51, r22_52, r22_53, r22_54, r22_57, r22_58, r22_61, r22_62, r22_64, r22_66, r22_69, r22_69n, r22_70, r22_75, r22_78, r22_78n, r22_79, r22_79n, r22_80, r22_83, r22_84, r22_85, r22_86, r22_89, r22_91, r22_94, r22_94n, r22_95, r22_98, r22_99, r22_103, i32_10, reduceIte, gm_cmp1, gm_cmp3, gm_cmp4, gm_kd_sf, gm_ln_sf, gm_sf_1, gm_sf_2, gm_nw_1, gm_nw_2, gm_k_int, gm_k_ref, gm_k_null, gm_k_u, gm_k_long, and_true, true_and, true_or, or_true, or_false, false_or, and_self, or_self, if_true, if_false, List.map_nil, List.map_cons, List.sum_nil, List.sum_cons, Nat.zero_le, Option.toList_some, Option.toList_none, List.cons_append, List.nil_append, ne_eq, not_false_eq_true, not_true_eq_false, nI_1, nI_add, Value.category, Nat.reduceAdd, Nat.reduceMod, Nat.reduceLeDiff, Nat.reduceLT, Nat.reduceEqDiff, Nat.reducePow, Nat.le_refl, Nat.add_left_cancel_iff, Nat.add_eq_left, Nat.left_eq_add, Nat.add_zero]
        refine c22_72 (by simp) g_k0 (by omega) m_fail (gx_kn ?_) gx_kx
        rw [ef]
        have g := bad (-4) _ z er
        simp only [r22_0, r22_0n, r22_1, r22_5, r22_6, r22_8, r22_9, r22_10, r22_10n, r22_11, r22_14, r22_17, r22_18, r22_18n, r22_19, r22_20, r22_20n, r22_21, r22_27, r22_30, r22_31, r22_34, r22_34n, r22_35, r22_38, r22_39, r22_40, r22_41, r22_44, r22_47, r22_47n, r22_48, r22_51, r22_52, r22_53, r22_54, r22_57, r22_58, r22_61, r22_62, r22_64, r22_66, r22_69, r22_69n, r22_70, r22_75, r22_78, r22_78n, r22_79, r22_79n, r22_80, r22_83, r22_84, r22_85, r22_86, r22_89, r22_91, r22_94, r22_94n, r22_95, r22_98, r22_99, r22_103, i32_10, reduceIte, gm_cmp1, gm_cmp3, gm_cmp4, gm_kd_sf, gm_ln_sf, gm_sf_1, gm_sf_2, gm_nw_1, gm_nw_2, gm_k_int, gm_k_ref, gm_k_null, gm_k_u, gm_k_long, and_true, true_and, true_or, or_true, or_false, false_or, and_self, or_self, if_true, if_false, List.map_nil, List.map_cons, List.sum_nil, List.sum_cons, Nat.zero_le, Option.toList_some, Option.toList_none, List.cons_append, List.nil_append, ne_eq, not_false_eq_true, not_true_eq_false, nI_1, nI_add, Value.category, Nat.reduceAdd, Nat.reduceMod, Nat.reduceLeDiff, Nat.reduceLT, Nat.reduceEqDiff, Nat.reducePow, Nat.le_refl, Nat.add_left_cancel_iff, Nat.add_eq_left, Nat.left_eq_add, Nat.add_zero]
        exact g
      simp only [r22_0, r22_0n, r22_1, r22_5, r22_6, r22_8, r22_9, r22_10, r22_10n, r22_11, r22_14, r22_17, r22_18, r22_18n, r22_19, r22_20, r22_20n, r22_21, r22_27, r22_30, r22_31, r22_34, r22_34n, r22_35, r22_38, r22_39, r22_40, r22_41, r22_44, r22_47, r22_47n, r22_48, r22_51, r22_52, r22_53, r22_54, r22_57, r22_58, r22_62, r22_64, r22_66, r22_69, r22_69n, r22_70, r22_75, r22_78, r22_78n, r22_79, r22_79n, r22_80, r22_83, r22_84, r22_85, r22_86, r22_89, r22_91, r22_94, r22_94n, r22_95, r22_98, r22_99, r22_103, i32_10, reduceIte, gm_cmp1, gm_cmp3, gm_cmp4, gm_kd_sf, gm_ln_sf, gm_sf_1, gm_sf_2, gm_nw_1, gm_nw_2, gm_k_int, gm_k_ref, gm_k_null, gm_k_u, gm_k_long, and_true, true_and, true_or, or_true, or_false, false_or, and_self, or_self, if_true, if_false, List.map_nil, List.map_cons, List.sum_nil, List.sum_cons, Nat.zero_le, Option.toList_some, Option.toList_none, List.cons_append, List.nil_append, ne_eq, not_false_eq_true, not_true_eq_false, nI_1, nI_add, Value.category, Nat.reduceAdd, Nat.reduceMod, Nat.reduceLeDiff, Nat.reduceLT, Nat.reduceEqDiff, Nat.reducePow, Nat.le_refl, Nat.add_left_cancel_iff, Nat.add_eq_left, Nat.left_eq_add, Nat.add_zero, g_k0, g_k1, g_l1, g_p4, g_a1, g_w1, g_k2, g_l2, g_p10, g_a2, g_w2, g_k3, g_l3, g_p11, g_a3, g_w3, g_k4, g_l4, g_p12, g_a4, g_w4, g_k5, g_l5, g_p13, g_a5, g_w5, g_k6, g_l6, g_p14, g_a6, g_w6, g_k7, g_l7, g_p15, g_a7, g_w7, g_k8, g_l8, g_p16, g_a8, g_w8, g_k9, g_l9, g_p17, g_a9, g_w9, g_k10, g_l10, g_p18, g_a10, g_w10, g_k11, g_l11, g_p19, g_a11, g_w11, g_k12, g_l12, g_p20, g_a12, g_w12, g_k13, g_l13, g_p21, g_a13, g_w13, g_k14, g_l14, g_p22, g_a14, g_w14, g_k15, g_l15, g_p24, g_a15, g_w15, g_k16, g_l16, g_p26, g_a16, g_w16, g_k17, g_l17, g_p27, g_a17, g_w17, g_k18, g_l18, g_p29, g_a18, g_w18, g_k19, g_l19, g_p30, g_a19, g_w19, g_k20, g_l20, g_p31, g_a20, g_w20, g_k21, g_l21, g_p32, g_a21, g_w21, g_k22, g_l22, g_p33, g_a22, g_w22, g_k23, g_l23, g_p34, g_a23, g_w23, g_k24, g_l24, g_p35, g_a24, g_w24, g_k25, g_l25, g_p36, g_a25, g_w25, g_k26, g_l26, g_p37, g_a26, g_w26, g_k27, g_l27, g_p38, g_a27, g_w27, g_k28, g_l28, g_p40, g_a28, g_w28, g_k29, g_l29, g_p41, g_a29, g_w29, g_k30, g_l30, g_p42, g_a30, g_w30, g_k31, g_l31, g_p43, g_a31, g_w31, g_k32, g_l32, g_p44, g_a32, g_w32, g_k33, g_l33, g_p45, g_a33, g_w33, g_k34, g_l34, g_p46, g_a34, g_w34, g_f0, g_s0, g_f1, g_s1, g_f2, g_s2, g_f3, g_s3, g_f5, g_s5, g_f6, g_s6, g_f7, g_s7, g_f8, g_s8, g_f9, g_s9, g_f23, g_s23, g_f25, g_s25, g_f28, g_s28, g_f39, g_s39, g_f47, g_s47, gr_ui_eq, gr_ui_2, gr_ul_eq, gr_ul_1, gr_ui_no, gr_ui_ni, gr_ul_no, gr_ul_ni, h8, H1]
      rw [← hi]
      refine c22_24 (by simp) g_k0 (by omega) m_out (gx_kn ?_) gx_kx
      rw [gr_out (by omega)]
      by_cases hin : ¬ i < 0 ∧ i.toNatClampNeg < gs_size s
      · rw [if_pos hin]
        obtain ⟨i0, il⟩ := hin
        obtain ⟨x, hx, hxi⟩ := nI_of i0
        rw [hxi, nI_clamp hx] at il
        rw [if_neg i0, if_neg (by rw [hxi]; exact nI_ge il (by omega)), hxi, nI_clamp hx] at een
        rw [hxi] at no ⊢
        have x130 : x < 130 := by omega
        have hxl : gs_f1 s + x < (gs_hs s).length := by unfold gs_size at il; omega
        obtain ⟨q, hq⟩ : ∃ q, (gs_hs s)[gs_f1 s + x]? = some q := ⟨_, List.getElem?_eq_getElem hxl⟩
        have egd : (gs_hs s).getD (gs_f1 s + x) (-1, []) = q := by rw [List.getD_eq_getElem?_getD, hq]; rfl
        have en := H4 x q il hq
        have d0 : ¬ (0 : Int32) = 1 := by decide
        have d2 : ¬ (2 : Int32) = 1 := by decide
        have d3 : ¬ (3 : Int32) = 1 := by decide
        have d23 : ¬ (2 : Int32) = 3 := by decide
        have l0 : (0 : Int32) ≤ 1 := by decide
        have l1 : (1 : Int32) ≤ 1 := by decide
        have l2 : ¬ (2 : Int32) ≤ 1 := by decide
        have l3 : ¬ (3 : Int32) ≤ 1 := by decide
        have n1 : ¬ (1 : Int32) = 0 := by decide
        have d13 : ¬ (1 : Int32) = 3 := by decide
        cases b with
        | true =>
          have eb : gr_rf K true s = (match q.2 with
              | [] => .error (-4)
              | l :: L => .ok (Sum.inr (l :: L), gs_p (gs_pl s + 4) s)) := by
            unfold gr_rf gs_b
            rw [if_pos rfl, een]
            dsimp only
            rw [ehs, egd]
          rcases en with ⟨k, y⟩ | ⟨k, y1, y2, y3⟩ | ⟨k, y1, y2, y3⟩ | ⟨k, y⟩
          · have g := no (by rw [eb, y])
            simp only [r22_0, r22_0n, r22_1, r22_5, r22_6, r22_8, r22_9, r22_10, r22_10n, r22_11, r22_14, r22_17, r22_18, r22_18n, r22_19, r22_20, r22_20n, r22_21, r22_27, r22_30, r22_31, r22_34, r22_34n, r22_35, r22_38, r22_39, r22_40, r22_41, r22_44, r22_47, r22_47n, r22_48, r22_51, r22_52, r22_53, r22_54, r22_57, r22_58, r22_62, r22_64, r22_66, r22_69, r22_69n, r22_70, r22_75, r22_78, r22_78n, r22_79, r22_79n, r22_80, r22_83, r22_84, r22_85, r22_86, r22_89, r22_91, r22_94, r22_94n, r22_95, r22_98, r22_99, r22_103, i32_10, reduceIte, gm_cmp1, gm_cmp3, gm_cmp4, gm_kd_sf, gm_ln_sf, gm_sf_1, gm_sf_2, gm_nw_1, gm_nw_2, gm_k_int, gm_k_ref, gm_k_null, gm_k_u, gm_k_long, and_true, true_and, true_or, or_true, or_false, false_or, and_self, or_self, if_true, if_false, List.map_nil, List.map_cons, List.sum_nil, List.sum_cons, Nat.zero_le, Option.toList_some, Option.toList_none, List.cons_append, List.nil_append, ne_eq, not_false_eq_true, not_true_eq_false, nI_1, nI_add, Value.category, Nat.reduceAdd, Nat.reduceMod, Nat.reduceLeDiff, Nat.reduceLT, Nat.reduceEqDiff, Nat.reducePow, Nat.le_refl, Nat.add_left_cancel_iff, Nat.add_eq_left, Nat.left_eq_add, Nat.add_zero, g_k0, g_k1, g_l1, g_p4, g_a1, g_w1, g_k2, g_l2, g_p10, g_a2, g_w2, g_k3, g_l3, g_p11, g_a3, g_w3, g_k4, g_l4, g_p12, g_a4, g_w4, g_k5, g_l5, g_p13, g_a5, g_w5, g_k6, g_l6, g_p14, g_a6, g_w6, g_k7, g_l7, g_p15, g_a7, g_w7, g_k8, g_l8, g_p16, g_a8, g_w8, g_k9, g_l9, g_p17, g_a9, g_w9, g_k10, g_l10, g_p18, g_a10, g_w10, g_k11, g_l11, g_p19, g_a11, g_w11, g_k12, g_l12, g_p20, g_a12, g_w12, g_k13, g_l13, g_p21, g_a13, g_w13, g_k14, g_l14, g_p22, g_a14, g_w14, g_k15, g_l15, g_p24, g_a15, g_w15, g_k16, g_l16, g_p26, g_a16, g_w16, g_k17, g_l17, g_p27, g_a17, g_w17, g_k18, g_l18, g_p29, g_a18, g_w18, g_k19, g_l19, g_p30, g_a19, g_w19, g_k20, g_l20, g_p31, g_a20, g_w20, g_k21, g_l21, g_p32, g_a21, g_w21, g_k22, g_l22, g_p33, g_a22, g_w22, g_k23, g_l23, g_p34, g_a23, g_w23, g_k24, g_l24, g_p35, g_a24, g_w24, g_k25, g_l25, g_p36, g_a25, g_w25, g_k26, g_l26, g_p37, g_a26, g_w26, g_k27, g_l27, g_p38, g_a27, g_w27, g_k28, g_l28, g_p40, g_a28, g_w28, g_k29, g_l29, g_p41, g_a29, g_w29, g_k30, g_l30, g_p42, g_a30, g_w30, g_k31, g_l31, g_p43, g_a31, g_w31, g_k32, g_l32, g_p44, g_a32, g_w32, g_k33, g_l33, g_p45, g_a33, g_w33, g_k34, g_l34, g_p46, g_a34, g_w34, g_f0, g_s0, g_f1, g_s1, g_f2, g_s2, g_f3, g_s3, g_f5, g_s5, g_f6, g_s6, g_f7, g_s7, g_f8, g_s8, g_f9, g_s9, g_f23, g_s23, g_f25, g_s25, g_f28, g_s28, g_f39, g_s39, g_f47, g_s47, gr_ui_eq, gr_ui_2, gr_ul_eq, gr_ul_1, gr_ui_no, gr_ui_ni, gr_ul_no, gr_ul_ni, if_pos, n1, x130, k, d0] at g ⊢
            exact g
          · have eq : gr_rf K true s = .ok (Sum.inr q.2, gs_p (gs_pl s + 4) s) := by
              rw [eb]
              cases e2 : q.2 with
              | nil => exact absurd e2 y2
              | cons l L => rfl
            have g := good _ (t.1 17 x) eq hl ⟨y2, x, q, il, hq, rfl, rfl⟩
            simp only [r22_0, r22_0n, r22_1, r22_5, r22_6, r22_8, r22_9, r22_10, r22_10n, r22_11, r22_14, r22_17, r22_18, r22_18n, r22_19, r22_20, r22_20n, r22_21, r22_27, r22_30, r22_31, r22_34, r22_34n, r22_35, r22_38, r22_39, r22_40, r22_41, r22_44, r22_47, r22_47n, r22_48, r22_51, r22_52, r22_53, r22_54, r22_57, r22_58, r22_62, r22_64, r22_66, r22_69, r22_69n, r22_70, r22_75, r22_78, r22_78n, r22_79, r22_79n, r22_80, r22_83, r22_84, r22_85, r22_86, r22_89, r22_91, r22_94, r22_94n, r22_95, r22_98, r22_99, r22_103, i32_10, reduceIte, gm_cmp1, gm_cmp3, gm_cmp4, gm_kd_sf, gm_ln_sf, gm_sf_1, gm_sf_2, gm_nw_1, gm_nw_2, gm_k_int, gm_k_ref, gm_k_null, gm_k_u, gm_k_long, and_true, true_and, true_or, or_true, or_false, false_or, and_self, or_self, if_true, if_false, List.map_nil, List.map_cons, List.sum_nil, List.sum_cons, Nat.zero_le, Option.toList_some, Option.toList_none, List.cons_append, List.nil_append, ne_eq, not_false_eq_true, not_true_eq_false, nI_1, nI_add, Value.category, Nat.reduceAdd, Nat.reduceMod, Nat.reduceLeDiff, Nat.reduceLT, Nat.reduceEqDiff, Nat.reducePow, Nat.le_refl, Nat.add_left_cancel_iff, Nat.add_eq_left, Nat.left_eq_add, Nat.add_zero, g_k0, g_k1, g_l1, g_p4, g_a1, g_w1, g_k2, g_l2, g_p10, g_a2, g_w2, g_k3, g_l3, g_p11, g_a3, g_w3, g_k4, g_l4, g_p12, g_a4, g_w4, g_k5, g_l5, g_p13, g_a5, g_w5, g_k6, g_l6, g_p14, g_a6, g_w6, g_k7, g_l7, g_p15, g_a7, g_w7, g_k8, g_l8, g_p16, g_a8, g_w8, g_k9, g_l9, g_p17, g_a9, g_w9, g_k10, g_l10, g_p18, g_a10, g_w10, g_k11, g_l11, g_p19, g_a11, g_w11, g_k12, g_l12, g_p20, g_a12, g_w12, g_k13, g_l13, g_p21, g_a13, g_w13, g_k14, g_l14, g_p22, g_a14, g_w14, g_k15, g_l15, g_p24, g_a15, g_w15, g_k16, g_l16, g_p26, g_a16, g_w16, g_k17, g_l17, g_p27, g_a17, g_w17, g_k18, g_l18, g_p29, g_a18, g_w18, g_k19, g_l19, g_p30, g_a19, g_w19, g_k20, g_l20, g_p31, g_a20, g_w20, g_k21, g_l21, g_p32, g_a21, g_w21, g_k22, g_l22, g_p33, g_a22, g_w22, g_k23, g_l23, g_p34, g_a23, g_w23, g_k24, g_l24, g_p35, g_a24, g_w24, g_k25, g_l25, g_p36, g_a25, g_w25, g_k26, g_l26, g_p37, g_a26, g_w26, g_k27, g_l27, g_p38, g_a27, g_w27, g_k28, g_l28, g_p40, g_a28, g_w28, g_k29, g_l29, g_p41, g_a29, g_w29, g_k30, g_l30, g_p42, g_a30, g_w30, g_k31, g_l31, g_p43, g_a31, g_w31, g_k32, g_l32, g_p44, g_a32, g_w32, g_k33, g_l33, g_p45, g_a33, g_w33, g_k34, g_l34, g_p46, g_a34, g_w34, g_f0, g_s0, g_f1, g_s1, g_f2, g_s2, g_f3, g_s3, g_f5, g_s5, g_f6, g_s6, g_f7, g_s7, g_f8, g_s8, g_f9, g_s9, g_f23, g_s23, g_f25, g_s25, g_f28, g_s28, g_f39, g_s39, g_f47, g_s47, gr_ui_eq, gr_ui_2, gr_ul_eq, gr_ul_1, gr_ui_no, gr_ui_ni, gr_ul_no, gr_ul_ni, if_pos, n1, x130, k, d13]
            refine c22_100 (by simp) g_k0 (by omega) m_give (gx_kn ?_) gx_kx
            simp only [r22_0, r22_0n, r22_1, r22_5, r22_6, r22_8, r22_9, r22_10, r22_10n, r22_11, r22_14, r22_17, r22_18, r22_18n, r22_19, r22_20, r22_20n, r22_21, r22_27, r22_30, r22_31, r22_34, r22_34n, r22_35, r22_38, r22_39, r22_40, r22_41, r22_44, r22_47, r22_47n, r22_48, r22_51, r22_52, r22_53, r22_54, r22_57, r22_58, r22_62, r22_64, r22_66, r22_69, r22_69n, r22_70, r22_75, r22_78, r22_78n, r22_79, r22_79n, r22_80, r22_83, r22_84, r22_85, r22_86, r22_89, r22_91, r22_94, r22_94n, r22_95, r22_98, r22_99, r22_103, i32_10, reduceIte, gm_cmp1, gm_cmp3, gm_cmp4, gm_kd_sf, gm_ln_sf, gm_sf_1, gm_sf_2, gm_nw_1, gm_nw_2, gm_k_int, gm_k_ref, gm_k_null, gm_k_u, gm_k_long, and_true, true_and, true_or, or_true, or_false, false_or, and_self, or_self, if_true, if_false, List.map_nil, List.map_cons, List.sum_nil, List.sum_cons, Nat.zero_le, Option.toList_some, Option.toList_none, List.cons_append, List.nil_append, ne_eq, not_false_eq_true, not_true_eq_false, nI_1, nI_add, Value.category, Nat.reduceAdd, Nat.reduceMod, Nat.reduceLeDiff, Nat.reduceLT, Nat.reduceEqDiff, Nat.reducePow, Nat.le_refl, Nat.add_left_cancel_iff, Nat.add_eq_left, Nat.left_eq_add, Nat.add_zero]
            exact g
          · have g := no (by rw [eb, y1])
            simp only [r22_0, r22_0n, r22_1, r22_5, r22_6, r22_8, r22_9, r22_10, r22_10n, r22_11, r22_14, r22_17, r22_18, r22_18n, r22_19, r22_20, r22_20n, r22_21, r22_27, r22_30, r22_31, r22_34, r22_34n, r22_35, r22_38, r22_39, r22_40, r22_41, r22_44, r22_47, r22_47n, r22_48, r22_51, r22_52, r22_53, r22_54, r22_57, r22_58, r22_62, r22_64, r22_66, r22_69, r22_69n, r22_70, r22_75, r22_78, r22_78n, r22_79, r22_79n, r22_80, r22_83, r22_84, r22_85, r22_86, r22_89, r22_91, r22_94, r22_94n, r22_95, r22_98, r22_99, r22_103, i32_10, reduceIte, gm_cmp1, gm_cmp3, gm_cmp4, gm_kd_sf, gm_ln_sf, gm_sf_1, gm_sf_2, gm_nw_1, gm_nw_2, gm_k_int, gm_k_ref, gm_k_null, gm_k_u, gm_k_long, and_true, true_and, true_or, or_true, or_false, false_or, and_self, or_self, if_true, if_false, List.map_nil, List.map_cons, List.sum_nil, List.sum_cons, Nat.zero_le, Option.toList_some, Option.toList_none, List.cons_append, List.nil_append, ne_eq, not_false_eq_true, not_true_eq_false, nI_1, nI_add, Value.category, Nat.reduceAdd, Nat.reduceMod, Nat.reduceLeDiff, Nat.reduceLT, Nat.reduceEqDiff, Nat.reducePow, Nat.le_refl, Nat.add_left_cancel_iff, Nat.add_eq_left, Nat.left_eq_add, Nat.add_zero, g_k0, g_k1, g_l1, g_p4, g_a1, g_w1, g_k2, g_l2, g_p10, g_a2, g_w2, g_k3, g_l3, g_p11, g_a3, g_w3, g_k4, g_l4, g_p12, g_a4, g_w4, g_k5, g_l5, g_p13, g_a5, g_w5, g_k6, g_l6, g_p14, g_a6, g_w6, g_k7, g_l7, g_p15, g_a7, g_w7, g_k8, g_l8, g_p16, g_a8, g_w8, g_k9, g_l9, g_p17, g_a9, g_w9, g_k10, g_l10, g_p18, g_a10, g_w10, g_k11, g_l11, g_p19, g_a11, g_w11, g_k12, g_l12, g_p20, g_a12, g_w12, g_k13, g_l13, g_p21, g_a13, g_w13, g_k14, g_l14, g_p22, g_a14, g_w14, g_k15, g_l15, g_p24, g_a15, g_w15, g_k16, g_l16, g_p26, g_a16, g_w16, g_k17, g_l17, g_p27, g_a17, g_w17, g_k18, g_l18, g_p29, g_a18, g_w18, g_k19, g_l19, g_p30, g_a19, g_w19, g_k20, g_l20, g_p31, g_a20, g_w20, g_k21, g_l21, g_p32, g_a21, g_w21, g_k22, g_l22, g_p33, g_a22, g_w22, g_k23, g_l23, g_p34, g_a23, g_w23, g_k24, g_l24, g_p35, g_a24, g_w24, g_k25, g_l25, g_p36, g_a25, g_w25, g_k26, g_l26, g_p37, g_a26, g_w26, g_k27, g_l27, g_p38, g_a27, g_w27, g_k28, g_l28, g_p40, g_a28, g_w28, g_k29, g_l29, g_p41, g_a29, g_w29, g_k30, g_l30, g_p42, g_a30, g_w30, g_k31, g_l31, g_p43, g_a31, g_w31, g_k32, g_l32, g_p44, g_a32, g_w32, g_k33, g_l33, g_p45, g_a33, g_w33, g_k34, g_l34, g_p46, g_a34, g_w34, g_f0, g_s0, g_f1, g_s1, g_f2, g_s2, g_f3, g_s3, g_f5, g_s5, g_f6, g_s6, g_f7, g_s7, g_f8, g_s8, g_f9, g_s9, g_f23, g_s23, g_f25, g_s25, g_f28, g_s28, g_f39, g_s39, g_f47, g_s47, gr_ui_eq, gr_ui_2, gr_ul_eq, gr_ul_1, gr_ui_no, gr_ui_ni, gr_ul_no, gr_ul_ni, if_pos, n1, x130, k, d2] at g ⊢
            exact g
          · have g := no (by rw [eb, y])
            simp only [r22_0, r22_0n, r22_1, r22_5, r22_6, r22_8, r22_9, r22_10, r22_10n, r22_11, r22_14, r22_17, r22_18, r22_18n, r22_19, r22_20, r22_20n, r22_21, r22_27, r22_30, r22_31, r22_34, r22_34n, r22_35, r22_38, r22_39, r22_40, r22_41, r22_44, r22_47, r22_47n, r22_48, r22_51, r22_52, r22_53, r22_54, r22_57, r22_58, r22_62, r22_64, r22_66, r22_69, r22_69n, r22_70, r22_75, r22_78, r22_78n, r22_79, r22_79n, r22_80, r22_83, r22_84, r22_85, r22_86, r22_89, r22_91, r22_94, r22_94n, r22_95, r22_98, r22_99, r22_103, i32_10, reduceIte, gm_cmp1, gm_cmp3, gm_cmp4, gm_kd_sf, gm_ln_sf, gm_sf_1, gm_sf_2, gm_nw_1, gm_nw_2, gm_k_int, gm_k_ref, gm_k_null, gm_k_u, gm_k_long, and_true, true_and, true_or, or_true, or_false, false_or, and_self, or_self, if_true, if_false, List.map_nil, List.map_cons, List.sum_nil, List.sum_cons, Nat.zero_le, Option.toList_some, Option.toList_none, List.cons_append, List.nil_append, ne_eq, not_false_eq_true, not_true_eq_false, nI_1, nI_add, Value.category, Nat.reduceAdd, Nat.reduceMod, Nat.reduceLeDiff, Nat.reduceLT, Nat.reduceEqDiff, Nat.reducePow, Nat.le_refl, Nat.add_left_cancel_iff, Nat.add_eq_left, Nat.left_eq_add, Nat.add_zero, g_k0, g_k1, g_l1, g_p4, g_a1, g_w1, g_k2, g_l2, g_p10, g_a2, g_w2, g_k3, g_l3, g_p11, g_a3, g_w3, g_k4, g_l4, g_p12, g_a4, g_w4, g_k5, g_l5, g_p13, g_a5, g_w5, g_k6, g_l6, g_p14, g_a6, g_w6, g_k7, g_l7, g_p15, g_a7, g_w7, g_k8, g_l8, g_p16, g_a8, g_w8, g_k9, g_l9, g_p17, g_a9, g_w9, g_k10, g_l10, g_p18, g_a10, g_w10, g_k11, g_l11, g_p19, g_a11, g_w11, g_k12, g_l12, g_p20, g_a12, g_w12, g_k13, g_l13, g_p21, g_a13, g_w13, g_k14, g_l14, g_p22, g_a14, g_w14, g_k15, g_l15, g_p24, g_a15, g_w15, g_k16, g_l16, g_p26, g_a16, g_w16, g_k17, g_l17, g_p27, g_a17, g_w17, g_k18, g_l18, g_p29, g_a18, g_w18, g_k19, g_l19, g_p30, g_a19, g_w19, g_k20, g_l20, g_p31, g_a20, g_w20, g_k21, g_l21, g_p32, g_a21, g_w21, g_k22, g_l22, g_p33, g_a22, g_w22, g_k23, g_l23, g_p34, g_a23, g_w23, g_k24, g_l24, g_p35, g_a24, g_w24, g_k25, g_l25, g_p36, g_a25, g_w25, g_k26, g_l26, g_p37, g_a26, g_w26, g_k27, g_l27, g_p38, g_a27, g_w27, g_k28, g_l28, g_p40, g_a28, g_w28, g_k29, g_l29, g_p41, g_a29, g_w29, g_k30, g_l30, g_p42, g_a30, g_w30, g_k31, g_l31, g_p43, g_a31, g_w31, g_k32, g_l32, g_p44, g_a32, g_w32, g_k33, g_l33, g_p45, g_a33, g_w33, g_k34, g_l34, g_p46, g_a34, g_w34, g_f0, g_s0, g_f1, g_s1, g_f2, g_s2, g_f3, g_s3, g_f5, g_s5, g_f6, g_s6, g_f7, g_s7, g_f8, g_s8, g_f9, g_s9, g_f23, g_s23, g_f25, g_s25, g_f28, g_s28, g_f39, g_s39, g_f47, g_s47, gr_ui_eq, gr_ui_2, gr_ul_eq, gr_ul_1, gr_ui_no, gr_ui_ni, gr_ul_no, gr_ul_ni, if_pos, n1, x130, k, d3] at g ⊢
            exact g
        | false =>
          have eb : gr_rf K false s = if q.1 = -1 then .error (-4) else .ok (Sum.inl q.1, gs_p (gs_pl s + 4) s) := by
            unfold gr_rf gs_ref gs_b
            rw [if_neg (by decide), een]
            dsimp only
            rw [ehs, egd]
            by_cases z : q.1 = -1
            · rw [if_pos z, if_pos z]
            · rw [if_neg z, if_neg z]; rfl
          have f0 : ¬ (false = true) := by decide
          rcases en with ⟨k, y⟩ | ⟨k, y1, y2, y3⟩ | ⟨k, y1, y2, y3⟩ | ⟨k, y⟩
          · have g := no (by rw [eb, y]; rfl)
            simp only [r22_0, r22_0n, r22_1, r22_5, r22_6, r22_8, r22_9, r22_10, r22_10n, r22_11, r22_14, r22_17, r22_18, r22_18n, r22_19, r22_20, r22_20n, r22_21, r22_27, r22_30, r22_31, r22_34, r22_34n, r22_35, r22_38, r22_39, r22_40, r22_41, r22_44, r22_47, r22_47n, r22_48, r22_51, r22_52, r22_53, r22_54, r22_57, r22_58, r22_62, r22_64, r22_66, r22_69, r22_69n, r22_70, r22_75, r22_78, r22_78n, r22_79, r22_79n, r22_80, r22_83, r22_84, r22_85, r22_86, r22_89, r22_91, r22_94, r22_94n, r22_95, r22_98, r22_99, r22_103, i32_10, reduceIte, gm_cmp1, gm_cmp3, gm_cmp4, gm_kd_sf, gm_ln_sf, gm_sf_1, gm_sf_2, gm_nw_1, gm_nw_2, gm_k_int, gm_k_ref, gm_k_null, gm_k_u, gm_k_long, and_true, true_and, true_or, or_true, or_false, false_or, and_self, or_self, if_true, if_false, List.map_nil, List.map_cons, List.sum_nil, List.sum_cons, Nat.zero_le, Option.toList_some, Option.toList_none, List.cons_append, List.nil_append, ne_eq, not_false_eq_true, not_true_eq_false, nI_1, nI_add, Value.category, Nat.reduceAdd, Nat.reduceMod, Nat.reduceLeDiff, Nat.reduceLT, Nat.reduceEqDiff, Nat.reducePow, Nat.le_refl, Nat.add_left_cancel_iff, Nat.add_eq_left, Nat.left_eq_add, Nat.add_zero, g_k0, g_k1, g_l1, g_p4, g_a1, g_w1, g_k2, g_l2, g_p10, g_a2, g_w2, g_k3, g_l3, g_p11, g_a3, g_w3, g_k4, g_l4, g_p12, g_a4, g_w4, g_k5, g_l5, g_p13, g_a5, g_w5, g_k6, g_l6, g_p14, g_a6, g_w6, g_k7, g_l7, g_p15, g_a7, g_w7, g_k8, g_l8, g_p16, g_a8, g_w8, g_k9, g_l9, g_p17, g_a9, g_w9, g_k10, g_l10, g_p18, g_a10, g_w10, g_k11, g_l11, g_p19, g_a11, g_w11, g_k12, g_l12, g_p20, g_a12, g_w12, g_k13, g_l13, g_p21, g_a13, g_w13, g_k14, g_l14, g_p22, g_a14, g_w14, g_k15, g_l15, g_p24, g_a15, g_w15, g_k16, g_l16, g_p26, g_a16, g_w16, g_k17, g_l17, g_p27, g_a17, g_w17, g_k18, g_l18, g_p29, g_a18, g_w18, g_k19, g_l19, g_p30, g_a19, g_w19, g_k20, g_l20, g_p31, g_a20, g_w20, g_k21, g_l21, g_p32, g_a21, g_w21, g_k22, g_l22, g_p33, g_a22, g_w22, g_k23, g_l23, g_p34, g_a23, g_w23, g_k24, g_l24, g_p35, g_a24, g_w24, g_k25, g_l25, g_p36, g_a25, g_w25, g_k26, g_l26, g_p37, g_a26, g_w26, g_k27, g_l27, g_p38, g_a27, g_w27, g_k28, g_l28, g_p40, g_a28, g_w28, g_k29, g_l29, g_p41, g_a29, g_w29, g_k30, g_l30, g_p42, g_a30, g_w30, g_k31, g_l31, g_p43, g_a31, g_w31, g_k32, g_l32, g_p44, g_a32, g_w32, g_k33, g_l33, g_p45, g_a33, g_w33, g_k34, g_l34, g_p46, g_a34, g_w34, g_f0, g_s0, g_f1, g_s1, g_f2, g_s2, g_f3, g_s3, g_f5, g_s5, g_f6, g_s6, g_f7, g_s7, g_f8, g_s8, g_f9, g_s9, g_f23, g_s23, g_f25, g_s25, g_f28, g_s28, g_f39, g_s39, g_f47, g_s47, gr_ui_eq, gr_ui_2, gr_ul_eq, gr_ul_1, gr_ui_no, gr_ui_ni, gr_ul_no, gr_ul_ni, if_neg f0, x130, k, l0] at g ⊢
            exact g
          · have g := no (by rw [eb, if_pos y1])
            simp only [r22_0, r22_0n, r22_1, r22_5, r22_6, r22_8, r22_9, r22_10, r22_10n, r22_11, r22_14, r22_17, r22_18, r22_18n, r22_19, r22_20, r22_20n, r22_21, r22_27, r22_30, r22_31, r22_34, r22_34n, r22_35, r22_38, r22_39, r22_40, r22_41, r22_44, r22_47, r22_47n, r22_48, r22_51, r22_52, r22_53, r22_54, r22_57, r22_58, r22_62, r22_64, r22_66, r22_69, r22_69n, r22_70, r22_75, r22_78, r22_78n, r22_79, r22_79n, r22_80, r22_83, r22_84, r22_85, r22_86, r22_89, r22_91, r22_94, r22_94n, r22_95, r22_98, r22_99, r22_103, i32_10, reduceIte, gm_cmp1, gm_cmp3, gm_cmp4, gm_kd_sf, gm_ln_sf, gm_sf_1, gm_sf_2, gm_nw_1, gm_nw_2, gm_k_int, gm_k_ref, gm_k_null, gm_k_u, gm_k_long, and_true, true_and, true_or, or_true, or_false, false_or, and_self, or_self, if_true, if_false, List.map_nil, List.map_cons, List.sum_nil, List.sum_cons, Nat.zero_le, Option.toList_some, Option.toList_none, List.cons_append, List.nil_append, ne_eq, not_false_eq_true, not_true_eq_false, nI_1, nI_add, Value.category, Nat.reduceAdd, Nat.reduceMod, Nat.reduceLeDiff, Nat.reduceLT, Nat.reduceEqDiff, Nat.reducePow, Nat.le_refl, Nat.add_left_cancel_iff, Nat.add_eq_left, Nat.left_eq_add, Nat.add_zero, g_k0, g_k1, g_l1, g_p4, g_a1, g_w1, g_k2, g_l2, g_p10, g_a2, g_w2, g_k3, g_l3, g_p11, g_a3, g_w3, g_k4, g_l4, g_p12, g_a4, g_w4, g_k5, g_l5, g_p13, g_a5, g_w5, g_k6, g_l6, g_p14, g_a6, g_w6, g_k7, g_l7, g_p15, g_a7, g_w7, g_k8, g_l8, g_p16, g_a8, g_w8, g_k9, g_l9, g_p17, g_a9, g_w9, g_k10, g_l10, g_p18, g_a10, g_w10, g_k11, g_l11, g_p19, g_a11, g_w11, g_k12, g_l12, g_p20, g_a12, g_w12, g_k13, g_l13, g_p21, g_a13, g_w13, g_k14, g_l14, g_p22, g_a14, g_w14, g_k15, g_l15, g_p24, g_a15, g_w15, g_k16, g_l16, g_p26, g_a16, g_w16, g_k17, g_l17, g_p27, g_a17, g_w17, g_k18, g_l18, g_p29, g_a18, g_w18, g_k19, g_l19, g_p30, g_a19, g_w19, g_k20, g_l20, g_p31, g_a20, g_w20, g_k21, g_l21, g_p32, g_a21, g_w21, g_k22, g_l22, g_p33, g_a22, g_w22, g_k23, g_l23, g_p34, g_a23, g_w23, g_k24, g_l24, g_p35, g_a24, g_w24, g_k25, g_l25, g_p36, g_a25, g_w25, g_k26, g_l26, g_p37, g_a26, g_w26, g_k27, g_l27, g_p38, g_a27, g_w27, g_k28, g_l28, g_p40, g_a28, g_w28, g_k29, g_l29, g_p41, g_a29, g_w29, g_k30, g_l30, g_p42, g_a30, g_w30, g_k31, g_l31, g_p43, g_a31, g_w31, g_k32, g_l32, g_p44, g_a32, g_w32, g_k33, g_l33, g_p45, g_a33, g_w33, g_k34, g_l34, g_p46, g_a34, g_w34, g_f0, g_s0, g_f1, g_s1, g_f2, g_s2, g_f3, g_s3, g_f5, g_s5, g_f6, g_s6, g_f7, g_s7, g_f8, g_s8, g_f9, g_s9, g_f23, g_s23, g_f25, g_s25, g_f28, g_s28, g_f39, g_s39, g_f47, g_s47, gr_ui_eq, gr_ui_2, gr_ul_eq, gr_ul_1, gr_ui_no, gr_ui_ni, gr_ul_no, gr_ul_ni, if_neg f0, x130, k, l1] at g ⊢
            exact g
          · have eq : gr_rf K false s = .ok (Sum.inl q.1, gs_p (gs_pl s + 4) s) := by
              rw [eb, if_neg (fun z => y2 (by rw [z]; decide))]
            have g := good _ (t.1 17 x) eq hl ⟨y3, Or.inr ⟨_, q, hq, rfl, y2⟩⟩
            simp only [r22_0, r22_0n, r22_1, r22_5, r22_6, r22_8, r22_9, r22_10, r22_10n, r22_11, r22_14, r22_17, r22_18, r22_18n, r22_19, r22_20, r22_20n, r22_21, r22_27, r22_30, r22_31, r22_34, r22_34n, r22_35, r22_38, r22_39, r22_40, r22_41, r22_44, r22_47, r22_47n, r22_48, r22_51, r22_52, r22_53, r22_54, r22_57, r22_58, r22_62, r22_64, r22_66, r22_69, r22_69n, r22_70, r22_75, r22_78, r22_78n, r22_79, r22_79n, r22_80, r22_83, r22_84, r22_85, r22_86, r22_89, r22_91, r22_94, r22_94n, r22_95, r22_98, r22_99, r22_103, i32_10, reduceIte, gm_cmp1, gm_cmp3, gm_cmp4, gm_kd_sf, gm_ln_sf, gm_sf_1, gm_sf_2, gm_nw_1, gm_nw_2, gm_k_int, gm_k_ref, gm_k_null, gm_k_u, gm_k_long, and_true, true_and, true_or, or_true, or_false, false_or, and_self, or_self, if_true, if_false, List.map_nil, List.map_cons, List.sum_nil, List.sum_cons, Nat.zero_le, Option.toList_some, Option.toList_none, List.cons_append, List.nil_append, ne_eq, not_false_eq_true, not_true_eq_false, nI_1, nI_add, Value.category, Nat.reduceAdd, Nat.reduceMod, Nat.reduceLeDiff, Nat.reduceLT, Nat.reduceEqDiff, Nat.reducePow, Nat.le_refl, Nat.add_left_cancel_iff, Nat.add_eq_left, Nat.left_eq_add, Nat.add_zero, g_k0, g_k1, g_l1, g_p4, g_a1, g_w1, g_k2, g_l2, g_p10, g_a2, g_w2, g_k3, g_l3, g_p11, g_a3, g_w3, g_k4, g_l4, g_p12, g_a4, g_w4, g_k5, g_l5, g_p13, g_a5, g_w5, g_k6, g_l6, g_p14, g_a6, g_w6, g_k7, g_l7, g_p15, g_a7, g_w7, g_k8, g_l8, g_p16, g_a8, g_w8, g_k9, g_l9, g_p17, g_a9, g_w9, g_k10, g_l10, g_p18, g_a10, g_w10, g_k11, g_l11, g_p19, g_a11, g_w11, g_k12, g_l12, g_p20, g_a12, g_w12, g_k13, g_l13, g_p21, g_a13, g_w13, g_k14, g_l14, g_p22, g_a14, g_w14, g_k15, g_l15, g_p24, g_a15, g_w15, g_k16, g_l16, g_p26, g_a16, g_w16, g_k17, g_l17, g_p27, g_a17, g_w17, g_k18, g_l18, g_p29, g_a18, g_w18, g_k19, g_l19, g_p30, g_a19, g_w19, g_k20, g_l20, g_p31, g_a20, g_w20, g_k21, g_l21, g_p32, g_a21, g_w21, g_k22, g_l22, g_p33, g_a22, g_w22, g_k23, g_l23, g_p34, g_a23, g_w23, g_k24, g_l24, g_p35, g_a24, g_w24, g_k25, g_l25, g_p36, g_a25, g_w25, g_k26, g_l26, g_p37, g_a26, g_w26, g_k27, g_l27, g_p38, g_a27, g_w27, g_k28, g_l28, g_p40, g_a28, g_w28, g_k29, g_l29, g_p41, g_a29, g_w29, g_k30, g_l30, g_p42, g_a30, g_w30, g_k31, g_l31, g_p43, g_a31, g_w31, g_k32, g_l32, g_p44, g_a32, g_w32, g_k33, g_l33, g_p45, g_a33, g_w33, g_k34, g_l34, g_p46, g_a34, g_w34, g_f0, g_s0, g_f1, g_s1, g_f2, g_s2, g_f3, g_s3, g_f5, g_s5, g_f6, g_s6, g_f7, g_s7, g_f8, g_s8, g_f9, g_s9, g_f23, g_s23, g_f25, g_s25, g_f28, g_s28, g_f39, g_s39, g_f47, g_s47, gr_ui_eq, gr_ui_2, gr_ul_eq, gr_ul_1, gr_ui_no, gr_ui_ni, gr_ul_no, gr_ul_ni, if_neg f0, n1, x130, k, l2, d23]
            refine c22_100 (by simp) g_k0 (by omega) m_give (gx_kn ?_) gx_kx
            simp only [r22_0, r22_0n, r22_1, r22_5, r22_6, r22_8, r22_9, r22_10, r22_10n, r22_11, r22_14, r22_17, r22_18, r22_18n, r22_19, r22_20, r22_20n, r22_21, r22_27, r22_30, r22_31, r22_34, r22_34n, r22_35, r22_38, r22_39, r22_40, r22_41, r22_44, r22_47, r22_47n, r22_48, r22_51, r22_52, r22_53, r22_54, r22_57, r22_58, r22_62, r22_64, r22_66, r22_69, r22_69n, r22_70, r22_75, r22_78, r22_78n, r22_79, r22_79n, r22_80, r22_83, r22_84, r22_85, r22_86, r22_89, r22_91, r22_94, r22_94n, r22_95, r22_98, r22_99, r22_103, i32_10, reduceIte, gm_cmp1, gm_cmp3, gm_cmp4, gm_kd_sf, gm_ln_sf, gm_sf_1, gm_sf_2, gm_nw_1, gm_nw_2, gm_k_int, gm_k_ref, gm_k_null, gm_k_u, gm_k_long, and_true, true_and, true_or, or_true, or_false, false_or, and_self, or_self, if_true, if_false, List.map_nil, List.map_cons, List.sum_nil, List.sum_cons, Nat.zero_le, Option.toList_some, Option.toList_none, List.cons_append, List.nil_append, ne_eq, not_false_eq_true, not_true_eq_false, nI_1, nI_add, Value.category, Nat.reduceAdd, Nat.reduceMod, Nat.reduceLeDiff, Nat.reduceLT, Nat.reduceEqDiff, Nat.reducePow, Nat.le_refl, Nat.add_left_cancel_iff, Nat.add_eq_left, Nat.left_eq_add, Nat.add_zero]
            exact g
          · have eq : gr_rf K false s = .ok (Sum.inl (-2), gs_p (gs_pl s + 4) s) := by
              rw [eb, y, if_neg (by decide)]
            have g := good _ (-2) eq hl ⟨rfl, Or.inl rfl⟩
            simp only [r22_0, r22_0n, r22_1, r22_5, r22_6, r22_8, r22_9, r22_10, r22_10n, r22_11, r22_14, r22_17, r22_18, r22_18n, r22_19, r22_20, r22_20n, r22_21, r22_27, r22_30, r22_31, r22_34, r22_34n, r22_35, r22_38, r22_39, r22_40, r22_41, r22_44, r22_47, r22_47n, r22_48, r22_51, r22_52, r22_53, r22_54, r22_57, r22_58, r22_62, r22_64, r22_66, r22_69, r22_69n, r22_70, r22_75, r22_78, r22_78n, r22_79, r22_79n, r22_80, r22_83, r22_84, r22_85, r22_86, r22_89, r22_91, r22_94, r22_94n, r22_95, r22_98, r22_99, r22_103, i32_10, reduceIte, gm_cmp1, gm_cmp3, gm_cmp4, gm_kd_sf, gm_ln_sf, gm_sf_1, gm_sf_2, gm_nw_1, gm_nw_2, gm_k_int, gm_k_ref, gm_k_null, gm_k_u, gm_k_long, and_true, true_and, true_or, or_true, or_false, false_or, and_self, or_self, if_true, if_false, List.map_nil, List.map_cons, List.sum_nil, List.sum_cons, Nat.zero_le, Option.toList_some, Option.toList_none, List.cons_append, List.nil_append, ne_eq, not_false_eq_true, not_true_eq_false, nI_1, nI_add, Value.category, Nat.reduceAdd, Nat.reduceMod, Nat.reduceLeDiff, Nat.reduceLT, Nat.reduceEqDiff, Nat.reducePow, Nat.le_refl, Nat.add_left_cancel_iff, Nat.add_eq_left, Nat.left_eq_add, Nat.add_zero, g_k0, g_k1, g_l1, g_p4, g_a1, g_w1, g_k2, g_l2, g_p10, g_a2, g_w2, g_k3, g_l3, g_p11, g_a3, g_w3, g_k4, g_l4, g_p12, g_a4, g_w4, g_k5, g_l5, g_p13, g_a5, g_w5, g_k6, g_l6, g_p14, g_a6, g_w6, g_k7, g_l7, g_p15, g_a7, g_w7, g_k8, g_l8, g_p16, g_a8, g_w8, g_k9, g_l9, g_p17, g_a9, g_w9, g_k10, g_l10, g_p18, g_a10, g_w10, g_k11, g_l11, g_p19, g_a11, g_w11, g_k12, g_l12, g_p20, g_a12, g_w12, g_k13, g_l13, g_p21, g_a13, g_w13, g_k14, g_l14, g_p22, g_a14, g_w14, g_k15, g_l15, g_p24, g_a15, g_w15, g_k16, g_l16, g_p26, g_a16, g_w16, g_k17, g_l17, g_p27, g_a17, g_w17, g_k18, g_l18, g_p29, g_a18, g_w18, g_k19, g_l19, g_p30, g_a19, g_w19, g_k20, g_l20, g_p31, g_a20, g_w20, g_k21, g_l21, g_p32, g_a21, g_w21, g_k22, g_l22, g_p33, g_a22, g_w22, g_k23, g_l23, g_p34, g_a23, g_w23, g_k24, g_l24, g_p35, g_a24, g_w24, g_k25, g_l25, g_p36, g_a25, g_w25, g_k26, g_l26, g_p37, g_a26, g_w26, g_k27, g_l27, g_p38, g_a27, g_w27, g_k28, g_l28, g_p40, g_a28, g_w28, g_k29, g_l29, g_p41, g_a29, g_w29, g_k30, g_l30, g_p42, g_a30, g_w30, g_k31, g_l31, g_p43, g_a31, g_w31, g_k32, g_l32, g_p44, g_a32, g_w32, g_k33, g_l33, g_p45, g_a33, g_w33, g_k34, g_l34, g_p46, g_a34, g_w34, g_f0, g_s0, g_f1, g_s1, g_f2, g_s2, g_f3, g_s3, g_f5, g_s5, g_f6, g_s6, g_f7, g_s7, g_f8, g_s8, g_f9, g_s9, g_f23, g_s23, g_f25, g_s25, g_f28, g_s28, g_f39, g_s39, g_f47, g_s47, gr_ui_eq, gr_ui_2, gr_ul_eq, gr_ul_1, gr_ui_no, gr_ui_ni, gr_ul_no, gr_ul_ni, if_neg f0, n1, x130, k, l3]
            refine c22_100 (by simp) g_k0 (by omega) m_give (gx_kn ?_) gx_kx
            simp only [r22_0, r22_0n, r22_1, r22_5, r22_6, r22_8, r22_9, r22_10, r22_10n, r22_11, r22_14, r22_17, r22_18, r22_18n, r22_19, r22_20, r22_20n, r22_21, r22_27, r22_30, r22_31, r22_34, r22_34n, r22_35, r22_38, r22_39, r22_40, r22_41, r22_44, r22_47, r22_47n, r22_48, r22_51, r22_52, r22_53, r22_54, r22_57, r22_58, r22_62, r22_64, r22_66, r22_69, r22_69n, r22_70, r22_75, r22_78, r22_78n, r22_79, r22_79n, r22_80, r22_83, r22_84, r22_85, r22_86, r22_89, r22_91, r22_94, r22_94n, r22_95, r22_98, r22_99, r22_103, i32_10, reduceIte, gm_cmp1, gm_cmp3, gm_cmp4, gm_kd_sf, gm_ln_sf, gm_sf_1, gm_sf_2, gm_nw_1, gm_nw_2, gm_k_int, gm_k_ref, gm_k_null, gm_k_u, gm_k_long, and_true, true_and, true_or, or_true, or_false, false_or, and_self, or_self, if_true, if_false, List.map_nil, List.map_cons, List.sum_nil, List.sum_cons, Nat.zero_le, Option.toList_some, Option.toList_none, List.cons_append, List.nil_append, ne_eq, not_false_eq_true, not_true_eq_false, nI_1, nI_add, Value.category, Nat.reduceAdd, Nat.reduceMod, Nat.reduceLeDiff, Nat.reduceLT, Nat.reduceEqDiff, Nat.reducePow, Nat.le_refl, Nat.add_left_cancel_iff, Nat.add_eq_left, Nat.left_eq_add, Nat.add_zero]
            exact g
      · rw [if_neg hin]
        have een : gs_ent K s = .error (-4) := by
          rw [een]
          by_cases i0 : i < 0
          · rw [if_pos i0]
          · obtain ⟨x, hx, hxi⟩ := nI_of i0
            rw [if_neg i0, if_pos]
            rw [hxi] at hin i0 ⊢
            rw [nI_clamp hx] at hin
            exact nI_le (by
              rcases Nat.lt_or_ge x (gs_size s) with z | z
              · exact absurd ⟨i0, z⟩ hin
              · exact z) hx
        have g := no (by
          unfold gr_rf gs_ref gs_b
          rw [een]
          cases b <;> rfl)
        have n1 : ¬ (1 : Int32) = 0 := by decide
        simp only [r22_0, r22_0n, r22_1, r22_5, r22_6, r22_8, r22_9, r22_10, r22_10n, r22_11, r22_14, r22_17, r22_18, r22_18n, r22_19, r22_20, r22_20n, r22_21, r22_27, r22_30, r22_31, r22_34, r22_34n, r22_35, r22_38, r22_39, r22_40, r22_41, r22_44, r22_47, r22_47n, r22_48, r22_51, r22_52, r22_53, r22_54, r22_57, r22_58, r22_62, r22_64, r22_66, r22_69, r22_69n, r22_70, r22_75, r22_78, r22_78n, r22_79, r22_79n, r22_80, r22_83, r22_84, r22_85, r22_86, r22_89, r22_91, r22_94, r22_94n, r22_95, r22_98, r22_99, r22_103, i32_10, reduceIte, gm_cmp1, gm_cmp3, gm_cmp4, gm_kd_sf, gm_ln_sf, gm_sf_1, gm_sf_2, gm_nw_1, gm_nw_2, gm_k_int, gm_k_ref, gm_k_null, gm_k_u, gm_k_long, and_true, true_and, true_or, or_true, or_false, false_or, and_self, or_self, if_true, if_false, List.map_nil, List.map_cons, List.sum_nil, List.sum_cons, Nat.zero_le, Option.toList_some, Option.toList_none, List.cons_append, List.nil_append, ne_eq, not_false_eq_true, not_true_eq_false, nI_1, nI_add, Value.category, Nat.reduceAdd, Nat.reduceMod, Nat.reduceLeDiff, Nat.reduceLT, Nat.reduceEqDiff, Nat.reducePow, Nat.le_refl, Nat.add_left_cancel_iff, Nat.add_eq_left, Nat.left_eq_add, Nat.add_zero, n1]
        exact g
    · obtain ⟨v, t', q1, q2, q3⟩ := q.2 (by omega)
      cases q1
      subst q2
      have en : gs_ent K s = .error (-3) := by
        unfold gs_ent gs_b gs_u4 gs_b
        rw [gs_nxt_n hpn hl]
      have g := bad (-3) t' (by
        unfold gr_rf gs_ref gs_b
        rw [en]
        cases b <;> rfl) q3
      have f8 : ¬ t'.1 0 8 = 0 := by
        obtain ⟨-, p, -, rfl⟩ := q3
        rw [gr_ui_eq]
        decide
      simp only [r22_0, r22_0n, r22_1, r22_5, r22_6, r22_8, r22_9, r22_10, r22_10n, r22_11, r22_14, r22_17, r22_18, r22_18n, r22_19, r22_20, r22_20n, r22_21, r22_27, r22_30, r22_31, r22_34, r22_34n, r22_35, r22_38, r22_39, r22_40, r22_41, r22_44, r22_47, r22_47n, r22_48, r22_51, r22_52, r22_53, r22_54, r22_57, r22_58, r22_61, r22_62, r22_64, r22_66, r22_69, r22_69n, r22_70, r22_75, r22_78, r22_78n, r22_79, r22_79n, r22_80, r22_83, r22_84, r22_85, r22_86, r22_89, r22_91, r22_94, r22_94n, r22_95, r22_98, r22_99, r22_103, i32_10, reduceIte, gm_cmp1, gm_cmp3, gm_cmp4, gm_kd_sf, gm_ln_sf, gm_sf_1, gm_sf_2, gm_nw_1, gm_nw_2, gm_k_int, gm_k_ref, gm_k_null, gm_k_u, gm_k_long, and_true, true_and, true_or, or_true, or_false, false_or, and_self, or_self, if_true, if_false, List.map_nil, List.map_cons, List.sum_nil, List.sum_cons, Nat.zero_le, Option.toList_some, Option.toList_none, List.cons_append, List.nil_append, ne_eq, not_false_eq_true, not_true_eq_false, nI_1, nI_add, Value.category, Nat.reduceAdd, Nat.reduceMod, Nat.reduceLeDiff, Nat.reduceLT, Nat.reduceEqDiff, Nat.reducePow, Nat.le_refl, Nat.add_left_cancel_iff, Nat.add_eq_left, Nat.left_eq_add, Nat.add_zero, g_k0, g_k1, g_l1, g_p4, g_a1, g_w1, g_k2, g_l2, g_p10, g_a2, g_w2, g_k3, g_l3, g_p11, g_a3, g_w3, g_k4, g_l4, g_p12, g_a4, g_w4, g_k5, g_l5, g_p13, g_a5, g_w5, g_k6, g_l6, g_p14, g_a6, g_w6, g_k7, g_l7, g_p15, g_a7, g_w7, g_k8, g_l8, g_p16, g_a8, g_w8, g_k9, g_l9, g_p17, g_a9, g_w9, g_k10, g_l10, g_p18, g_a10, g_w10, g_k11, g_l11, g_p19, g_a11, g_w11, g_k12, g_l12, g_p20, g_a12, g_w12, g_k13, g_l13, g_p21, g_a13, g_w13, g_k14, g_l14, g_p22, g_a14, g_w14, g_k15, g_l15, g_p24, g_a15, g_w15, g_k16, g_l16, g_p26, g_a16, g_w16, g_k17, g_l17, g_p27, g_a17, g_w17, g_k18, g_l18, g_p29, g_a18, g_w18, g_k19, g_l19, g_p30, g_a19, g_w19, g_k20, g_l20, g_p31, g_a20, g_w20, g_k21, g_l21, g_p32, g_a21, g_w21, g_k22, g_l22, g_p33, g_a22, g_w22, g_k23, g_l23, g_p34, g_a23, g_w23, g_k24, g_l24, g_p35, g_a24, g_w24, g_k25, g_l25, g_p36, g_a25, g_w25, g_k26, g_l26, g_p37, g_a26, g_w26, g_k27, g_l27, g_p38, g_a27, g_w27, g_k28, g_l28, g_p40, g_a28, g_w28, g_k29, g_l29, g_p41, g_a29, g_w29, g_k30, g_l30, g_p42, g_a30, g_w30, g_k31, g_l31, g_p43, g_a31, g_w31, g_k32, g_l32, g_p44, g_a32, g_w32, g_k33, g_l33, g_p45, g_a33, g_w33, g_k34, g_l34, g_p46, g_a34, g_w34, g_f0, g_s0, g_f1, g_s1, g_f2, g_s2, g_f3, g_s3, g_f5, g_s5, g_f6, g_s6, g_f7, g_s7, g_f8, g_s8, g_f9, g_s9, g_f23, g_s23, g_f25, g_s25, g_f28, g_s28, g_f39, g_s39, g_f47, g_s47, gr_ui_eq, gr_ui_2, gr_ul_eq, gr_ul_1, gr_ui_no, gr_ui_ni, gr_ul_no, gr_ul_ni, f8]
      exact g
  · by_cases hl : gs_pl s + 4 ≤ gs_n K
    · cases (q.1 hl).1
    · obtain ⟨v, t', q1, -, -⟩ := q.2 (by omega)
      cases q1
end MN
/-! THE REFERENCE, 23: its classes after define, constant, field. -/
section MO
variable {E : Nat → Value} {d m : Nat} {h : gm_H} {t t' : gr_t} {K : gs_K} {s : gs_S}
/-- what is known of a class's cells -/
def gr_c1 (t : gr_t) (c : Nat) (C : gs_C) : Prop := t.1 2 c = gs_kind C ∧ (0 ≤ gs_kind C ∧ gs_kind C ≤ 4) ∧ t.1 4 c = gr_o (gs_sup C) ∧ t.2 3 c = gs_cid C ∧ t.1 5 c = nI (gs_fs C).length ∧ (gs_fs C).length ≤ 4 ∧ t.1 8 c = gs_con C ∧ t.1 9 c = (if gs_bar C = true then 1 else 0) ∧ ∀ (j : Nat) (q : Int32 × Int32), (gs_fs C)[j]? = some q → t.1 6 (4 * c + j) = q.1 ∧ t.1 7 (4 * c + j) = q.2
theorem gr_C.c1 {c : Nat} {C : gs_C} (Cl : gr_C t K) (hc : c < 6) (hC : gs_cls K c = some C) : gr_c1 t c C := by
  have q := Cl c hc
  rw [hC] at q
  exact q
theorem gr_C.set {c : Nat} {C : gs_C} (Cl : gr_C t K) (hs : ∀ x, x < 6 → x ≠ c → t'.1 2 x = t.1 2 x ∧ t'.1 4 x = t.1 4 x ∧ t'.2 3 x = t.2 3 x ∧ t'.1 5 x = t.1 5 x ∧ t'.1 8 x = t.1 8 x ∧ t'.1 9 x = t.1 9 x ∧ ∀ j, j < 4 → t'.1 6 (4 * x + j) = t.1 6 (4 * x + j) ∧ t'.1 7 (4 * x + j) = t.1 7 (4 * x + j)) (hc : gr_c1 t' c C) : gr_C t' (gs_def1 K c C) := by
  intro x hx
  by_cases e : x = c
  · subst e
    have : gs_cls (gs_def1 K x C) x = some C := by show (if x = x then some C else _) = _; rw [if_pos rfl]
    rw [this]
    exact hc
  · have ek : gs_cls (gs_def1 K c C) x = gs_cls K x := by show (if x = c then some C else gs_cls K x) = _; rw [if_neg e]
    obtain ⟨h1, h2, h3, h4, h5, h6, h7⟩ := hs x hx e
    have q := Cl x hx
    rw [ek]
    cases ex : gs_cls K x with
    | none =>
      rw [ex] at q
      exact ⟨by rw [h1]; exact q.1, by rw [h4]; exact q.2.1, by rw [h5]; exact q.2.2.1, by rw [h6]; exact q.2.2.2⟩
    | some X =>
      rw [ex] at q
      obtain ⟨q1, q2, q3, q4, q5, q6, q7, q8, q9⟩ := q
      refine ⟨by rw [h1]; exact q1, q2, by rw [h2]; exact q3, by rw [h3]; exact q4, by rw [h4]; exact q5, q6, by rw [h5]; exact q7, by rw [h6]; exact q8, fun j p hp => ?_⟩
      have hj : j < 4 := by
        have := (List.getElem?_eq_some_iff.mp hp).1
        omega
      rw [(h7 j hj).1, (h7 j hj).2]
      exact q9 j p hp
theorem gr_C.define {n k u : Int32} {id : Int64} (Cl : gr_C t K) (ok : gs_defok K n k u = true) : gr_C (gr_def t n.toNatClampNeg k u id) (gs_def1 K n.toNatClampNeg (k, gs_defsup u, id, [], false, 0)) := by
  unfold gs_defok at ok
  simp only [Bool.and_eq_true, decide_eq_true_eq] at ok
  obtain ⟨⟨⟨⟨⟨⟨⟨o1, o2⟩, o3⟩, o4⟩, o5⟩, o6⟩, o7⟩, o8⟩ := ok
  have n0 : ¬ n < 0 := Int32.not_lt.mpr o1
  obtain ⟨c, hc, rfl⟩ := nI_of n0
  have c6 : c < 6 := (nI_ltI (b := 6) hc (by decide)).mp o2
  rw [nI_clamp hc] at o7 ⊢
  have hno : gs_cls K c = none := by simpa using o7
  have q := Cl c c6
  rw [hno] at q
  refine Cl.set (fun x hx hxc => ?_) ?_
  · unfold gr_def
    refine ⟨?_, ?_, ?_, ?_, ?_, ?_, fun j hj => ⟨?_, ?_⟩⟩
    · rw [gr_ul_1, gr_ui_no (by decide), gr_ui_ni hxc]
    · rw [gr_ul_1, gr_ui_ni hxc, gr_ui_no (by decide)]
    · rw [gr_ul_ni hxc]; rfl
    · rw [gr_ul_1, gr_ui_no (by decide), gr_ui_no (by decide)]
    · rw [gr_ul_1, gr_ui_no (by decide), gr_ui_no (by decide)]
    · rw [gr_ul_1, gr_ui_no (by decide), gr_ui_no (by decide)]
    · rw [gr_ul_1, gr_ui_no (by decide), gr_ui_no (by decide)]
    · rw [gr_ul_1, gr_ui_no (by decide), gr_ui_no (by decide)]
  · unfold gr_def
    refine ⟨?_, ⟨o3, o4⟩, ?_, gr_ul_eq, ?_, Nat.zero_le 4, ?_, ?_, fun j p hp => by cases hp⟩
    · rw [gr_ul_1, gr_ui_no (by decide), gr_ui_eq]; rfl
    · rw [gr_ul_1, gr_ui_eq]
      show u = gr_o (gs_defsup u)
      unfold gs_defsup
      by_cases u0 : u < 0
      · rw [if_pos u0]
        show u = -1
        refine Int32.le_antisymm ?_ o5
        have := Int32.lt_iff_toInt_lt.mp u0
        refine Int32.le_iff_toInt_le.mpr ?_
        have e1 : (-1 : Int32).toInt = -1 := by decide
        have e0 : (0 : Int32).toInt = 0 := by decide
        rw [e0] at this
        rw [e1]
        omega
      · rw [if_neg u0]
        obtain ⟨y, hy, rfl⟩ := nI_of u0
        rw [nI_clamp hy]
        rfl
    · rw [gr_ul_1, gr_ui_no (by decide), gr_ui_no (by decide)]; exact q.2.1
    · rw [gr_ul_1, gr_ui_no (by decide), gr_ui_no (by decide)]; exact q.2.2.1
    · rw [gr_ul_1, gr_ui_no (by decide), gr_ui_no (by decide)]; exact q.2.2.2
theorem gr_C.field {c : Nat} {C : gs_C} {nm ty : Int32} (Cl : gr_C t K) (c6 : c < 6) (hC : gs_cls K c = some C) (h4 : ¬ (gs_fs C).length = 4) : gr_C (gr_fld t c (gs_fs C).length nm ty) (gs_def1 K c (C.1, C.2.1, C.2.2.1, gs_fs C ++ [(nm, ty)], C.2.2.2.2)) := by
  obtain ⟨q1, q2, q3, q4, q5, q6, q7, q8, q9⟩ := Cl.c1 c6 hC
  have hl : (gs_fs C).length < 4 := by omega
  refine Cl.set (fun x hx hxc => ?_) ?_
  · unfold gr_fld
    refine ⟨?_, ?_, rfl, ?_, ?_, ?_, fun j hj => ⟨?_, ?_⟩⟩
    · rw [gr_ui_no (by decide), gr_ui_no (by decide), gr_ui_no (by decide)]
    · rw [gr_ui_no (by decide), gr_ui_no (by decide), gr_ui_no (by decide)]
    · rw [gr_ui_ni hxc, gr_ui_no (by decide), gr_ui_no (by decide)]
    · rw [gr_ui_no (by decide), gr_ui_no (by decide), gr_ui_no (by decide)]
    · rw [gr_ui_no (by decide), gr_ui_no (by decide), gr_ui_no (by decide)]
    · rw [gr_ui_no (by decide), gr_ui_no (by decide), gr_ui_ni (by omega)]
    · rw [gr_ui_no (by decide), gr_ui_ni (by omega), gr_ui_no (by decide)]
  · unfold gr_fld
    have el : gs_fs (C.1, C.2.1, C.2.2.1, gs_fs C ++ [(nm, ty)], C.2.2.2.2) = gs_fs C ++ [(nm, ty)] := rfl
    refine ⟨?_, q2, ?_, q4, ?_, ?_, ?_, ?_, fun j p hp => ?_⟩
    · rw [gr_ui_no (by decide), gr_ui_no (by decide), gr_ui_no (by decide)]; exact q1
    · rw [gr_ui_no (by decide), gr_ui_no (by decide), gr_ui_no (by decide)]; exact q3
    · rw [gr_ui_eq, el, List.length_append]; rfl
    · rw [el, List.length_append]; show _ + 1 ≤ 4; omega
    · rw [gr_ui_no (by decide), gr_ui_no (by decide), gr_ui_no (by decide)]; exact q7
    · rw [gr_ui_no (by decide), gr_ui_no (by decide), gr_ui_no (by decide)]; exact q8
    · rw [el] at hp
      by_cases e : j = (gs_fs C).length
      · subst e
        rw [List.getElem?_append_right (Nat.le_refl _), Nat.sub_self] at hp
        cases hp
        exact ⟨by rw [gr_ui_no (by decide), gr_ui_no (by decide), gr_ui_eq], by rw [gr_ui_no (by decide), gr_ui_eq]⟩
      · have hj : j < (gs_fs C).length := by
          have := (List.getElem?_eq_some_iff.mp hp).1
          rw [List.length_append] at this
          have : j < (gs_fs C).length + 1 := this
          omega
        rw [List.getElem?_append_left hj] at hp
        obtain ⟨w1, w2⟩ := q9 j p hp
        exact ⟨by rw [gr_ui_no (by decide), gr_ui_no (by decide), gr_ui_ni (by omega)]; exact w1, by rw [gr_ui_no (by decide), gr_ui_ni (by omega), gr_ui_no (by decide)]; exact w2⟩
theorem gr_C.constK {c : Nat} {C : gs_C} {nm : Int32} (Cl : gr_C t K) (c6 : c < 6) (hC : gs_cls K c = some C) : gr_C (gr_ui t 8 c (t.1 8 c ||| 1 <<< (nm &&& 31))) (gs_def1 K c (C.1, C.2.1, C.2.2.1, C.2.2.2.1, C.2.2.2.2.1, gs_con C ||| 1 <<< (nm &&& 31))) := by
  obtain ⟨q1, q2, q3, q4, q5, q6, q7, q8, q9⟩ := Cl.c1 c6 hC
  refine Cl.set (fun x hx hxc => ?_) ?_
  · refine ⟨?_, ?_, rfl, ?_, ?_, ?_, fun j hj => ⟨?_, ?_⟩⟩
    · rw [gr_ui_no (by decide)]
    · rw [gr_ui_no (by decide)]
    · rw [gr_ui_no (by decide)]
    · rw [gr_ui_ni hxc]
    · rw [gr_ui_no (by decide)]
    · rw [gr_ui_no (by decide)]
    · rw [gr_ui_no (by decide)]
  · refine ⟨?_, q2, ?_, q4, ?_, q6, ?_, ?_, fun j p hp => ?_⟩
    · rw [gr_ui_no (by decide)]; exact q1
    · rw [gr_ui_no (by decide)]; exact q3
    · rw [gr_ui_no (by decide)]; exact q5
    · rw [gr_ui_eq, q7]; rfl
    · rw [gr_ui_no (by decide)]; exact q8
    · rw [gr_ui_no (by decide), gr_ui_no (by decide)]; exact q9 j p hp
theorem gr_C.constB {c : Nat} {C : gs_C} {on : Int32} (Cl : gr_C t K) (c6 : c < 6) (hC : gs_cls K c = some C) (hon : on = 0 ∨ on = 1) : gr_C (gr_ui t 9 c (on &&& 1)) (gs_def1 K c (C.1, C.2.1, C.2.2.1, C.2.2.2.1, decide (on = 1), C.2.2.2.2.2)) := by
  obtain ⟨q1, q2, q3, q4, q5, q6, q7, q8, q9⟩ := Cl.c1 c6 hC
  refine Cl.set (fun x hx hxc => ?_) ?_
  · refine ⟨?_, ?_, rfl, ?_, ?_, ?_, fun j hj => ⟨?_, ?_⟩⟩
    · rw [gr_ui_no (by decide)]
    · rw [gr_ui_no (by decide)]
    · rw [gr_ui_no (by decide)]
    · rw [gr_ui_no (by decide)]
    · rw [gr_ui_ni hxc]
    · rw [gr_ui_no (by decide)]
    · rw [gr_ui_no (by decide)]
  · refine ⟨?_, q2, ?_, q4, ?_, q6, ?_, ?_, fun j p hp => ?_⟩
    · rw [gr_ui_no (by decide)]; exact q1
    · rw [gr_ui_no (by decide)]; exact q3
    · rw [gr_ui_no (by decide)]; exact q5
    · rw [gr_ui_no (by decide)]; exact q7
    · rw [gr_ui_eq]
      show on &&& 1 = if decide (on = 1) = true then 1 else 0
      rcases hon with rfl | rfl
      · decide
      · decide
    · rw [gr_ui_no (by decide), gr_ui_no (by decide)]; exact q9 j p hp
/-- names of all classes -/
def gs_ndK (K : gs_K) : Prop := ∀ a C, gs_cls K a = some C → gs_nd (gs_fs C)
theorem gs_nd_nil : gs_nd [] := ⟨fun f g p q z => by simp at z, fun f p z => by simp at z⟩
theorem gs_ndK.set {c : Nat} {C : gs_C} (nd : gs_ndK K) (hC : gs_nd (gs_fs C)) : gs_ndK (gs_def1 K c C) := by
  intro a X hX
  have hX : (if a = c then some C else gs_cls K a) = some X := hX
  by_cases e : a = c
  · rw [if_pos e] at hX; cases hX; exact hC
  · rw [if_neg e] at hX; exact nd a X hX
theorem gs_nd_app {fs : List (Int32 × Int32)} {nm ty : Int32} (nd : gs_nd fs) (n0 : ¬ nm < 0) (hx : gs_ix fs nm = none) : gs_nd (fs ++ [(nm, ty)]) := by
  have g : ∀ (f : Nat) (p : Int32 × Int32), (fs ++ [(nm, ty)])[f]? = some p → (fs[f]? = some p ∧ f < fs.length) ∨ (f = fs.length ∧ p = (nm, ty)) := by
    intro f p hp
    rcases Nat.lt_trichotomy f fs.length with z | z | z
    · rw [List.getElem?_append_left z] at hp
      exact Or.inl ⟨hp, z⟩
    · subst z
      rw [List.getElem?_append_right (Nat.le_refl _), Nat.sub_self] at hp
      cases hp
      exact Or.inr ⟨rfl, rfl⟩
    · rw [List.getElem?_eq_none (by rw [List.length_append]; show fs.length + 1 ≤ f; omega)] at hp
      cases hp
  refine ⟨fun f k p q hp hq e => ?_, fun f p hp => ?_⟩
  · rcases g f p hp with ⟨a1, a2⟩ | ⟨a1, a2⟩ <;> rcases g k q hq with ⟨b1, b2⟩ | ⟨b1, b2⟩
    · exact nd.1 f k p q a1 b1 e
    · rw [b2] at e; exact absurd e (gs_ix_none hx a1)
    · rw [a2] at e; exact absurd e.symm (gs_ix_none hx b1)
    · omega
  · rcases g f p hp with ⟨a1, a2⟩ | ⟨a1, a2⟩
    · exact nd.2 f p a1
    · rw [a2]; exact n0
end MO
/-! THE REFERENCE, 24: what stays where only scalars change; the relation. -/
section MP
variable {E : Nat → Value} {d m : Nat} {h : gm_H} {t t' : gr_t} {K : gs_K} {s : gs_S} {lf : Int32}
/-- the arrays are the same -/
def gr_sm (t t' : gr_t) : Prop := t'.2 = t.2 ∧ ∀ o i, o ≠ 0 → t'.1 o i = t.1 o i
theorem gr_ke.sm (k : gr_ke t t') : gr_sm t t' := ⟨k.1, fun o i ho => k.2 o i (fun z => absurd z ho)⟩
theorem gr_ke2.sm (k : gr_ke2 t t') : gr_sm t t' := ⟨k.1, fun o i ho => k.2 o i (fun z => absurd z ho)⟩
/-- bytes are added, classes stay -/
def gs_kk (K K' : gs_K) : Prop := gs_n K ≤ gs_n K' ∧ (∀ i, i < gs_n K → gs_by K' i = gs_by K i) ∧ ∀ c, (gs_cls K c).isSome = true → (gs_cls K' c).isSome = true
theorem gs_kk.refl : gs_kk K K := ⟨Nat.le_refl _, fun _ _ => rfl, fun _ x => x⟩
theorem gs_kk.sb {K' : gs_K} {i : Nat} (k : gs_kk K K') (hi : i < gs_n K) : gs_sb K' i = gs_sb K i := by unfold gs_sb; rw [k.2.1 i hi]
theorem gs_kk.num {K' : gs_K} (k : gs_kk K K') : ∀ (a n : Nat), a + n ≤ gs_n K → gs_num K' a n = gs_num K a n
  | _, 0, _ => rfl
  | a, n + 1, h => by
    show gs_num K' a n <<< 8 ||| gs_ub K' (a + n) = gs_num K a n <<< 8 ||| gs_ub K (a + n)
    unfold gs_ub
    rw [gs_kk.num k a n (by omega), k.sb (by omega)]
theorem gs_kk.spelt {K' : gs_K} (k : gs_kk K K') {a n : Nat} {T : List Int32} (h : a + n ≤ gs_n K) : gs_spelt K' a n T = gs_spelt K a n T := by
  unfold gs_spelt
  congr 1
  rw [Bool.eq_iff_iff, List.all_eq_true, List.all_eq_true]
  constructor
  · intro z i hi
    have := List.mem_range.mp hi
    rw [← k.sb (by omega)]
    exact z i hi
  · intro z i hi
    have := List.mem_range.mp hi
    rw [k.sb (by omega)]
    exact z i hi
/-- the arrays of heap, handles and descriptors are the same -/
def gr_s2 (t t' : gr_t) : Prop := (∀ o i, (10 ≤ o ∧ o < 28 ∧ o ≠ 18 ∧ o ≠ 19) → t'.2 o i = t.2 o i) ∧ ∀ o i, (10 ≤ o ∧ o < 28 ∧ o ≠ 18 ∧ o ≠ 19) → t'.1 o i = t.1 o i
theorem gr_sm.s2 (x : gr_sm t t') : gr_s2 t t' := ⟨fun o i _ => by rw [x.1], fun o i h => x.2 o i (by omega)⟩
theorem gr_dl.sm {K' : gs_K} {k : Nat} {l : gs_L} (kk : gs_kk K K') (D : gr_dl t K k l) (x : gr_s2 t t') : gr_dl t' K' k l := by
  obtain ⟨a, b, c, e, f, g, i, j⟩ := D
  have es : gr_shape K' l = gr_shape K l := by unfold gr_shape; rw [kk.spelt b.2, kk.spelt b.2]
  refine ⟨by rw [x.2 _ _ (by decide)]; exact a, ⟨by rw [x.2 _ _ (by decide), es]; exact b.1, by have := kk.1; omega⟩, by rw [x.2 _ _ (by decide)]; exact c, by rw [x.1 _ _ (by decide)]; exact e, by rw [x.2 _ _ (by decide)]; exact f, g, fun c hc => ⟨(i c hc).1, kk.2.2 c (i c hc).2⟩, fun n q hq => ?_⟩
  rw [x.2 _ _ (by decide), x.2 _ _ (by decide)]
  exact j n q hq
theorem gr_ch.sm {K' : gs_K} (kk : gs_kk K K') (x : gr_s2 t t') : ∀ (L : List gs_L) (i : Int32), gr_ch t K L i → gr_ch t' K' L i
  | [], _, c => c
  | l :: L, i, ⟨k, k0, k1, k2, k3⟩ => ⟨k, k0, k1, k2.sm kk x, by rw [x.2 _ _ (by decide)]; exact gr_ch.sm kk x L _ k3⟩
theorem gr_en.sm {K' : gs_K} {i : Nat} {q : Int32 × List gs_L} (kk : gs_kk K K') (x : gr_s2 t t') (e : gr_en t K i q) : gr_en t' K' i q := by
  unfold gr_en
  rw [x.2 _ _ (by decide), x.2 _ _ (by decide)]
  rcases e with e | ⟨a, b, c, e⟩ | e | e
  · exact Or.inl e
  · exact Or.inr (Or.inl ⟨a, b, c, gr_ch.sm kk x _ _ e⟩)
  · exact Or.inr (Or.inr (Or.inl e))
  · exact Or.inr (Or.inr (Or.inr e))
theorem gr_hs.sm {K' : gs_K} (kk : gs_kk K K') (x : gr_s2 t t') (h28 : t'.1 0 28 = t.1 0 28) {s' : gs_S} (hs : s'.2.2 = s.2.2) (H : gr_hs t K s) : gr_hs t' K' s' := by
  obtain ⟨a, b, c, e⟩ := H
  have z1 : gs_size s' = gs_size s := by unfold gs_size gs_hs gs_f1; rw [hs]
  have z2 : gs_hs s' = gs_hs s := by unfold gs_hs; rw [hs]
  have z3 : gs_f1 s' = gs_f1 s := by unfold gs_f1; rw [hs]
  refine ⟨by rw [h28, z1]; exact a, by rw [z1]; exact b, by rw [z2, z3]; exact c, fun i q hi hq => ?_⟩
  rw [z1] at hi
  rw [z2, z3] at hq
  exact (e i q hi hq).sm kk x
theorem gr_ob.sm {K' : gs_K} {us i : Nat} {o : gs_O} (kk : gs_kk K K') (x : gr_s2 t t') (O : gr_ob t K us i o) : gr_ob t' K' us i o := by
  obtain ⟨a, b, c, e, f, g, i1, j, k⟩ := O
  have k1 := kk.1
  refine ⟨by rw [x.2 _ _ (by decide)]; exact a, b, by rw [x.2 _ _ (by decide)]; exact c, e, by rw [x.2 _ _ (by decide)]; exact f, by rw [x.2 _ _ (by decide)]; exact g, i1, j, ?_⟩
  unfold gr_ov at k ⊢
  rw [x.2 _ _ (by decide)]
  by_cases s1 : o.1 = 1
  · rw [if_pos s1] at k ⊢
    obtain ⟨w, w1, w2, w3⟩ := k
    refine ⟨w, w1, by omega, fun n v hv => ?_⟩
    have := (List.getElem?_eq_some_iff.mp hv).1
    rw [kk.sb (by omega)]
    exact w3 n v hv
  · rw [if_neg s1] at k ⊢
    by_cases s2 : o.1 = 2
    · rw [if_pos s2] at k ⊢
      obtain ⟨w, w1, w2, w3⟩ := k
      refine ⟨w, w1, by omega, fun n v hv => ?_⟩
      have := (List.getElem?_eq_some_iff.mp hv).1
      rw [kk.num _ _ (by omega)]
      exact w3 n v hv
    · rw [if_neg s2] at k ⊢
      obtain ⟨w, w1, w2, w3⟩ := k
      refine ⟨w, w1, w2, fun n v hv => ?_⟩
      rw [x.1 _ _ (by decide)]
      exact w3 n v hv
theorem gr_hp.sm {K' : gs_K} {hp : List gs_O} (kk : gs_kk K K') (x : gr_s2 t t') (h25 : t'.1 0 25 = t.1 0 25) (h23 : t'.1 0 23 = t.1 0 23) (H : gr_hp t K hp) : gr_hp t' K' hp := by
  obtain ⟨us, a, b, c, e, f⟩ := H
  exact ⟨us, by rw [h25]; exact a, b, by rw [h23]; exact c, e, fun i o ho => (f i o ho).sm kk x⟩
/-- a descriptor's types -/
def gs_tys (l : gs_L) : Prop := ∀ (j : Nat) (q : Int32 × Int32), (gs_df l)[j]? = some q → ∃ ty, ty < 8 ∧ q.2 = nI ty
/-- a descriptor and those above it, all below nd -/
def gr_chn (N : Nat → Prop) (t : gr_t) (K : gs_K) : List gs_L → Int32 → Prop
  | [], i => i = -2
  | l :: L, i => ∃ k, i = nI k ∧ N k ∧ (gr_dl t K k l ∧ gs_tys l) ∧ gr_chn N t K L (t.1 27 k)
theorem gr_chn.ch {N : Nat → Prop} (hn : ∀ k, N k → k < 130) : ∀ (L : List gs_L) (i : Int32), gr_chn N t K L i → gr_ch t K L i
  | [], _, c => c
  | l :: L, i, ⟨k, k0, k1, k2, k3⟩ => ⟨k, k0, hn k k1, k2.1, gr_chn.ch hn L _ k3⟩
theorem gr_chn.sm {K' : gs_K} {N : Nat → Prop} (kk : gs_kk K K') (x : gr_s2 t t') : ∀ (L : List gs_L) (i : Int32), gr_chn N t K L i → gr_chn N t' K' L i
  | [], _, c => c
  | l :: L, i, ⟨k, k0, k1, k2, k3⟩ => ⟨k, k0, k1, ⟨k2.1.sm kk x, k2.2⟩, by rw [x.2 _ _ (by decide)]; exact gr_chn.sm kk x L _ k3⟩
/-- the handles' descriptors lie below nd -/
def gr_hn (nd : Nat) (t : gr_t) (K : gs_K) (s : gs_S) : Prop := ∀ (i : Nat) (q : Int32 × List gs_L), i < gs_size s → (gs_hs s)[gs_f1 s + i]? = some q → q.2 ≠ [] → gr_chn (fun k => k < nd) t K q.2 (t.1 17 i)
/-- values of one object end before those of the next -/
def gr_dj (t : gr_t) (hp : List gs_O) : Prop := ∀ (i j : Nat) (oi oj : gs_O), i < j → hp[i]? = some oi → hp[j]? = some oj → (oi.1 = 0 ∨ oi.1 = 3) → (oj.1 = 0 ∨ oj.1 = 3) → ∃ a b, t.1 13 i = nI a ∧ t.1 13 j = nI b ∧ a + oi.2.2.1.length ≤ b ∧ b ≤ 4000
/-- a handle's object is there; a chain is no longer than there are descriptors -/
def gs_hin (s : gs_S) : Prop := ∀ (i : Nat) (q : Int32 × List gs_L), (gs_hs s)[i]? = some q → ¬ q.1 < 0 → ∃ x, x < (gs_hp s).length ∧ q.1 = nI x
def gs_lok (s : gs_S) : Prop := ∀ (i : Nat) (q : Int32 × List gs_L), (gs_hs s)[i]? = some q → q.2.length ≤ gs_dn s
def gr_Z (nd : Nat) (t : gr_t) (K : gs_K) (s : gs_S) : Prop := gr_hn nd t K s ∧ gr_dj t (gs_hp s) ∧ gs_hin s ∧ gs_lok s
theorem gr_Z.sm {K' : gs_K} {nd : Nat} {s' : gs_S} (kk : gs_kk K K') (x : gr_s2 t t') (hs : s'.2 = s.2) (Z : gr_Z nd t K s) : gr_Z nd t' K' s' := by
  obtain ⟨a, b, c, e⟩ := Z
  have z1 : gs_size s' = gs_size s := by unfold gs_size gs_hs gs_f1; rw [hs]
  have z2 : gs_hs s' = gs_hs s := by unfold gs_hs; rw [hs]
  have z3 : gs_f1 s' = gs_f1 s := by unfold gs_f1; rw [hs]
  have z4 : gs_hp s' = gs_hp s := by unfold gs_hp; rw [hs]
  refine ⟨fun i q hi hq hn => ?_, ?_, ?_, ?_⟩
  · rw [z1] at hi
    rw [z2, z3] at hq
    rw [x.2 _ _ (by decide)]
    exact (a i q hi hq hn).sm kk x
  · rw [z4]
    intro i j oi oj hij hi hj si sj
    rw [x.2 _ _ (by decide), x.2 _ _ (by decide)]
    exact b i j oi oj hij hi hj si sj
  · unfold gs_hin; rw [z2, z4]; exact c
  · unfold gs_lok gs_dn; rw [z2]; exact e
theorem gr_Z.nil {nd p : Nat} : gr_Z nd t K (p, [], [], 0) := ⟨fun i q hi => absurd hi (Nat.not_lt_zero i), fun i j oi oj _ hi => by simp [gs_hp] at hi, fun i q hq => by simp [gs_hs] at hq, fun i q hq => by simp [gs_hs] at hq⟩
/-- the reference stands for (K, s), with the lasting fault -/
def gr_X (t : gr_t) (K : gs_K) (s : gs_S) (lf : Int32) : Prop := gr_lm t K ∧ gr_B t K ∧ gr_C t K ∧ (gs_wf K ∧ gs_ndK K) ∧ (t.1 0 6 = nI (gs_pl s) ∧ gs_pl s ≤ gs_n K) ∧ t.1 0 7 = lf ∧ gr_hp t K (gs_hp s) ∧ gr_hs t K s ∧
  (∃ us nd, t.1 0 25 = nI us ∧ us ≤ 4 * gs_pl s ∧ t.1 0 39 = nI nd ∧ 11 * nd ≤ gs_pl s ∧ gr_Z nd t K s) ∧ 3 * (gs_hp s).length ≤ gs_pl s ∧ 3 * (gs_hs s).length ≤ gs_pl s
theorem gr_X.of {s' : gs_S} {lf' : Int32} (X : gr_X t K s lf) (k : gr_ke t t') (hs : s'.2 = s.2) (h6 : t'.1 0 6 = nI (gs_pl s')) (h7 : t'.1 0 7 = lf') (hp : gs_pl s ≤ gs_pl s') (hn : gs_pl s' ≤ gs_n K) : gr_X t' K s' lf' := by
  obtain ⟨L, B, C, W, P, l7, Hp, Hs, ⟨us, nd, n1, n2, n3, n4, n5⟩, N1, N2⟩ := X
  have e := k.sm
  have z : ∀ i, i ≠ 6 → i ≠ 7 → i ≠ 8 → t'.1 0 i = t.1 0 i := fun i a b c => k.2 0 i (fun _ => ⟨a, b, c⟩)
  have h1 : gs_hp s' = gs_hp s := by unfold gs_hp; rw [hs]
  have h2 : gs_hs s' = gs_hs s := by unfold gs_hs; rw [hs]
  refine ⟨⟨?_, ?_, ?_, ?_⟩, ⟨?_, B.2.1, ?_⟩, C.of e.2 e.1, W, ⟨h6, hn⟩, h7, ?_, Hs.sm gs_kk.refl e.s2 (z 28 (by decide) (by decide) (by decide)) (by rw [hs]), ⟨us, nd, ?_, by omega, ?_, by omega, n5.sm gs_kk.refl e.s2 hs⟩, by rw [h1]; omega, by rw [h2]; omega⟩
  · rw [z _ (by decide) (by decide) (by decide)]; exact L.1
  · rw [z _ (by decide) (by decide) (by decide)]; exact L.2.1
  · rw [z _ (by decide) (by decide) (by decide)]; exact L.2.2.1
  · rw [z _ (by decide) (by decide) (by decide)]; exact L.2.2.2
  · rw [z _ (by decide) (by decide) (by decide)]; exact B.1
  · intro i hi; rw [e.2 _ _ (by decide)]; exact B.2.2 i hi
  · rw [h1]; exact Hp.sm gs_kk.refl e.s2 (z 25 (by decide) (by decide) (by decide)) (z 23 (by decide) (by decide) (by decide))
  · rw [z _ (by decide) (by decide) (by decide)]; exact n1
  · rw [z _ (by decide) (by decide) (by decide)]; exact n3
theorem M_object {v w : Int32} (hd : 1 ≤ d) (X : gr_X t K s lf) : gm_Ca E d 48 [.ref m, .int v, .int w] (gr_H h m t) (gx_v (some (.int (gs_object s v w))) (gr_H h m t)) := m_object hd X.2.2.2.2.2.2.1
theorem M_value {v w : Int32} (hd : 1 ≤ d) (X : gr_X t K s lf) : gm_Ca E d 49 [.ref m, .int v, .int w] (gr_H h m t) (gx_v (some (.long (gs_value s v w))) (gr_H h m t)) := m_value hd X.2.1 X.2.2.2.2.2.2.1
theorem gs_blk_pl {q : Int32 × gs_S} (e : gs_blk K s = .ok q) (hp : gs_pl s ≤ gs_n K) : q.2.2 = s.2 ∧ gs_pl s ≤ gs_pl q.2 ∧ gs_pl q.2 ≤ gs_n K := by
  unfold gs_blk gs_b at e
  cases e1 : gs_u1 K s with
  | error f => rw [e1] at e; cases e
  | ok a =>
    rw [e1] at e
    dsimp only at e
    have a1 : a.2 = gs_p (gs_pl s + 1) s ∧ gs_pl s + 1 ≤ gs_n K := by
      unfold gs_u1 gs_b at e1
      cases e2 : gs_nxt K 1 s with
      | error f => rw [e2] at e1; cases e1
      | ok b =>
        rw [e2] at e1
        cases e1
        obtain ⟨b1, b2⟩ := gs_nxt_eq (v := b.1) (s1 := b.2) e2
        refine ⟨b2, ?_⟩
        have := gs_nxt_ok (v := b.1) (s1 := b.2) e2
        omega
    have g : ∀ k, ∀ b : Int64 × gs_S, gs_nxt K k a.2 = .ok b → b.2.2 = s.2 ∧ gs_pl s ≤ gs_pl b.2 ∧ gs_pl b.2 ≤ gs_n K := by
      intro k b hb
      obtain ⟨b1, b2⟩ := gs_nxt_eq (v := b.1) (s1 := b.2) hb
      have := gs_nxt_ok (v := b.1) (s1 := b.2) hb
      rw [a1.1] at b2 this
      have z : gs_pl (gs_p (gs_pl s + 1) s) = gs_pl s + 1 := rfl
      rw [z] at b2 this
      rw [b2]
      refine ⟨rfl, ?_, ?_⟩
      · show gs_pl s ≤ gs_pl s + 1 + k; omega
      · show gs_pl s + 1 + k ≤ gs_n K; omega
    have fin : ∀ b : Int32 × gs_S, (b.2.2 = s.2 ∧ gs_pl s ≤ gs_pl b.2 ∧ gs_pl b.2 ≤ gs_n K) → (if b.1 < 0 then (.error (-4) : Except Int32 (Int32 × gs_S)) else if gs_n K - gs_pl b.2 < b.1.toNatClampNeg then .error (-3) else .ok (b.1, gs_p (gs_pl b.2 + b.1.toNatClampNeg) b.2)) = .ok q → q.2.2 = s.2 ∧ gs_pl s ≤ gs_pl q.2 ∧ gs_pl q.2 ≤ gs_n K := by
      intro b hb z
      by_cases c1 : b.1 < 0
      · rw [if_pos c1] at z; cases z
      · rw [if_neg c1] at z
        by_cases c2 : gs_n K - gs_pl b.2 < b.1.toNatClampNeg
        · rw [if_pos c2] at z; cases z
        · rw [if_neg c2] at z
          cases z
          refine ⟨hb.1, ?_, ?_⟩
          · show gs_pl s ≤ gs_pl b.2 + b.1.toNatClampNeg; omega
          · show gs_pl b.2 + b.1.toNatClampNeg ≤ gs_n K; omega
    by_cases c : a.1 = 119
    · rw [if_pos c] at e
      unfold gs_u1 gs_b at e
      cases e3 : gs_nxt K 1 a.2 with
      | error f => rw [e3] at e; cases e
      | ok b => rw [e3] at e; exact fin (b.1.toInt32, b.2) (g 1 b e3) e
    · rw [if_neg c] at e
      unfold gs_u4 gs_b at e
      cases e3 : gs_nxt K 4 a.2 with
      | error f => rw [e3] at e; cases e
      | ok b => rw [e3] at e; exact fin (b.1.toInt32, b.2) (g 4 b e3) e
theorem M_passBlock (hd : 4 ≤ d) (X : gr_X t K s lf) : gm_Ca E d 47 [.ref m] (gr_H h m t) (fun r h' => r = .inl (some (.int (gs_pass K s lf).1)) ∧ ∃ t', h' = gr_H h m t' ∧ gr_X t' K (gs_pass K s lf).2.1 (gs_pass K s lf).2.2) := by
  refine gm_Ca.mono (m_passBlock (lf := lf) hd X.2.1 X.2.2.2.2.1.1 X.2.2.2.2.1.2 X.2.2.2.2.2.1) (fun r h' q => ?_)
  obtain ⟨q1, t', q2, q3, q4, q5⟩ := q
  refine ⟨q1, t', q2, ?_⟩
  have hp := X.2.2.2.2.1.2
  have g : (gs_pass K s lf).2.1.2 = s.2 ∧ gs_pl s ≤ gs_pl (gs_pass K s lf).2.1 ∧ gs_pl (gs_pass K s lf).2.1 ≤ gs_n K := by
    unfold gs_pass
    split
    · exact ⟨rfl, Nat.le_refl _, hp⟩
    · split
      · exact ⟨rfl, Nat.le_refl _, hp⟩
      · cases e : gs_blk K s with
        | ok w => exact gs_blk_pl e hp
        | error f => exact ⟨rfl, Nat.le_refl _, hp⟩
  exact X.of q3 g.1 q4 q5 g.2.1 g.2.2
theorem M_begin (hd : 3 ≤ d) (X : gr_X t K s lf) : gm_Ca E d 14 [.ref m] (gr_H h m t) (fun r h' => r = .inl (some (.int (gs_begin K).1)) ∧ ∃ t', h' = gr_H h m t' ∧ gr_X t' K ((gs_begin K).2.1, [], [], 0) (gs_begin K).2.2) := by
  refine gm_Ca.mono (m_begin hd X.2.1) (fun r h' q => ?_)
  obtain ⟨q1, t', q2, k, e0, q4, q5⟩ := q
  refine ⟨q1, t', q2, ?_⟩
  obtain ⟨L, B, C, W, P, l7, Hp, Hs, ⟨us, nd, n1, n2, n3, n4, n5⟩, N1, N2⟩ := X
  have e := k.sm
  have z : ∀ i, i ≤ 5 → t'.1 0 i = t.1 0 i := fun i a => k.2 0 i (fun _ => by omega)
  have hb : (gs_begin K).2.1 ≤ gs_n K := by
    unfold gs_begin
    split
    · exact Nat.zero_le _
    · split
      · exact Nat.zero_le _
      · show 4 ≤ gs_n K; omega
  refine ⟨⟨?_, ?_, ?_, ?_⟩, ⟨?_, B.2.1, ?_⟩, C.of e.2 e.1, W, ⟨q4, hb⟩, q5, ⟨0, e0.2.1, Nat.zero_le _, e0.1, Nat.zero_le _, fun i o ho => by simp [gs_hp] at ho⟩, ⟨e0.2.2.1, Nat.zero_le _, Nat.zero_le _, fun i q hi => absurd hi (Nat.not_lt_zero i)⟩, ⟨0, 0, e0.2.1, Nat.zero_le _, e0.2.2.2, Nat.zero_le _, gr_Z.nil⟩, Nat.zero_le _, Nat.zero_le _⟩
  · rw [z _ (by decide)]; exact L.1
  · rw [z _ (by decide)]; exact L.2.1
  · rw [z _ (by decide)]; exact L.2.2.1
  · rw [z _ (by decide)]; exact L.2.2.2
  · rw [z _ (by decide)]; exact B.1
  · intro i hi; rw [e.2 _ _ (by decide)]; exact B.2.2 i hi
theorem M_count {w : Int32} (X : gr_X t K s lf) : gm_Ca E d 50 [.ref m, .int w] (gr_H h m t) (gx_v (some (.int (gs_count K s lf w))) (gr_H h m t)) := by
  obtain ⟨L, B, C, W, P, l7, ⟨us, u1, u2, u3, u4, u5⟩, Hs, -⟩ := X
  have q := m_count (E := E) (d := d) (m := m) (h := h) (t := t) (w := w)
  rw [P.1, Hs.1, u3, l7, B.1] at q
  exact q
end MP
/-! THE REFERENCE, 25: define, constant, field, put keep the relation. -/
section MQ
variable {E : Nat → Value} {d m : Nat} {h : gm_H} {t t' : gr_t} {K : gs_K} {s : gs_S} {lf : Int32}
theorem gr_X.ofK {K' : gs_K} {lf' : Int32} (X : gr_X t K s lf) (L' : gr_lm t' K') (B' : gr_B t' K') (C' : gr_C t' K') (W' : gs_wf K' ∧ gs_ndK K') (kk : gs_kk K K') (s2 : gr_s2 t t') (z : ∀ i, (6 ≤ i ∧ i ≠ 7 ∧ i ≠ 8 ∧ i ≠ 9 ∧ i ≠ 47) → t'.1 0 i = t.1 0 i) (h7 : t'.1 0 7 = lf') : gr_X t' K' s lf' := by
  obtain ⟨L, B, C, W, P, l7, Hp, Hs, ⟨us, nd, n1, n2, n3, n4, n5⟩, N1, N2⟩ := X
  refine ⟨L', B', C', W', ⟨by rw [z _ (by decide)]; exact P.1, by have := kk.1; omega⟩, h7, Hp.sm kk s2 (z 25 (by decide)) (z 23 (by decide)), Hs.sm kk s2 (z 28 (by decide)) rfl, ⟨us, nd, by rw [z _ (by decide)]; exact n1, n2, by rw [z _ (by decide)]; exact n3, n4, n5.sm kk s2 rfl⟩, N1, N2⟩
theorem gr_X.h6 (X : gr_X t K s lf) : ∀ c, 6 ≤ c → gs_cls K c = none := fun x hx => by
  cases ex : gs_cls K x with
  | none => rfl
  | some D => exact absurd (X.2.2.2.1.1 x D ex).1 (by omega)
theorem gs_wf.set {c : Nat} {C : gs_C} (hw : gs_wf K) (hc : c < 6) (hs : ∀ y, gs_sup C = some y → y < c ∧ (gs_cls K y).isSome = true) : gs_wf (gs_def1 K c C) := by
  have cl : ∀ x, gs_cls (gs_def1 K c C) x = if x = c then some C else gs_cls K x := fun _ => rfl
  have up : ∀ y, (gs_cls K y).isSome = true → (gs_cls (gs_def1 K c C) y).isSome = true := fun y hy => by
    rw [cl]
    by_cases e : y = c
    · rw [if_pos e]; rfl
    · rw [if_neg e]; exact hy
  intro x D hD
  rw [cl] at hD
  by_cases e : x = c
  · rw [if_pos e] at hD
    cases hD
    exact ⟨by omega, fun y hy => ⟨by have := (hs y hy).1; omega, up y (hs y hy).2⟩⟩
  · rw [if_neg e] at hD
    exact ⟨(hw x D hD).1, fun y hy => ⟨((hw x D hD).2 y hy).1, up y ((hw x D hD).2 y hy).2⟩⟩
theorem gs_kk.def1 {c : Nat} {C : gs_C} : gs_kk K (gs_def1 K c C) := by
  refine ⟨Nat.le_refl _, fun _ _ => rfl, fun y hy => ?_⟩
  show (if y = c then some C else gs_cls K y).isSome = true
  by_cases e : y = c
  · rw [if_pos e]; rfl
  · rw [if_neg e]; exact hy
/-- a class set -/
theorem gr_X.def1 {c : Nat} {C : gs_C} (X : gr_X t K s lf) (hc : c < 6) (hs : ∀ y, gs_sup C = some y → y < c ∧ (gs_cls K y).isSome = true) (nd : gs_nd (gs_fs C)) (C' : gr_C t' (gs_def1 K c C)) (z : ∀ o i, (o = 0 ∨ o = 1 ∨ 10 ≤ o) → t'.1 o i = t.1 o i) (z2 : ∀ o i, 10 ≤ o → t'.2 o i = t.2 o i) : gr_X t' (gs_def1 K c C) s lf := by
  obtain ⟨L, B, -, W, -⟩ := id X
  refine X.ofK ⟨by rw [z _ _ (by simp)]; exact L.1, by rw [z _ _ (by simp)]; exact L.2.1, by rw [z _ _ (by simp)]; exact L.2.2.1, by rw [z _ _ (by simp)]; exact L.2.2.2⟩ ⟨by rw [z _ _ (by simp)]; exact B.1, B.2.1, fun i hi => by rw [z _ _ (by simp)]; exact B.2.2 i hi⟩ C' ⟨W.1.set hc hs, W.2.set nd⟩ gs_kk.def1 ⟨fun o i ho => z2 o i ho.1, fun o i ho => z o i (Or.inr (Or.inr ho.1))⟩ (fun i _ => z 0 i (Or.inl rfl)) (by rw [z _ _ (by simp)]; exact X.2.2.2.2.2.1)
theorem M_define {n k u : Int32} {id : Int64} (hd : 2 ≤ d) (X : gr_X t K s lf) : gm_Ca E d 6 [.ref m, .int n, .int k, .int u, .long id] (gr_H h m t) (fun r h' => if gs_defok K n k u = true then r = .inl (some (.int 0)) ∧ ∃ t', h' = gr_H h m t' ∧ gr_X t' (gs_def1 K n.toNatClampNeg (k, gs_defsup u, id, [], false, 0)) s lf else r = .inl (some (.int (-1))) ∧ h' = gr_H h m t) := by
  refine gm_Ca.mono (m_define hd X.2.2.1 X.h6) (fun r h' q => ?_)
  by_cases ok : gs_defok K n k u = true
  · rw [if_pos ok] at q ⊢
    refine ⟨q.1, _, q.2, X.def1 ?_ ?_ gs_nd_nil (X.2.2.1.define ok) ?_ ?_⟩
    · have o := ok
      unfold gs_defok at o
      simp only [Bool.and_eq_true, decide_eq_true_eq] at o
      obtain ⟨⟨⟨⟨⟨⟨⟨o1, o2⟩, -⟩, -⟩, -⟩, -⟩, -⟩, -⟩ := o
      obtain ⟨c, hc, rfl⟩ := nI_of (Int32.not_lt.mpr o1)
      rw [nI_clamp hc]
      exact (nI_ltI (b := 6) hc (by decide)).mp o2
    · intro y hy
      have o := ok
      unfold gs_defok at o
      simp only [Bool.and_eq_true, decide_eq_true_eq] at o
      obtain ⟨⟨⟨⟨⟨⟨⟨o1, o2⟩, -⟩, -⟩, -⟩, o6⟩, -⟩, o8⟩ := o
      have hy : gs_defsup u = some y := hy
      unfold gs_defsup at hy
      by_cases u0 : u < 0
      · rw [if_pos u0] at hy; cases hy
      · rw [if_neg u0] at hy
        cases hy
        obtain ⟨c, hc, rfl⟩ := nI_of (Int32.not_lt.mpr o1)
        obtain ⟨x, hx, rfl⟩ := nI_of u0
        rw [nI_clamp hc]
        rw [nI_clamp hx] at o8 ⊢
        refine ⟨?_, ?_⟩
        · rcases Nat.lt_or_ge x c with z | z
          · exact z
          · exact absurd o6 (nI_nlt z hx)
        cases e : gs_cls K x with
        | none => rw [e] at o8; simp [u0] at o8
        | some D => rfl
    · intro o i ho
      unfold gr_def
      rw [gr_ul_1, gr_ui_no (by omega), gr_ui_no (by omega)]
    · intro o i ho
      unfold gr_def
      rw [gr_ul_no (by omega)]; rfl
  · rw [if_neg ok] at q ⊢
    exact q
theorem M_constant {n nm on : Int32} (hd : 2 ≤ d) (X : gr_X t K s lf) (hon : on = 0 ∨ on = 1) : gm_Ca E d 8 [.ref m, .int n, .int nm, .int on] (gr_H h m t) (fun r h' => r = .inl (some (.int (gs_cst K n nm on).1)) ∧ ∃ t', h' = gr_H h m t' ∧ gr_X t' (gs_cst K n nm on).2 s lf) := by
  refine gm_Ca.mono (m_constant hd X.2.2.1 X.h6) (fun r h' q => ?_)
  refine ⟨q.1, _, q.2, ?_⟩
  unfold gr_cst gs_cst
  cases e : gs_cn K n with
  | none => exact X
  | some c =>
    dsimp only
    cases hC : gs_cls K c with
    | none => exact X
    | some C =>
      dsimp only
      obtain ⟨w1, w2⟩ := X.2.2.2.1.1 c C hC
      by_cases k3 : gs_kind C = 3
      · rw [if_pos k3, if_pos k3]
        by_cases b : nm < 0 ∨ 26 ≤ nm
        · rw [if_pos b, if_pos b]; exact X
        · rw [if_neg b, if_neg b]
          exact X.def1 w1 w2 (X.2.2.2.1.2 c C hC) (X.2.2.1.constK w1 hC) (fun o i ho => gr_ui_no (by omega)) (fun _ _ _ => rfl)
      · rw [if_neg k3, if_neg k3]
        exact X.def1 w1 w2 (X.2.2.2.1.2 c C hC) (X.2.2.1.constB w1 hC hon) (fun o i ho => gr_ui_no (by omega)) (fun _ _ _ => rfl)
theorem M_field {n nm ty : Int32} (hd : 2 ≤ d) (X : gr_X t K s lf) : gm_Ca E d 7 [.ref m, .int n, .int nm, .int ty] (gr_H h m t) (fun r h' => r = .inl (some (.int (gs_fld K s n nm ty).1)) ∧ ∃ t', h' = gr_H h m t' ∧ gr_X t' (gs_fld K s n nm ty).2 s lf) := by
  have hh : t.1 0 23 = nI (gs_hp s).length := by
    obtain ⟨us, -, -, u3, -⟩ := X.2.2.2.2.2.2.1
    exact u3
  have h234 : (gs_hp s).length ≤ 234 := by
    have a := X.2.2.2.2.2.2.2.2.2.1
    have b := X.2.2.2.2.1.2
    have c := X.2.1.2.1
    omega
  refine gm_Ca.mono (m_field hd X.2.2.1 X.h6 hh h234) (fun r h' q => ?_)
  refine ⟨q.1, _, q.2, ?_⟩
  unfold gs_fld
  cases e : gs_cn K n with
  | none => exact X
  | some c =>
    dsimp only
    cases hC : gs_cls K c with
    | none => exact X
    | some C =>
      dsimp only
      obtain ⟨w1, w2⟩ := X.2.2.2.1.1 c C hC
      by_cases b : gs_kind C = 3 ∨ (nm < 0 ∨ 26 ≤ nm) ∨ ty < 0 ∨ 7 < ty ∨ gs_hp s ≠ [] ∨ (gs_fs C).length = 4 ∨ (gs_ix (gs_fs C) nm).isSome = true
      · rw [if_pos b, if_pos b]; exact X
      · rw [if_neg b, if_neg b]
        refine X.def1 w1 w2 ?_ (X.2.2.1.field w1 hC (fun z => b (by simp [z]))) ?_ (fun _ _ _ => rfl)
        · refine gs_nd_app (X.2.2.2.1.2 c C hC) (fun z => b (by simp [z])) ?_
          cases ex : gs_ix (gs_fs C) nm with
          | none => rfl
          | some j => exact absurd (by simp [ex]) b
        · intro o i ho
          unfold gr_fld
          rw [gr_ui_no (by omega), gr_ui_no (by omega), gr_ui_no (by omega)]
end MQ
/-! THE REFERENCE, 26: put; a new one stands for nothing read. -/
section MR
variable {E : Nat → Value} {d m : Nat} {h : gm_H} {t t' : gr_t} {K : gs_K} {s : gs_S} {lf : Int32}
theorem gr_C.of2 {K' : gs_K} (Cl : gr_C t K) (h1 : ∀ o i, 2 ≤ o → t'.1 o i = t.1 o i) (h2 : t'.2 = t.2) (hk : gs_cls K' = gs_cls K) : gr_C t' K' := by
  intro c hc
  have q := Cl c hc
  rw [h1 _ _ (by decide), h1 _ _ (by decide), h1 _ _ (by decide), h1 _ _ (by decide), hk]
  cases e : gs_cls K c with
  | none => rw [e] at q; exact q
  | some C =>
    rw [e] at q
    obtain ⟨q1, q2, q3, q4, q5, q6, q7, q8, q9⟩ := q
    refine ⟨q1, q2, by rw [h1 _ _ (by decide)]; exact q3, by rw [h2]; exact q4, q5, q6, q7, q8, fun j p hp => ?_⟩
    rw [h1 _ _ (by decide), h1 _ _ (by decide)]
    exact q9 j p hp
theorem gr_X.put1 {u : UInt8} (X : gr_X t K s lf) (hn : gs_n K < 700) : gr_X (gr_put1 t (gs_n K) u) (gs_put1 K u) s lf := by
  obtain ⟨L, B, C, W, -⟩ := id X
  have z : ∀ o i, 2 ≤ o → (gr_put1 t (gs_n K) u).1 o i = t.1 o i := fun o i ho => by
    unfold gr_put1
    rw [gr_ui_no (by omega), gr_ui_no (by omega)]
  have z0 : ∀ i, i ≠ 5 → (gr_put1 t (gs_n K) u).1 0 i = t.1 0 i := fun i hi => by
    unfold gr_put1
    rw [gr_ui_ni hi, gr_ui_no (by decide)]
  refine X.ofK ⟨by rw [z0 _ (by decide)]; exact L.1, by rw [z0 _ (by decide)]; exact L.2.1, by rw [z0 _ (by decide)]; exact L.2.2.1, by rw [z0 _ (by decide)]; exact L.2.2.2⟩ (B.put1 hn) (C.of2 z rfl rfl) W ⟨Nat.le_succ _, fun i hi => ?_, fun _ y => y⟩ ⟨fun _ _ _ => rfl, fun o i ho => z o i (by omega)⟩ (fun i hi => z0 i (by omega)) (by rw [z0 _ (by decide)]; exact X.2.2.2.2.2.1)
  show (if i = gs_n K then u else gs_by K i) = gs_by K i
  rw [if_neg (by omega)]
theorem gr_X.puts {v : Int64} : ∀ (k : Nat) (t : gr_t) (K : gs_K), gr_X t K s lf → gs_n K + k ≤ 700 → gr_X (gr_puts t (gs_n K) v k) (gs_puts K v k) s lf
  | 0, _, _, X, _ => X
  | k + 1, t, K, X, hn => by
    have q := gr_X.puts (v := v) k _ _ (X.put1 (u := gs_pb v k) (by omega)) (by show gs_n K + 1 + k ≤ 700; omega)
    exact q
theorem M_put {v : Int64} {c : Int32} (X : gr_X t K s lf) : gm_Ca E d 9 [.ref m, .long v, .int c] (gr_H h m t) (fun r h' => r = .inl (some (.int (gs_putr K v c).1)) ∧ ∃ t', h' = gr_H h m t' ∧ gr_X t' (gs_putr K v c).2 s lf) := by
  refine gm_Ca.mono (m_put X.2.1) (fun r h' q => ?_)
  refine ⟨q.1, _, q.2, ?_⟩
  unfold gs_putr
  by_cases b : c < 1 ∨ 8 < c ∨ 700 < gs_n K + c.toNatClampNeg
  · rw [if_pos b, if_pos b]; exact X
  · rw [if_neg b, if_neg b]
    exact gr_X.puts _ t K X (by
      rcases Nat.lt_or_ge 700 (gs_n K + c.toNatClampNeg) with z | z
      · exact absurd (Or.inr (Or.inr z)) b
      · exact z)
/-- as the reference reads: a rest without a byte begins a read; null stands at first in an array of references -/
def gs_ref1 (K : gs_K) : gs_K := (K.1, K.2.1, K.2.2.1, K.2.2.2.1, true, -2)
theorem gr_X.new {p q r u : Int32} : gr_X (gr_t0 p q r u) (gs_ref1 (gs_K0 p q r u)) (0, [], [], 0) 0 := by
  have e : ∀ (o i : Nat), o ≠ 2 → (gr_t0 p q r u).1 o i = (gr_ui (gr_ui (gr_ui (gr_ui (fun _ _ => 0, fun _ _ => 0) 0 0 (gs_cl p 1 8)) 0 1 (gs_cl q 1 60)) 0 2 (gs_cl r 0 20)) 0 3 (gs_cl u 4 700)).1 o i := fun o i ho => by
    unfold gr_t0
    simp only [gr_nok]
    rw [gr_ui_no ho, gr_ui_no ho, gr_ui_no ho, gr_ui_no ho, gr_ui_no ho, gr_ui_no ho]
  have e0 : ∀ (o i : Nat), o ≠ 2 → (o ≠ 0 ∨ 4 ≤ i) → (gr_t0 p q r u).1 o i = 0 := fun o i ho hi => by
    rw [e o i ho]
    rcases hi with z | z
    · rw [gr_ui_no z, gr_ui_no z, gr_ui_no z, gr_ui_no z]
    · rw [gr_ui_ni (by omega), gr_ui_ni (by omega), gr_ui_ni (by omega), gr_ui_ni (by omega)]
  have z0 : ∀ i, 4 ≤ i → (gr_t0 p q r u).1 0 i = 0 := fun i hi => e0 0 i (by decide) (Or.inr hi)
  refine ⟨⟨?_, ?_, ?_, ?_⟩, ⟨z0 5 (by decide), Nat.zero_le _, fun i hi => absurd hi (Nat.not_lt_zero i)⟩, ?_, ⟨fun c C hC => (by cases hC), fun c C hC => (by cases hC)⟩, ⟨z0 6 (by decide), Nat.zero_le _⟩, z0 7 (by decide), ⟨0, z0 25 (by decide), Nat.zero_le _, z0 23 (by decide), Nat.zero_le _, fun i o ho => by simp [gs_hp] at ho⟩, ⟨z0 28 (by decide), Nat.zero_le _, Nat.zero_le _, fun i q hi => absurd hi (Nat.not_lt_zero i)⟩, ⟨0, 0, z0 25 (by decide), Nat.zero_le _, z0 39 (by decide), Nat.zero_le _, gr_Z.nil⟩, Nat.zero_le _, Nat.zero_le _⟩
  · rw [e _ _ (by decide), gr_ui_ni (by decide), gr_ui_ni (by decide), gr_ui_ni (by decide), gr_ui_eq]; rfl
  · rw [e _ _ (by decide), gr_ui_ni (by decide), gr_ui_ni (by decide), gr_ui_eq]; rfl
  · rw [e _ _ (by decide), gr_ui_ni (by decide), gr_ui_eq]; rfl
  · rw [e _ _ (by decide), gr_ui_eq]; rfl
  · intro c hc
    show (gr_t0 p q r u).1 2 c = -1 ∧ (gr_t0 p q r u).1 5 c = 0 ∧ (gr_t0 p q r u).1 8 c = 0 ∧ (gr_t0 p q r u).1 9 c = 0
    refine ⟨?_, e0 5 c (by decide) (Or.inl (by decide)), e0 8 c (by decide) (Or.inl (by decide)), e0 9 c (by decide) (Or.inl (by decide))⟩
    unfold gr_t0
    simp only [gr_nok]
    rcases (by omega : c = 0 ∨ c = 1 ∨ c = 2 ∨ c = 3 ∨ c = 4 ∨ c = 5) with rfl | rfl | rfl | rfl | rfl | rfl
    · rw [gr_ui_ni (by decide), gr_ui_ni (by decide), gr_ui_ni (by decide), gr_ui_ni (by decide), gr_ui_ni (by decide), gr_ui_eq]
    · rw [gr_ui_ni (by decide), gr_ui_ni (by decide), gr_ui_ni (by decide), gr_ui_ni (by decide), gr_ui_eq]
    · rw [gr_ui_ni (by decide), gr_ui_ni (by decide), gr_ui_ni (by decide), gr_ui_eq]
    · rw [gr_ui_ni (by decide), gr_ui_ni (by decide), gr_ui_eq]
    · rw [gr_ui_ni (by decide), gr_ui_eq]
    · rw [gr_ui_eq]
end MR
/-! THE REFERENCE, 27: read where a fault lasts; where nothing is there. -/
section MS
variable {E : Nat → Value} {d m : Nat} {h : gm_H} {t t' : gr_t} {K : gs_K} {s : gs_S} {lf : Int32}
theorem M_readF (X : gr_X t K s lf) (hl : lf ≠ 0) : gm_Ca E d 46 [.ref m] (gr_H h m t) (fun r h' => r = .inl (some (.int (gs_read K s lf).1)) ∧ ∃ t', h' = gr_H h m t' ∧ gr_X t' K (gs_read K s lf).2.1 (gs_read K s lf).2.2) := by
  have e : gs_read K s lf = (lf, s, lf) := by unfold gs_read; rw [if_pos hl]
  rw [e]
  have l7 := X.2.2.2.2.2.1
  obtain ⟨Q, hQ⟩ : ∃ Q : gm_R → gm_H → Prop, Q = (fun r h' => r = .inl (some (.int lf)) ∧ ∃ t', h' = gr_H h m t' ∧ gr_X t' K s lf) := ⟨_, rfl⟩
  show gm_Ca E d 46 [.ref m] (gr_H h m t) (fun r h' => r = .inl (some (.int lf)) ∧ ∃ t', h' = gr_H h m t' ∧ gr_X t' K s lf)
  rw [← hQ]
  show gm_W E d 46 0 [.ref m, gm_u, gm_u, gm_u, gm_u, gm_u, gm_u] [] (gr_H h m t) Q
  simp only [r46_0, r46_0n, r46_1, r46_4, r46_7, r46_7n, r46_8, r46_11, r46_12, r46_12n, r46_13, r46_16, r46_17, r46_17n, r46_18, r46_21, r46_22, r46_22n, r46_23, r46_26, r46_27, r46_27n, r46_28, r46_31, r46_33, r46_33n, r46_34, r46_37, r46_39, r46_40, r46_42, r46_44, r46_44n, r46_45, r46_48, r46_51, r46_51n, r46_52, r46_55, r46_57, r46_57n, r46_58, r46_61, r46_63, r46_64, r46_65, r46_65n, r46_66, r46_69, r46_71, r46_71n, r46_72, r46_75, r46_77, r46_78, r46_79, r46_82, r46_85, r46_85n, r46_86, r46_87, r46_90, r46_90n, r46_91, r46_92, r46_95, r46_95n, r46_96, r46_97, r46_98, r46_99, r46_103, r46_103n, r46_104, r46_107, r46_110, r46_110n, r46_111, r46_114, r46_117, r46_117n, r46_121, r46_124, r46_124n, r46_125, r46_128, r46_131, r46_131n, r46_132, r46_135, r46_136, r46_136n, r46_137, r46_138, r46_141, r46_141n, r46_142, r46_143, r46_146, r46_146n, r46_147, r46_148, r46_151, r46_151n, r46_152, r46_154, r46_157, r46_157n, r46_158, r46_160, r46_163, r46_164, r46_166, r46_168, r46_168n, r46_169, r46_172, r46_175, r46_175n, r46_176, r46_179, r46_181, r46_181n, r46_182, r46_185, r46_187, r46_188, r46_189, r46_189n, r46_190, r46_193, r46_195, r46_195n, r46_196, r46_199, r46_201, r46_202, r46_203, r46_206, r46_209, r46_209n, r46_210, r46_213, r46_215, r46_218, r46_218n, r46_219, r46_219n, r46_220, r46_223, r46_226, r46_226n, r46_227, r46_230, i32_10, reduceIte, gm_cmp1, gm_cmp3, gm_cmp4, gm_kd_sf, gm_ln_sf, gm_sf_1, gm_sf_2, gm_nw_1, gm_nw_2, gm_k_int, gm_k_ref, gm_k_null, gm_k_u, gm_k_long, and_true, true_and, true_or, or_true, or_false, false_or, and_self, or_self, if_true, if_false, List.map_nil, List.map_cons, List.sum_nil, List.sum_cons, Nat.zero_le, Option.toList_some, Option.toList_none, List.cons_append, List.nil_append, ne_eq, not_false_eq_true, not_true_eq_false, nI_1, nI_add, Value.category, Nat.reduceAdd, Nat.reduceMod, Nat.reduceLeDiff, Nat.reduceLT, Nat.reduceEqDiff, Nat.reducePow, Nat.le_refl, Nat.add_left_cancel_iff, Nat.add_eq_left, Nat.left_eq_add, Nat.add_zero, g_k0, g_k1, g_l1, g_p4, g_a1, g_w1, g_k2, g_l2, g_p10, g_a2, g_w2, g_k3, g_l3, g_p11, g_a3, g_w3, g_k4, g_l4, g_p12, g_a4, g_w4, g_k5, g_l5, g_p13, g_a5, g_w5, g_k6, g_l6, g_p14, g_a6, g_w6, g_k7, g_l7, g_p15, g_a7, g_w7, g_k8, g_l8, g_p16, g_a8, g_w8, g_k9, g_l9, g_p17, g_a9, g_w9, g_k10, g_l10, g_p18, g_a10, g_w10, g_k11, g_l11, g_p19, g_a11, g_w11, g_k12, g_l12, g_p20, g_a12, g_w12, g_k13, g_l13, g_p21, g_a13, g_w13, g_k14, g_l14, g_p22, g_a14, g_w14, g_k15, g_l15, g_p24, g_a15, g_w15, g_k16, g_l16, g_p26, g_a16, g_w16, g_k17, g_l17, g_p27, g_a17, g_w17, g_k18, g_l18, g_p29, g_a18, g_w18, g_k19, g_l19, g_p30, g_a19, g_w19, g_k20, g_l20, g_p31, g_a20, g_w20, g_k21, g_l21, g_p32, g_a21, g_w21, g_k22, g_l22, g_p33, g_a22, g_w22, g_k23, g_l23, g_p34, g_a23, g_w23, g_k24, g_l24, g_p35, g_a24, g_w24, g_k25, g_l25, g_p36, g_a25, g_w25, g_k26, g_l26, g_p37, g_a26, g_w26, g_k27, g_l27, g_p38, g_a27, g_w27, g_k28, g_l28, g_p40, g_a28, g_w28, g_k29, g_l29, g_p41, g_a29, g_w29, g_k30, g_l30, g_p42, g_a30, g_w30, g_k31, g_l31, g_p43, g_a31, g_w31, g_k32, g_l32, g_p44, g_a32, g_w32, g_k33, g_l33, g_p45, g_a33, g_w33, g_k34, g_l34, g_p46, g_a34, g_w34, g_f0, g_s0, g_f1, g_s1, g_f2, g_s2, g_f3, g_s3, g_f5, g_s5, g_f6, g_s6, g_f7, g_s7, g_f8, g_s8, g_f9, g_s9, g_f23, g_s23, g_f25, g_s25, g_f28, g_s28, g_f39, g_s39, g_f47, g_s47, gr_ui_eq, gr_ui_2, gr_ul_eq, gr_ul_1, gr_ui_no, gr_ui_ni, gr_ul_no, gr_ul_ni, l7, hl]
  rw [hQ]
  exact ⟨rfl, t, rfl, X⟩
/-- a step of a fresh frame READ where no byte is left -/
theorem m_step0 {n : Nat} (hd : 5 ≤ d) (h47 : t.1 0 47 = 1) (h28 : t.1 28 0 = 1) (h29 : t.1 29 0 = 0) (h30 : t.1 30 0 = 1) (he : t.1 0 28 = 0) (hn : t.1 0 5 = nI n) (hp : t.1 0 6 = nI n) (hn7 : n ≤ 700) (h8 : t.1 0 8 = 0) : gm_Ca E d 45 [.ref m] (gr_H h m t) (gx_v none (gr_H h m (gr_ui t 0 8 (-3)))) := by
  have ef : gr_fl t (-3) = gr_ui t 0 8 (-3) := by unfold gr_fl; rw [if_pos h8]
  obtain ⟨Q, hQ⟩ : ∃ Q : gm_R → gm_H → Prop, Q = gx_v none (gr_H h m (gr_ui t 0 8 (-3))) := ⟨_, rfl⟩
  have fin : Q (.inl none) (gr_H h m (gr_ui t 0 8 (-3))) := by rw [hQ]; exact ⟨rfl, rfl⟩
  have n3 : ¬ (-3 : Int32) = 0 := by decide
  have q1 : (1 : Int32) - 1 = nI 0 := by decide
  have l8 : ¬ (8 : Int32) < 1 := by decide
  have l60 : (0 : Int32) ≤ 60 := by decide
  have b80 : 0 < 80 := by decide
  have start : gm_Ca E (d - 2) 23 [.ref m, .int (nI 0)] (gr_H h m t) (gx_v none (gr_H h m (gr_ui t 0 8 (-3)))) := by
    rw [← hQ]
    show gm_W E (d - 2) 23 0 [.ref m, .int (nI 0), gm_u, gm_u, gm_u, gm_u] [] (gr_H h m t) Q
    simp only [r23_0, r23_0n, r23_1, r23_4, r23_5, r23_6, r23_8, r23_11, r23_11n, r23_12, r23_15, r23_17, r23_20, r23_20n, r23_21, r23_26, r23_27, r23_27n, r23_31, r23_32, r23_32n, r23_33, r23_36, r23_39, r23_40, r23_41, r23_43, r23_46, r23_46n, r23_47, r23_52, r23_55, r23_56, r23_58, r23_61, r23_61n, r23_62, r23_63, r23_67, r23_70, r23_71, r23_73, r23_76, r23_76n, r23_77, r23_78, r23_82, r23_83, r23_83n, r23_87, r23_89, r23_89n, r23_90, r23_93, r23_96, r23_97, r23_97n, r23_98, r23_99, r23_100, r23_102, r23_102n, r23_103, r23_106, r23_108, r23_112, r23_114, r23_114n, r23_115, r23_118, r23_119, r23_120, r23_121, r23_121n, r23_122, r23_125, r23_126, r23_128, r23_129, r23_129n, r23_130, r23_135, r23_138, r23_139, r23_141, r23_144, r23_145, r23_147, r23_150, r23_151, r23_153, r23_156, r23_157, r23_159, r23_162, r23_163, r23_165, r23_168, r23_168n, r23_169, r23_169i, r23_170, r23_173, r23_174, r23_175, r23_178, r23_178n, r23_179, r23_182, r23_183, r23_184, r23_186, r23_189, r23_191, r23_194, r23_195, r23_197, r23_200, r23_201, r23_204, r23_205, r23_207, r23_210, r23_211, r23_214, r23_215, r23_216, r23_216n, r23_217, r23_218, r23_218n, r23_219, r23_222, r23_223, r23_224, r23_225, r23_229, r23_232, r23_233, r23_235, r23_238, r23_238n, r23_239, r23_242, r23_243, r23_244, r23_245, r23_248, r23_248n, r23_249, r23_250, r23_253, r23_256, r23_257, r23_259, r23_262, r23_262n, r23_263, r23_268, r23_271, r23_271n, r23_272, r23_272n, r23_273, r23_276, r23_277, r23_278, r23_279, r23_282, r23_283, r23_285, r23_288, r23_289, r23_291, r23_294, r23_295, r23_297, r23_300, r23_302, r23_305, r23_310, i32_10, reduceIte, gm_cmp1, gm_cmp3, gm_cmp4, gm_kd_sf, gm_ln_sf, gm_sf_1, gm_sf_2, gm_nw_1, gm_nw_2, gm_k_int, gm_k_ref, gm_k_null, gm_k_u, gm_k_long, and_true, true_and, true_or, or_true, or_false, false_or, and_self, or_self, if_true, if_false, List.map_nil, List.map_cons, List.sum_nil, List.sum_cons, Nat.zero_le, Option.toList_some, Option.toList_none, List.cons_append, List.nil_append, ne_eq, not_false_eq_true, not_true_eq_false, nI_1, nI_add, Value.category, Nat.reduceAdd, Nat.reduceMod, Nat.reduceLeDiff, Nat.reduceLT, Nat.reduceEqDiff, Nat.reducePow, Nat.le_refl, Nat.add_left_cancel_iff, Nat.add_eq_left, Nat.left_eq_add, Nat.add_zero, g_k0, g_k1, g_l1, g_p4, g_a1, g_w1, g_k2, g_l2, g_p10, g_a2, g_w2, g_k3, g_l3, g_p11, g_a3, g_w3, g_k4, g_l4, g_p12, g_a4, g_w4, g_k5, g_l5, g_p13, g_a5, g_w5, g_k6, g_l6, g_p14, g_a6, g_w6, g_k7, g_l7, g_p15, g_a7, g_w7, g_k8, g_l8, g_p16, g_a8, g_w8, g_k9, g_l9, g_p17, g_a9, g_w9, g_k10, g_l10, g_p18, g_a10, g_w10, g_k11, g_l11, g_p19, g_a11, g_w11, g_k12, g_l12, g_p20, g_a12, g_w12, g_k13, g_l13, g_p21, g_a13, g_w13, g_k14, g_l14, g_p22, g_a14, g_w14, g_k15, g_l15, g_p24, g_a15, g_w15, g_k16, g_l16, g_p26, g_a16, g_w16, g_k17, g_l17, g_p27, g_a17, g_w17, g_k18, g_l18, g_p29, g_a18, g_w18, g_k19, g_l19, g_p30, g_a19, g_w19, g_k20, g_l20, g_p31, g_a20, g_w20, g_k21, g_l21, g_p32, g_a21, g_w21, g_k22, g_l22, g_p33, g_a22, g_w22, g_k23, g_l23, g_p34, g_a23, g_w23, g_k24, g_l24, g_p35, g_a24, g_w24, g_k25, g_l25, g_p36, g_a25, g_w25, g_k26, g_l26, g_p37, g_a26, g_w26, g_k27, g_l27, g_p38, g_a27, g_w27, g_k28, g_l28, g_p40, g_a28, g_w28, g_k29, g_l29, g_p41, g_a29, g_w29, g_k30, g_l30, g_p42, g_a30, g_w30, g_k31, g_l31, g_p43, g_a31, g_w31, g_k32, g_l32, g_p44, g_a32, g_w32, g_k33, g_l33, g_p45, g_a33, g_w33, g_k34, g_l34, g_p46, g_a34, g_w34, g_f0, g_s0, g_f1, g_s1, g_f2, g_s2, g_f3, g_s3, g_f5, g_s5, g_f6, g_s6, g_f7, g_s7, g_f8, g_s8, g_f9, g_s9, g_f23, g_s23, g_f25, g_s25, g_f28, g_s28, g_f39, g_s39, g_f47, g_s47, gr_ui_eq, gr_ui_2, gr_ul_eq, gr_ul_1, gr_ui_no, gr_ui_ni, gr_ul_no, gr_ul_ni, b80, h30, l8, he, l60]
    refine c23_28 (by simp) g_k0 (by omega) (m_next0 (by omega) hn hp hn7 (Nat.le_refl _)) (gx_kn ?_) gx_kx
    rw [ef]
    simp only [r23_0, r23_0n, r23_1, r23_4, r23_5, r23_6, r23_8, r23_11, r23_11n, r23_12, r23_15, r23_17, r23_20, r23_20n, r23_21, r23_26, r23_27, r23_27n, r23_31, r23_32, r23_32n, r23_33, r23_36, r23_39, r23_40, r23_41, r23_43, r23_46, r23_46n, r23_47, r23_52, r23_55, r23_56, r23_58, r23_61, r23_61n, r23_62, r23_63, r23_67, r23_70, r23_71, r23_73, r23_76, r23_76n, r23_77, r23_78, r23_82, r23_83, r23_83n, r23_87, r23_89, r23_89n, r23_90, r23_93, r23_96, r23_97, r23_97n, r23_98, r23_99, r23_100, r23_102, r23_102n, r23_103, r23_106, r23_108, r23_112, r23_114, r23_114n, r23_115, r23_118, r23_119, r23_120, r23_121, r23_121n, r23_122, r23_125, r23_126, r23_128, r23_129, r23_129n, r23_130, r23_135, r23_138, r23_139, r23_141, r23_144, r23_145, r23_147, r23_150, r23_151, r23_153, r23_156, r23_157, r23_159, r23_162, r23_163, r23_165, r23_168, r23_168n, r23_169, r23_169i, r23_170, r23_173, r23_174, r23_175, r23_178, r23_178n, r23_179, r23_182, r23_183, r23_184, r23_186, r23_189, r23_191, r23_194, r23_195, r23_197, r23_200, r23_201, r23_204, r23_205, r23_207, r23_210, r23_211, r23_214, r23_215, r23_216, r23_216n, r23_217, r23_218, r23_218n, r23_219, r23_222, r23_223, r23_224, r23_225, r23_229, r23_232, r23_233, r23_235, r23_238, r23_238n, r23_239, r23_242, r23_243, r23_244, r23_245, r23_248, r23_248n, r23_249, r23_250, r23_253, r23_256, r23_257, r23_259, r23_262, r23_262n, r23_263, r23_268, r23_271, r23_271n, r23_272, r23_272n, r23_273, r23_276, r23_277, r23_278, r23_279, r23_282, r23_283, r23_285, r23_288, r23_289, r23_291, r23_294, r23_295, r23_297, r23_300, r23_302, r23_305, r23_310, i32_10, reduceIte, gm_cmp1, gm_cmp3, gm_cmp4, gm_kd_sf, gm_ln_sf, gm_sf_1, gm_sf_2, gm_nw_1, gm_nw_2, gm_k_int, gm_k_ref, gm_k_null, gm_k_u, gm_k_long, and_true, true_and, true_or, or_true, or_false, false_or, and_self, or_self, if_true, if_false, List.map_nil, List.map_cons, List.sum_nil, List.sum_cons, Nat.zero_le, Option.toList_some, Option.toList_none, List.cons_append, List.nil_append, ne_eq, not_false_eq_true, not_true_eq_false, nI_1, nI_add, Value.category, Nat.reduceAdd, Nat.reduceMod, Nat.reduceLeDiff, Nat.reduceLT, Nat.reduceEqDiff, Nat.reducePow, Nat.le_refl, Nat.add_left_cancel_iff, Nat.add_eq_left, Nat.left_eq_add, Nat.add_zero, g_k0, g_k1, g_l1, g_p4, g_a1, g_w1, g_k2, g_l2, g_p10, g_a2, g_w2, g_k3, g_l3, g_p11, g_a3, g_w3, g_k4, g_l4, g_p12, g_a4, g_w4, g_k5, g_l5, g_p13, g_a5, g_w5, g_k6, g_l6, g_p14, g_a6, g_w6, g_k7, g_l7, g_p15, g_a7, g_w7, g_k8, g_l8, g_p16, g_a8, g_w8, g_k9, g_l9, g_p17, g_a9, g_w9, g_k10, g_l10, g_p18, g_a10, g_w10, g_k11, g_l11, g_p19, g_a11, g_w11, g_k12, g_l12, g_p20, g_a12, g_w12, g_k13, g_l13, g_p21, g_a13, g_w13, g_k14, g_l14, g_p22, g_a14, g_w14, g_k15, g_l15, g_p24, g_a15, g_w15, g_k16, g_l16, g_p26, g_a16, g_w16, g_k17, g_l17, g_p27, g_a17, g_w17, g_k18, g_l18, g_p29, g_a18, g_w18, g_k19, g_l19, g_p30, g_a19, g_w19, g_k20, g_l20, g_p31, g_a20, g_w20, g_k21, g_l21, g_p32, g_a21, g_w21, g_k22, g_l22, g_p33, g_a22, g_w22, g_k23, g_l23, g_p34, g_a23, g_w23, g_k24, g_l24, g_p35, g_a24, g_w24, g_k25, g_l25, g_p36, g_a25, g_w25, g_k26, g_l26, g_p37, g_a26, g_w26, g_k27, g_l27, g_p38, g_a27, g_w27, g_k28, g_l28, g_p40, g_a28, g_w28, g_k29, g_l29, g_p41, g_a29, g_w29, g_k30, g_l30, g_p42, g_a30, g_w30, g_k31, g_l31, g_p43, g_a31, g_w31, g_k32, g_l32, g_p44, g_a32, g_w32, g_k33, g_l33, g_p45, g_a33, g_w33, g_k34, g_l34, g_p46, g_a34, g_w34, g_f0, g_s0, g_f1, g_s1, g_f2, g_s2, g_f3, g_s3, g_f5, g_s5, g_f6, g_s6, g_f7, g_s7, g_f8, g_s8, g_f9, g_s9, g_f23, g_s23, g_f25, g_s25, g_f28, g_s28, g_f39, g_s39, g_f47, g_s47, gr_ui_eq, gr_ui_2, gr_ul_eq, gr_ul_1, gr_ui_no, gr_ui_ni, gr_ul_no, gr_ul_ni, n3]
    exact fin
  have stepR : gm_Ca E (d - 1) 30 [.ref m, .int (nI 0)] (gr_H h m t) (gx_v none (gr_H h m (gr_ui t 0 8 (-3)))) := by
    rw [← hQ]
    show gm_W E (d - 1) 30 0 [.ref m, .int (nI 0)] [] (gr_H h m t) Q
    simp only [r30_0, r30_0n, r30_1, r30_4, r30_5, r30_6, r30_48, r30_48n, r30_49, r30_53, r30_56, r30_56n, r30_57, r30_61, r30_64, r30_64n, r30_65, r30_69, r30_72, r30_72n, r30_73, r30_77, r30_80, r30_80n, r30_81, r30_84, r30_84n, r30_85, r30_88, r30_88n, r30_89, r30_92, r30_93, r30_94, r30_95, r30_95n, r30_96, r30_99, r30_100, r30_101, r30_102, r30_102n, r30_103, r30_106, r30_107, r30_108, r30_108n, r30_109, r30_112, r30_113, r30_114, r30_115, r30_116, r30_117, r30_118, r30_118n, r30_119, r30_123, r30_126, r30_126n, r30_127, r30_131, r30_134, r30_134n, r30_135, r30_139, r30_142, r30_142n, r30_143, r30_148, i32_10, reduceIte, gm_cmp1, gm_cmp3, gm_cmp4, gm_kd_sf, gm_ln_sf, gm_sf_1, gm_sf_2, gm_nw_1, gm_nw_2, gm_k_int, gm_k_ref, gm_k_null, gm_k_u, gm_k_long, and_true, true_and, true_or, or_true, or_false, false_or, and_self, or_self, if_true, if_false, List.map_nil, List.map_cons, List.sum_nil, List.sum_cons, Nat.zero_le, Option.toList_some, Option.toList_none, List.cons_append, List.nil_append, ne_eq, not_false_eq_true, not_true_eq_false, nI_1, nI_add, Value.category, Nat.reduceAdd, Nat.reduceMod, Nat.reduceLeDiff, Nat.reduceLT, Nat.reduceEqDiff, Nat.reducePow, Nat.le_refl, Nat.add_left_cancel_iff, Nat.add_eq_left, Nat.left_eq_add, Nat.add_zero, g_k0, g_k1, g_l1, g_p4, g_a1, g_w1, g_k2, g_l2, g_p10, g_a2, g_w2, g_k3, g_l3, g_p11, g_a3, g_w3, g_k4, g_l4, g_p12, g_a4, g_w4, g_k5, g_l5, g_p13, g_a5, g_w5, g_k6, g_l6, g_p14, g_a6, g_w6, g_k7, g_l7, g_p15, g_a7, g_w7, g_k8, g_l8, g_p16, g_a8, g_w8, g_k9, g_l9, g_p17, g_a9, g_w9, g_k10, g_l10, g_p18, g_a10, g_w10, g_k11, g_l11, g_p19, g_a11, g_w11, g_k12, g_l12, g_p20, g_a12, g_w12, g_k13, g_l13, g_p21, g_a13, g_w13, g_k14, g_l14, g_p22, g_a14, g_w14, g_k15, g_l15, g_p24, g_a15, g_w15, g_k16, g_l16, g_p26, g_a16, g_w16, g_k17, g_l17, g_p27, g_a17, g_w17, g_k18, g_l18, g_p29, g_a18, g_w18, g_k19, g_l19, g_p30, g_a19, g_w19, g_k20, g_l20, g_p31, g_a20, g_w20, g_k21, g_l21, g_p32, g_a21, g_w21, g_k22, g_l22, g_p33, g_a22, g_w22, g_k23, g_l23, g_p34, g_a23, g_w23, g_k24, g_l24, g_p35, g_a24, g_w24, g_k25, g_l25, g_p36, g_a25, g_w25, g_k26, g_l26, g_p37, g_a26, g_w26, g_k27, g_l27, g_p38, g_a27, g_w27, g_k28, g_l28, g_p40, g_a28, g_w28, g_k29, g_l29, g_p41, g_a29, g_w29, g_k30, g_l30, g_p42, g_a30, g_w30, g_k31, g_l31, g_p43, g_a31, g_w31, g_k32, g_l32, g_p44, g_a32, g_w32, g_k33, g_l33, g_p45, g_a33, g_w33, g_k34, g_l34, g_p46, g_a34, g_w34, g_f0, g_s0, g_f1, g_s1, g_f2, g_s2, g_f3, g_s3, g_f5, g_s5, g_f6, g_s6, g_f7, g_s7, g_f8, g_s8, g_f9, g_s9, g_f23, g_s23, g_f25, g_s25, g_f28, g_s28, g_f39, g_s39, g_f47, g_s47, gr_ui_eq, gr_ui_2, gr_ul_eq, gr_ul_1, gr_ui_no, gr_ui_ni, gr_ul_no, gr_ul_ni, b80, h29]
    refine c30_50 (by simp) g_k0 (by omega) start (gx_kn ?_) gx_kx
    simp only [r30_0, r30_0n, r30_1, r30_4, r30_5, r30_6, r30_48, r30_48n, r30_49, r30_53, r30_56, r30_56n, r30_57, r30_61, r30_64, r30_64n, r30_65, r30_69, r30_72, r30_72n, r30_73, r30_77, r30_80, r30_80n, r30_81, r30_84, r30_84n, r30_85, r30_88, r30_88n, r30_89, r30_92, r30_93, r30_94, r30_95, r30_95n, r30_96, r30_99, r30_100, r30_101, r30_102, r30_102n, r30_103, r30_106, r30_107, r30_108, r30_108n, r30_109, r30_112, r30_113, r30_114, r30_115, r30_116, r30_117, r30_118, r30_118n, r30_119, r30_123, r30_126, r30_126n, r30_127, r30_131, r30_134, r30_134n, r30_135, r30_139, r30_142, r30_142n, r30_143, r30_148, i32_10, reduceIte, gm_cmp1, gm_cmp3, gm_cmp4, gm_kd_sf, gm_ln_sf, gm_sf_1, gm_sf_2, gm_nw_1, gm_nw_2, gm_k_int, gm_k_ref, gm_k_null, gm_k_u, gm_k_long, and_true, true_and, true_or, or_true, or_false, false_or, and_self, or_self, if_true, if_false, List.map_nil, List.map_cons, List.sum_nil, List.sum_cons, Nat.zero_le, Option.toList_some, Option.toList_none, List.cons_append, List.nil_append, ne_eq, not_false_eq_true, not_true_eq_false, nI_1, nI_add, Value.category, Nat.reduceAdd, Nat.reduceMod, Nat.reduceLeDiff, Nat.reduceLT, Nat.reduceEqDiff, Nat.reducePow, Nat.le_refl, Nat.add_left_cancel_iff, Nat.add_eq_left, Nat.left_eq_add, Nat.add_zero]
    exact fin
  rw [← hQ]
  show gm_W E d 45 0 [.ref m, gm_u] [] (gr_H h m t) Q
  simp only [r45_0, r45_0n, r45_1, r45_4, r45_5, r45_6, r45_7, r45_7n, r45_8, r45_11, r45_12, r45_13, r45_14, r45_17, r45_17n, r45_18, r45_22, r45_25, r45_25n, r45_26, r45_29, r45_30, r45_31, r45_32, r45_35, r45_35n, r45_36, r45_40, r45_43, r45_43n, r45_44, r45_47, r45_48, r45_49, r45_50, r45_53, r45_53n, r45_54, r45_58, r45_61, r45_61n, r45_62, r45_66, i32_10, reduceIte, gm_cmp1, gm_cmp3, gm_cmp4, gm_kd_sf, gm_ln_sf, gm_sf_1, gm_sf_2, gm_nw_1, gm_nw_2, gm_k_int, gm_k_ref, gm_k_null, gm_k_u, gm_k_long, and_true, true_and, true_or, or_true, or_false, false_or, and_self, or_self, if_true, if_false, List.map_nil, List.map_cons, List.sum_nil, List.sum_cons, Nat.zero_le, Option.toList_some, Option.toList_none, List.cons_append, List.nil_append, ne_eq, not_false_eq_true, not_true_eq_false, nI_1, nI_add, Value.category, Nat.reduceAdd, Nat.reduceMod, Nat.reduceLeDiff, Nat.reduceLT, Nat.reduceEqDiff, Nat.reducePow, Nat.le_refl, Nat.add_left_cancel_iff, Nat.add_eq_left, Nat.left_eq_add, Nat.add_zero, g_k0, g_k1, g_l1, g_p4, g_a1, g_w1, g_k2, g_l2, g_p10, g_a2, g_w2, g_k3, g_l3, g_p11, g_a3, g_w3, g_k4, g_l4, g_p12, g_a4, g_w4, g_k5, g_l5, g_p13, g_a5, g_w5, g_k6, g_l6, g_p14, g_a6, g_w6, g_k7, g_l7, g_p15, g_a7, g_w7, g_k8, g_l8, g_p16, g_a8, g_w8, g_k9, g_l9, g_p17, g_a9, g_w9, g_k10, g_l10, g_p18, g_a10, g_w10, g_k11, g_l11, g_p19, g_a11, g_w11, g_k12, g_l12, g_p20, g_a12, g_w12, g_k13, g_l13, g_p21, g_a13, g_w13, g_k14, g_l14, g_p22, g_a14, g_w14, g_k15, g_l15, g_p24, g_a15, g_w15, g_k16, g_l16, g_p26, g_a16, g_w16, g_k17, g_l17, g_p27, g_a17, g_w17, g_k18, g_l18, g_p29, g_a18, g_w18, g_k19, g_l19, g_p30, g_a19, g_w19, g_k20, g_l20, g_p31, g_a20, g_w20, g_k21, g_l21, g_p32, g_a21, g_w21, g_k22, g_l22, g_p33, g_a22, g_w22, g_k23, g_l23, g_p34, g_a23, g_w23, g_k24, g_l24, g_p35, g_a24, g_w24, g_k25, g_l25, g_p36, g_a25, g_w25, g_k26, g_l26, g_p37, g_a26, g_w26, g_k27, g_l27, g_p38, g_a27, g_w27, g_k28, g_l28, g_p40, g_a28, g_w28, g_k29, g_l29, g_p41, g_a29, g_w29, g_k30, g_l30, g_p42, g_a30, g_w30, g_k31, g_l31, g_p43, g_a31, g_w31, g_k32, g_l32, g_p44, g_a32, g_w32, g_k33, g_l33, g_p45, g_a33, g_w33, g_k34, g_l34, g_p46, g_a34, g_w34, g_f0, g_s0, g_f1, g_s1, g_f2, g_s2, g_f3, g_s3, g_f5, g_s5, g_f6, g_s6, g_f7, g_s7, g_f8, g_s8, g_f9, g_s9, g_f23, g_s23, g_f25, g_s25, g_f28, g_s28, g_f39, g_s39, g_f47, g_s47, gr_ui_eq, gr_ui_2, gr_ul_eq, gr_ul_1, gr_ui_no, gr_ui_ni, gr_ul_no, gr_ul_ni, h47, q1, b80, h28]
  refine c45_19 (by simp) g_k0 (by omega) stepR (gx_kn ?_) gx_kx
  simp only [r45_0, r45_0n, r45_1, r45_4, r45_5, r45_6, r45_7, r45_7n, r45_8, r45_11, r45_12, r45_13, r45_14, r45_17, r45_17n, r45_18, r45_22, r45_25, r45_25n, r45_26, r45_29, r45_30, r45_31, r45_32, r45_35, r45_35n, r45_36, r45_40, r45_43, r45_43n, r45_44, r45_47, r45_48, r45_49, r45_50, r45_53, r45_53n, r45_54, r45_58, r45_61, r45_61n, r45_62, r45_66, i32_10, reduceIte, gm_cmp1, gm_cmp3, gm_cmp4, gm_kd_sf, gm_ln_sf, gm_sf_1, gm_sf_2, gm_nw_1, gm_nw_2, gm_k_int, gm_k_ref, gm_k_null, gm_k_u, gm_k_long, and_true, true_and, true_or, or_true, or_false, false_or, and_self, or_self, if_true, if_false, List.map_nil, List.map_cons, List.sum_nil, List.sum_cons, Nat.zero_le, Option.toList_some, Option.toList_none, List.cons_append, List.nil_append, ne_eq, not_false_eq_true, not_true_eq_false, nI_1, nI_add, Value.category, Nat.reduceAdd, Nat.reduceMod, Nat.reduceLeDiff, Nat.reduceLT, Nat.reduceEqDiff, Nat.reducePow, Nat.le_refl, Nat.add_left_cancel_iff, Nat.add_eq_left, Nat.left_eq_add, Nat.add_zero]
  exact fin
theorem gs_out0 (hp : gs_pl s = gs_n K) (hs : gs_size s = 0) : gs_out K s = .error (-3) := by
  have r : ∀ d, d ≤ 8 → gs_room d s = .ok ((), s) := fun d hd => by unfold gs_room; rw [if_neg (by omega)]
  have e1 : gs_reset K 701 s = .ok ((), s) := by
    show (if gs_pl s < gs_n K ∧ gs_sb K (gs_pl s) = 121 then _ else _) = _
    rw [if_neg (fun z => by omega)]
  have e2 : gs_u1 K s = .error (-3) := by
    unfold gs_u1 gs_b
    rw [gs_nxt_n (by omega) (by omega)]
  unfold gs_out gs_b
  rw [r 1 (by decide)]
  dsimp only
  rw [e1]
  dsimp only
  show gs_body K (gs_rc K 7) (8 - 7) s = _
  unfold gs_body gs_b
  rw [r (8 - 7) (by decide)]
  dsimp only
  rw [e2]
theorem M_read0 (hd : 6 ≤ d) (X : gr_X t K s 0) (hp0 : gs_pl s = gs_n K) (hs0 : gs_size s = 0) : gm_Ca E d 46 [.ref m] (gr_H h m t) (fun r h' => r = .inl (some (.int (gs_read K s 0).1)) ∧ ∃ t', h' = gr_H h m t' ∧ gr_X t' K (gs_read K s 0).2.1 (gs_read K s 0).2.2) := by
  have e : gs_read K s 0 = (-3, s, -3) := by unfold gs_read; rw [if_neg (by simp), gs_out0 hp0 hs0]; rfl
  rw [e]
  obtain ⟨L, B, C, W, P, l7, ⟨us, u1, u2, u3, u4, u5⟩, Hs, ⟨us', nd, n1, n2, n3, n4, n5⟩, N1, N2⟩ := id X
  have hn7 := B.2.1
  have h28 : t.1 0 28 = 0 := by rw [Hs.1, hs0]; rfl
  have h6 : t.1 0 6 = nI (gs_n K) := by rw [P.1, hp0]
  obtain ⟨Q, hQ⟩ : ∃ Q : gm_R → gm_H → Prop, Q = (fun r h' => r = .inl (some (.int (-3))) ∧ ∃ t', h' = gr_H h m t' ∧ gr_X t' K s (-3)) := ⟨_, rfl⟩
  show gm_Ca E d 46 [.ref m] (gr_H h m t) (fun r h' => r = .inl (some (.int (-3))) ∧ ∃ t', h' = gr_H h m t' ∧ gr_X t' K s (-3))
  rw [← hQ]
  have fin : ∀ t', h = h → gr_X t' K s (-3) → Q (.inl (some (.int (-3)))) (gr_H h m t') := fun t' _ x => by rw [hQ]; exact ⟨rfl, t', rfl, x⟩
  show gm_W E d 46 0 [.ref m, gm_u, gm_u, gm_u, gm_u, gm_u, gm_u] [] (gr_H h m t) Q
  have le00 : (0 : Int32) ≤ 0 := by decide
  simp only [r46_0, r46_0n, r46_1, r46_4, r46_7, r46_7n, r46_8, r46_11, r46_12, r46_12n, r46_13, r46_16, r46_17, r46_17n, r46_18, r46_21, r46_22, r46_22n, r46_23, r46_26, r46_27, r46_27n, r46_28, r46_31, r46_33, r46_33n, r46_34, r46_37, r46_39, r46_40, r46_42, r46_44, r46_44n, r46_45, r46_48, r46_51, r46_51n, r46_52, r46_55, r46_57, r46_57n, r46_58, r46_61, r46_63, r46_64, r46_65, r46_65n, r46_66, r46_69, r46_71, r46_71n, r46_72, r46_75, r46_77, r46_78, r46_79, r46_82, r46_85, r46_85n, r46_86, r46_87, r46_90, r46_90n, r46_91, r46_92, r46_95, r46_95n, r46_96, r46_97, r46_98, r46_99, r46_104, r46_107, r46_110, r46_110n, r46_111, r46_114, r46_117, r46_117n, r46_121, r46_124, r46_124n, r46_125, r46_128, r46_131, r46_131n, r46_132, r46_135, r46_136, r46_136n, r46_137, r46_138, r46_141, r46_141n, r46_142, r46_143, r46_146, r46_146n, r46_147, r46_148, r46_151, r46_151n, r46_152, r46_154, r46_157, r46_157n, r46_158, r46_160, r46_163, r46_164, r46_166, r46_168, r46_168n, r46_169, r46_172, r46_175, r46_175n, r46_176, r46_179, r46_181, r46_181n, r46_182, r46_185, r46_187, r46_188, r46_189, r46_189n, r46_190, r46_193, r46_195, r46_195n, r46_196, r46_199, r46_201, r46_202, r46_203, r46_206, r46_209, r46_209n, r46_210, r46_213, r46_215, r46_218, r46_218n, r46_219, r46_219n, r46_220, r46_223, r46_226, r46_226n, r46_227, r46_230, i32_10, reduceIte, gm_cmp1, gm_cmp3, gm_cmp4, gm_kd_sf, gm_ln_sf, gm_sf_1, gm_sf_2, gm_nw_1, gm_nw_2, gm_k_int, gm_k_ref, gm_k_null, gm_k_u, gm_k_long, and_true, true_and, true_or, or_true, or_false, false_or, and_self, or_self, if_true, if_false, List.map_nil, List.map_cons, List.sum_nil, List.sum_cons, Nat.zero_le, Option.toList_some, Option.toList_none, List.cons_append, List.nil_append, ne_eq, not_false_eq_true, not_true_eq_false, nI_1, nI_add, Value.category, Nat.reduceAdd, Nat.reduceMod, Nat.reduceLeDiff, Nat.reduceLT, Nat.reduceEqDiff, Nat.reducePow, Nat.le_refl, Nat.add_left_cancel_iff, Nat.add_eq_left, Nat.left_eq_add, Nat.add_zero, g_k0, g_k1, g_l1, g_p4, g_a1, g_w1, g_k2, g_l2, g_p10, g_a2, g_w2, g_k3, g_l3, g_p11, g_a3, g_w3, g_k4, g_l4, g_p12, g_a4, g_w4, g_k5, g_l5, g_p13, g_a5, g_w5, g_k6, g_l6, g_p14, g_a6, g_w6, g_k7, g_l7, g_p15, g_a7, g_w7, g_k8, g_l8, g_p16, g_a8, g_w8, g_k9, g_l9, g_p17, g_a9, g_w9, g_k10, g_l10, g_p18, g_a10, g_w10, g_k11, g_l11, g_p19, g_a11, g_w11, g_k12, g_l12, g_p20, g_a12, g_w12, g_k13, g_l13, g_p21, g_a13, g_w13, g_k14, g_l14, g_p22, g_a14, g_w14, g_k15, g_l15, g_p24, g_a15, g_w15, g_k16, g_l16, g_p26, g_a16, g_w16, g_k17, g_l17, g_p27, g_a17, g_w17, g_k18, g_l18, g_p29, g_a18, g_w18, g_k19, g_l19, g_p30, g_a19, g_w19, g_k20, g_l20, g_p31, g_a20, g_w20, g_k21, g_l21, g_p32, g_a21, g_w21, g_k22, g_l22, g_p33, g_a22, g_w22, g_k23, g_l23, g_p34, g_a23, g_w23, g_k24, g_l24, g_p35, g_a24, g_w24, g_k25, g_l25, g_p36, g_a25, g_w25, g_k26, g_l26, g_p37, g_a26, g_w26, g_k27, g_l27, g_p38, g_a27, g_w27, g_k28, g_l28, g_p40, g_a28, g_w28, g_k29, g_l29, g_p41, g_a29, g_w29, g_k30, g_l30, g_p42, g_a30, g_w30, g_k31, g_l31, g_p43, g_a31, g_w31, g_k32, g_l32, g_p44, g_a32, g_w32, g_k33, g_l33, g_p45, g_a33, g_w33, g_k34, g_l34, g_p46, g_a34, g_w34, g_f0, g_s0, g_f1, g_s1, g_f2, g_s2, g_f3, g_s3, g_f5, g_s5, g_f6, g_s6, g_f7, g_s7, g_f8, g_s8, g_f9, g_s9, g_f23, g_s23, g_f25, g_s25, g_f28, g_s28, g_f39, g_s39, g_f47, g_s47, gr_ui_eq, gr_ui_2, gr_ul_eq, gr_ul_1, gr_ui_no, gr_ui_ni, gr_ul_no, gr_ul_ni, l7, h6, h28, le00]
  obtain ⟨t1, ht1⟩ : ∃ t1, t1 = gr_ui (gr_ui t 0 8 0) 0 47 0 := ⟨_, rfl⟩
  rw [← ht1]
  have a47 : t1.1 0 47 = nI 0 := by rw [ht1, gr_ui_eq]; rfl
  refine c46_100 (by simp) g_k0 (by omega) (m_push a47 (by decide)) (gx_kn ?_) gx_kx
  obtain ⟨t2, ht2⟩ : ∃ t2, t2 = gr_push t1 0 1 1 0 0 := ⟨_, rfl⟩
  rw [← ht2]
  have s1 : ∀ o i, o ≠ 0 → t1.1 o i = t.1 o i := fun o i ho => by rw [ht1, gr_ui_no ho, gr_ui_no ho]
  have s10 : ∀ i, i ≠ 8 → i ≠ 47 → t1.1 0 i = t.1 0 i := fun i a b => by rw [ht1, gr_ui_ni b, gr_ui_ni a]
  have s2 : ∀ o i, o ≠ 0 → o < 28 → t2.1 o i = t.1 o i := fun o i ho hl => by
    rw [ht2]
    unfold gr_push
    rw [gr_ui_no ho, gr_ui_no (by omega), gr_ui_no (by omega), gr_ui_no (by omega), gr_ui_no (by omega), gr_ui_no (by omega), gr_ui_no (by omega), gr_ui_no (by omega)]
    exact s1 o i ho
  have s20 : ∀ i, i ≠ 47 → t2.1 0 i = t1.1 0 i := fun i b => by
    rw [ht2]
    unfold gr_push
    rw [gr_ui_ni b, gr_ui_no (by decide), gr_ui_no (by decide), gr_ui_no (by decide), gr_ui_no (by decide), gr_ui_no (by decide), gr_ui_no (by decide), gr_ui_no (by decide)]
  have b47 : t2.1 0 47 = 1 := by rw [ht2]; unfold gr_push; rw [gr_ui_eq]; rfl
  have b8 : t2.1 0 8 = 0 := by rw [s20 _ (by decide), ht1, gr_ui_ni (by decide), gr_ui_eq]
  have b28 : t2.1 28 0 = 1 := by
    rw [ht2]; unfold gr_push
    rw [gr_ui_no (by decide), gr_ui_no (by decide), gr_ui_no (by decide), gr_ui_no (by decide), gr_ui_no (by decide), gr_ui_no (by decide), gr_ui_no (by decide), gr_ui_eq]
  have b29 : t2.1 29 0 = 0 := by
    rw [ht2]; unfold gr_push
    rw [gr_ui_no (by decide), gr_ui_no (by decide), gr_ui_no (by decide), gr_ui_no (by decide), gr_ui_no (by decide), gr_ui_no (by decide), gr_ui_eq]
  have b30 : t2.1 30 0 = 1 := by
    rw [ht2]; unfold gr_push
    rw [gr_ui_no (by decide), gr_ui_no (by decide), gr_ui_no (by decide), gr_ui_no (by decide), gr_ui_no (by decide), gr_ui_eq]
  have be : t2.1 0 28 = 0 := by rw [s20 _ (by decide), s10 _ (by decide) (by decide)]; exact h28
  have bn : t2.1 0 5 = nI (gs_n K) := by rw [s20 _ (by decide), s10 _ (by decide) (by decide)]; exact B.1
  have bp : t2.1 0 6 = nI (gs_n K) := by rw [s20 _ (by decide), s10 _ (by decide) (by decide)]; exact h6
  have l01 : (0 : Int32) < 1 := by decide
  have l01' : ¬ (1 : Int32) ≤ 0 := by decide
  have nm3 : ¬ (-3 : Int32) = 0 := by decide
  have nm37 : ¬ (-3 : Int32) = -7 := by decide
  rw [r46_103]
  simp only [r46_0, r46_0n, r46_1, r46_4, r46_7, r46_7n, r46_8, r46_11, r46_12, r46_12n, r46_13, r46_16, r46_17, r46_17n, r46_18, r46_21, r46_22, r46_22n, r46_23, r46_26, r46_27, r46_27n, r46_28, r46_31, r46_33, r46_33n, r46_34, r46_37, r46_39, r46_40, r46_42, r46_44, r46_44n, r46_45, r46_48, r46_51, r46_51n, r46_52, r46_55, r46_57, r46_57n, r46_58, r46_61, r46_63, r46_64, r46_65, r46_65n, r46_66, r46_69, r46_71, r46_71n, r46_72, r46_75, r46_77, r46_78, r46_79, r46_82, r46_85, r46_85n, r46_86, r46_87, r46_90, r46_90n, r46_91, r46_92, r46_95, r46_95n, r46_96, r46_97, r46_98, r46_99, r46_104, r46_107, r46_110, r46_110n, r46_111, r46_114, r46_117, r46_117n, r46_121, r46_124, r46_124n, r46_125, r46_128, r46_131, r46_131n, r46_132, r46_135, r46_136, r46_136n, r46_137, r46_138, r46_141, r46_141n, r46_142, r46_143, r46_146, r46_146n, r46_147, r46_148, r46_151, r46_151n, r46_152, r46_154, r46_157, r46_157n, r46_158, r46_160, r46_163, r46_164, r46_166, r46_168, r46_168n, r46_169, r46_172, r46_175, r46_175n, r46_176, r46_179, r46_181, r46_181n, r46_182, r46_185, r46_187, r46_188, r46_189, r46_189n, r46_190, r46_193, r46_195, r46_195n, r46_196, r46_199, r46_201, r46_202, r46_203, r46_206, r46_209, r46_209n, r46_210, r46_213, r46_215, r46_218, r46_218n, r46_219, r46_219n, r46_220, r46_223, r46_226, r46_226n, r46_227, r46_230, i32_10, reduceIte, gm_cmp1, gm_cmp3, gm_cmp4, gm_kd_sf, gm_ln_sf, gm_sf_1, gm_sf_2, gm_nw_1, gm_nw_2, gm_k_int, gm_k_ref, gm_k_null, gm_k_u, gm_k_long, and_true, true_and, true_or, or_true, or_false, false_or, and_self, or_self, if_true, if_false, List.map_nil, List.map_cons, List.sum_nil, List.sum_cons, Nat.zero_le, Option.toList_some, Option.toList_none, List.cons_append, List.nil_append, ne_eq, not_false_eq_true, not_true_eq_false, nI_1, nI_add, Value.category, Nat.reduceAdd, Nat.reduceMod, Nat.reduceLeDiff, Nat.reduceLT, Nat.reduceEqDiff, Nat.reducePow, Nat.le_refl, Nat.add_left_cancel_iff, Nat.add_eq_left, Nat.left_eq_add, Nat.add_zero, g_k0, g_k1, g_l1, g_p4, g_a1, g_w1, g_k2, g_l2, g_p10, g_a2, g_w2, g_k3, g_l3, g_p11, g_a3, g_w3, g_k4, g_l4, g_p12, g_a4, g_w4, g_k5, g_l5, g_p13, g_a5, g_w5, g_k6, g_l6, g_p14, g_a6, g_w6, g_k7, g_l7, g_p15, g_a7, g_w7, g_k8, g_l8, g_p16, g_a8, g_w8, g_k9, g_l9, g_p17, g_a9, g_w9, g_k10, g_l10, g_p18, g_a10, g_w10, g_k11, g_l11, g_p19, g_a11, g_w11, g_k12, g_l12, g_p20, g_a12, g_w12, g_k13, g_l13, g_p21, g_a13, g_w13, g_k14, g_l14, g_p22, g_a14, g_w14, g_k15, g_l15, g_p24, g_a15, g_w15, g_k16, g_l16, g_p26, g_a16, g_w16, g_k17, g_l17, g_p27, g_a17, g_w17, g_k18, g_l18, g_p29, g_a18, g_w18, g_k19, g_l19, g_p30, g_a19, g_w19, g_k20, g_l20, g_p31, g_a20, g_w20, g_k21, g_l21, g_p32, g_a21, g_w21, g_k22, g_l22, g_p33, g_a22, g_w22, g_k23, g_l23, g_p34, g_a23, g_w23, g_k24, g_l24, g_p35, g_a24, g_w24, g_k25, g_l25, g_p36, g_a25, g_w25, g_k26, g_l26, g_p37, g_a26, g_w26, g_k27, g_l27, g_p38, g_a27, g_w27, g_k28, g_l28, g_p40, g_a28, g_w28, g_k29, g_l29, g_p41, g_a29, g_w29, g_k30, g_l30, g_p42, g_a30, g_w30, g_k31, g_l31, g_p43, g_a31, g_w31, g_k32, g_l32, g_p44, g_a32, g_w32, g_k33, g_l33, g_p45, g_a33, g_w33, g_k34, g_l34, g_p46, g_a34, g_w34, g_f0, g_s0, g_f1, g_s1, g_f2, g_s2, g_f3, g_s3, g_f5, g_s5, g_f6, g_s6, g_f7, g_s7, g_f8, g_s8, g_f9, g_s9, g_f23, g_s23, g_f25, g_s25, g_f28, g_s28, g_f39, g_s39, g_f47, g_s47, gr_ui_eq, gr_ui_2, gr_ul_eq, gr_ul_1, gr_ui_no, gr_ui_ni, gr_ul_no, gr_ul_ni, b47, l01, l01', b8]
  refine c46_118 (by simp) g_k0 (by omega) (m_step0 (by omega) b47 b28 b29 b30 be bn bp hn7 b8) (gx_kn ?_) gx_kx
  simp only [r46_0, r46_0n, r46_1, r46_4, r46_7, r46_7n, r46_8, r46_11, r46_12, r46_12n, r46_13, r46_16, r46_17, r46_17n, r46_18, r46_21, r46_22, r46_22n, r46_23, r46_26, r46_27, r46_27n, r46_28, r46_31, r46_33, r46_33n, r46_34, r46_37, r46_39, r46_40, r46_42, r46_44, r46_44n, r46_45, r46_48, r46_51, r46_51n, r46_52, r46_55, r46_57, r46_57n, r46_58, r46_61, r46_63, r46_64, r46_65, r46_65n, r46_66, r46_69, r46_71, r46_71n, r46_72, r46_75, r46_77, r46_78, r46_79, r46_82, r46_85, r46_85n, r46_86, r46_87, r46_90, r46_90n, r46_91, r46_92, r46_95, r46_95n, r46_96, r46_97, r46_98, r46_99, r46_104, r46_107, r46_110, r46_110n, r46_111, r46_114, r46_117, r46_117n, r46_121, r46_124, r46_124n, r46_125, r46_128, r46_131, r46_131n, r46_132, r46_135, r46_136, r46_136n, r46_137, r46_138, r46_141, r46_141n, r46_142, r46_143, r46_146, r46_146n, r46_147, r46_148, r46_151, r46_151n, r46_152, r46_154, r46_157, r46_157n, r46_158, r46_160, r46_163, r46_164, r46_166, r46_168, r46_168n, r46_169, r46_172, r46_175, r46_175n, r46_176, r46_179, r46_181, r46_181n, r46_182, r46_185, r46_187, r46_188, r46_189, r46_189n, r46_190, r46_193, r46_195, r46_195n, r46_196, r46_199, r46_201, r46_202, r46_203, r46_206, r46_209, r46_209n, r46_210, r46_213, r46_215, r46_218, r46_218n, r46_219, r46_219n, r46_220, r46_223, r46_226, r46_226n, r46_227, r46_230, i32_10, reduceIte, gm_cmp1, gm_cmp3, gm_cmp4, gm_kd_sf, gm_ln_sf, gm_sf_1, gm_sf_2, gm_nw_1, gm_nw_2, gm_k_int, gm_k_ref, gm_k_null, gm_k_u, gm_k_long, and_true, true_and, true_or, or_true, or_false, false_or, and_self, or_self, if_true, if_false, List.map_nil, List.map_cons, List.sum_nil, List.sum_cons, Nat.zero_le, Option.toList_some, Option.toList_none, List.cons_append, List.nil_append, ne_eq, not_false_eq_true, not_true_eq_false, nI_1, nI_add, Value.category, Nat.reduceAdd, Nat.reduceMod, Nat.reduceLeDiff, Nat.reduceLT, Nat.reduceEqDiff, Nat.reducePow, Nat.le_refl, Nat.add_left_cancel_iff, Nat.add_eq_left, Nat.left_eq_add, Nat.add_zero]
  rw [r46_103]
  simp only [r46_0, r46_0n, r46_1, r46_4, r46_7, r46_7n, r46_8, r46_11, r46_12, r46_12n, r46_13, r46_16, r46_17, r46_17n, r46_18, r46_21, r46_22, r46_22n, r46_23, r46_26, r46_27, r46_27n, r46_28, r46_31, r46_33, r46_33n, r46_34, r46_37, r46_39, r46_40, r46_42, r46_44, r46_44n, r46_45, r46_48, r46_51, r46_51n, r46_52, r46_55, r46_57, r46_57n, r46_58, r46_61, r46_63, r46_64, r46_65, r46_65n, r46_66, r46_69, r46_71, r46_71n, r46_72, r46_75, r46_77, r46_78, r46_79, r46_82, r46_85, r46_85n, r46_86, r46_87, r46_90, r46_90n, r46_91, r46_92, r46_95, r46_95n, r46_96, r46_97, r46_98, r46_99, r46_104, r46_107, r46_110, r46_110n, r46_111, r46_114, r46_117, r46_117n, r46_121, r46_124, r46_124n, r46_125, r46_128, r46_131, r46_131n, r46_132, r46_135, r46_136, r46_136n, r46_137, r46_138, r46_141, r46_141n, r46_142, r46_143, r46_146, r46_146n, r46_147, r46_148, r46_151, r46_151n, r46_152, r46_154, r46_157, r46_157n, r46_158, r46_160, r46_163, r46_164, r46_166, r46_168, r46_168n, r46_169, r46_172, r46_175, r46_175n, r46_176, r46_179, r46_181, r46_181n, r46_182, r46_185, r46_187, r46_188, r46_189, r46_189n, r46_190, r46_193, r46_195, r46_195n, r46_196, r46_199, r46_201, r46_202, r46_203, r46_206, r46_209, r46_209n, r46_210, r46_213, r46_215, r46_218, r46_218n, r46_219, r46_219n, r46_220, r46_223, r46_226, r46_226n, r46_227, r46_230, i32_10, reduceIte, gm_cmp1, gm_cmp3, gm_cmp4, gm_kd_sf, gm_ln_sf, gm_sf_1, gm_sf_2, gm_nw_1, gm_nw_2, gm_k_int, gm_k_ref, gm_k_null, gm_k_u, gm_k_long, and_true, true_and, true_or, or_true, or_false, false_or, and_self, or_self, if_true, if_false, List.map_nil, List.map_cons, List.sum_nil, List.sum_cons, Nat.zero_le, Option.toList_some, Option.toList_none, List.cons_append, List.nil_append, ne_eq, not_false_eq_true, not_true_eq_false, nI_1, nI_add, Value.category, Nat.reduceAdd, Nat.reduceMod, Nat.reduceLeDiff, Nat.reduceLT, Nat.reduceEqDiff, Nat.reducePow, Nat.le_refl, Nat.add_left_cancel_iff, Nat.add_eq_left, Nat.left_eq_add, Nat.add_zero, g_k0, g_k1, g_l1, g_p4, g_a1, g_w1, g_k2, g_l2, g_p10, g_a2, g_w2, g_k3, g_l3, g_p11, g_a3, g_w3, g_k4, g_l4, g_p12, g_a4, g_w4, g_k5, g_l5, g_p13, g_a5, g_w5, g_k6, g_l6, g_p14, g_a6, g_w6, g_k7, g_l7, g_p15, g_a7, g_w7, g_k8, g_l8, g_p16, g_a8, g_w8, g_k9, g_l9, g_p17, g_a9, g_w9, g_k10, g_l10, g_p18, g_a10, g_w10, g_k11, g_l11, g_p19, g_a11, g_w11, g_k12, g_l12, g_p20, g_a12, g_w12, g_k13, g_l13, g_p21, g_a13, g_w13, g_k14, g_l14, g_p22, g_a14, g_w14, g_k15, g_l15, g_p24, g_a15, g_w15, g_k16, g_l16, g_p26, g_a16, g_w16, g_k17, g_l17, g_p27, g_a17, g_w17, g_k18, g_l18, g_p29, g_a18, g_w18, g_k19, g_l19, g_p30, g_a19, g_w19, g_k20, g_l20, g_p31, g_a20, g_w20, g_k21, g_l21, g_p32, g_a21, g_w21, g_k22, g_l22, g_p33, g_a22, g_w22, g_k23, g_l23, g_p34, g_a23, g_w23, g_k24, g_l24, g_p35, g_a24, g_w24, g_k25, g_l25, g_p36, g_a25, g_w25, g_k26, g_l26, g_p37, g_a26, g_w26, g_k27, g_l27, g_p38, g_a27, g_w27, g_k28, g_l28, g_p40, g_a28, g_w28, g_k29, g_l29, g_p41, g_a29, g_w29, g_k30, g_l30, g_p42, g_a30, g_w30, g_k31, g_l31, g_p43, g_a31, g_w31, g_k32, g_l32, g_p44, g_a32, g_w32, g_k33, g_l33, g_p45, g_a33, g_w33, g_k34, g_l34, g_p46, g_a34, g_w34, g_f0, g_s0, g_f1, g_s1, g_f2, g_s2, g_f3, g_s3, g_f5, g_s5, g_f6, g_s6, g_f7, g_s7, g_f8, g_s8, g_f9, g_s9, g_f23, g_s23, g_f25, g_s25, g_f28, g_s28, g_f39, g_s39, g_f47, g_s47, gr_ui_eq, gr_ui_2, gr_ul_eq, gr_ul_1, gr_ui_no, gr_ui_ni, gr_ul_no, gr_ul_ni, b47, l01, l01', nm3, le00, nm37]
  refine fin _ rfl ?_
  have z : ∀ (t3 : gr_t), (∀ i, i ≠ 7 → i ≠ 8 → i ≠ 9 → i ≠ 47 → t3.1 0 i = t.1 0 i) → (∀ o i, o ≠ 0 → o < 28 → t3.1 o i = t.1 o i) → t3.2 = t.2 → t3.1 0 7 = -3 → gr_X t3 K s (-3) := by
    intro t3 y0 y1 y2 y7
    refine X.ofK ⟨by rw [y0 _ (by decide) (by decide) (by decide) (by decide)]; exact L.1, by rw [y0 _ (by decide) (by decide) (by decide) (by decide)]; exact L.2.1, by rw [y0 _ (by decide) (by decide) (by decide) (by decide)]; exact L.2.2.1, by rw [y0 _ (by decide) (by decide) (by decide) (by decide)]; exact L.2.2.2⟩ ⟨by rw [y0 _ (by decide) (by decide) (by decide) (by decide)]; exact B.1, B.2.1, fun i hi => by rw [y1 _ _ (by decide) (by decide)]; exact B.2.2 i hi⟩ ?_ W gs_kk.refl ⟨fun o i ho => by rw [y2], fun o i ho => y1 o i (by omega) ho.2.1⟩ (fun i hi => y0 i (by omega) (by omega) (by omega) (by omega)) y7
    intro c hc
    have q := C c hc
    rw [y1 _ _ (by decide) (by decide), y1 _ _ (by decide) (by decide), y1 _ _ (by decide) (by decide), y1 _ _ (by decide) (by decide)]
    cases e : gs_cls K c with
    | none => rw [e] at q; exact q
    | some D =>
      rw [e] at q
      obtain ⟨q1, q2, q3, q4, q5, q6, q7, q8, q9⟩ := q
      refine ⟨q1, q2, by rw [y1 _ _ (by decide) (by decide)]; exact q3, by rw [y2]; exact q4, q5, q6, q7, q8, fun j p hp => ?_⟩
      rw [y1 _ _ (by decide) (by decide), y1 _ _ (by decide) (by decide)]
      exact q9 j p hp
  have y2 : t2.2 = t.2 := by rw [ht2, ht1]; rfl
  refine z _ (fun i i7 i8 i9 i47 => ?_) (fun o i ho hl => ?_) (by show t2.2 = t.2; exact y2) gr_ui_eq
  · have y : t2.1 0 i = t.1 0 i := by rw [s20 _ i47, s10 _ i8 i47]
    have st : ∀ (t4 : gr_t) (f : Nat) (x : Int32), t.1 0 f = x → t4.1 0 i = t.1 0 i → (gr_ui t4 0 f x).1 0 i = t.1 0 i := fun t4 f x hx h4 => by
      by_cases e : i = f
      · subst e; rw [gr_ui_eq, hx]
      · rw [gr_ui_ni e]; exact h4
    rw [gr_ui_ni i7]
    refine st _ _ _ rfl (st _ _ _ h28 (st _ _ _ rfl (st _ _ _ rfl (st _ _ _ h6 ?_))))
    rw [gr_ui_ni i8]
    exact y
  · rw [gr_ui_no ho, gr_ui_no ho, gr_ui_no ho, gr_ui_no ho, gr_ui_no ho, gr_ui_no ho, gr_ui_no ho]
    exact s2 o i ho hl
end MS
/-! THE REFERENCE, 28: a read under way. -/
/-- how the reference reads -/
def gs_kor (K : gs_K) : Prop := gs_rst K = true ∧ gs_fill K = -2 ∧ K.1.2.2.1 ≤ 20
/-- what a read must not touch: cells below these counts, and all that it never writes -/
def gr_pr (hb nb o i : Nat) : Prop := (o = 0 ∧ (i ≤ 5 ∨ i = 7)) ∨ (1 ≤ o ∧ o ≤ 9) ∨ o = 18 ∨ o = 19 ∨ (10 ≤ o ∧ o ≤ 14 ∧ i < hb) ∨ (20 ≤ o ∧ o ≤ 24 ∧ i < nb) ∨ (o = 27 ∧ i < nb) ∨ ((o = 25 ∨ o = 26) ∧ i < 8 * nb)
def gr_prl (ub nb o i : Nat) : Prop := o ≤ 14 ∨ (o = 15 ∧ i < ub) ∨ (o = 23 ∧ i < nb)
def gr_kp (hb ub nb : Nat) (t t' : gr_t) : Prop := (∀ o i, gr_pr hb nb o i → t'.1 o i = t.1 o i) ∧ ∀ o i, gr_prl ub nb o i → t'.2 o i = t.2 o i
/-- frames below n -/
def gr_fr (n : Nat) (t t' : gr_t) : Prop := ∀ o i, 28 ≤ o → o ≤ 34 → i < n → t'.1 o i = t.1 o i
/-- only frames, fault, ret, top differ -/
def gr_hm (t t' : gr_t) : Prop := (∀ o i, o < 28 → (o = 0 → i ≠ 8 ∧ i ≠ 9 ∧ i ≠ 47) → t'.1 o i = t.1 o i) ∧ t'.2 = t.2
section N1
variable {N N' X : Nat → Prop} {t t' t'' : gr_t} {hb ub nb hb' ub' nb' n n' c c' us nd p k i j e : Nat} {K : gs_K} {s s' : gs_S} {o : Nat}
theorem gr_kp.refl : gr_kp hb ub nb t t := ⟨fun _ _ _ => rfl, fun _ _ _ => rfl⟩
theorem gr_kp.trans (a : gr_kp hb ub nb t t') (b : gr_kp hb ub nb t' t'') : gr_kp hb ub nb t t'' := ⟨fun o i h => (b.1 o i h).trans (a.1 o i h), fun o i h => (b.2 o i h).trans (a.2 o i h)⟩
theorem gr_kp.wk (a : gr_kp hb ub nb t t') (h1 : hb' ≤ hb) (h2 : ub' ≤ ub) (h3 : nb' ≤ nb) : gr_kp hb' ub' nb' t t' := ⟨fun o i h => a.1 o i (by unfold gr_pr at h ⊢; omega), fun o i h => a.2 o i (by unfold gr_prl at h ⊢; omega)⟩
theorem gr_kp.ui {x : Int32} (a : gr_kp hb ub nb t t') (h : ¬ gr_pr hb nb o i) : gr_kp hb ub nb t (gr_ui t' o i x) := by
  refine ⟨fun o2 i2 h2 => ?_, a.2⟩
  show (if o2 = o ∧ i2 = i then x else t'.1 o2 i2) = _
  rw [if_neg (fun z => h (by rw [← z.1, ← z.2]; exact h2))]
  exact a.1 o2 i2 h2
theorem gr_kp.ul {x : Int64} (a : gr_kp hb ub nb t t') (h : ¬ gr_prl ub nb o i) : gr_kp hb ub nb t (gr_ul t' o i x) := by
  refine ⟨a.1, fun o2 i2 h2 => ?_⟩
  show (if o2 = o ∧ i2 = i then x else t'.2 o2 i2) = _
  rw [if_neg (fun z => h (by rw [← z.1, ← z.2]; exact h2))]
  exact a.2 o2 i2 h2
theorem gr_fr.refl : gr_fr n t t := fun _ _ _ _ _ => rfl
theorem gr_fr.trans (a : gr_fr n t t') (b : gr_fr n t' t'') : gr_fr n t t'' := fun o i h1 h2 h3 => (b o i h1 h2 h3).trans (a o i h1 h2 h3)
theorem gr_fr.wk (a : gr_fr n t t') (h : n' ≤ n) : gr_fr n' t t' := fun o i h1 h2 h3 => a o i h1 h2 (by omega)
theorem gr_fr.ui {x : Int32} (a : gr_fr n t t') (h : o < 28 ∨ 34 < o ∨ n ≤ i) : gr_fr n t (gr_ui t' o i x) := by
  intro o2 i2 h1 h2 h3
  show (if o2 = o ∧ i2 = i then x else t'.1 o2 i2) = _
  rw [if_neg (by omega)]
  exact a o2 i2 h1 h2 h3
theorem gr_fr.ul {x : Int64} (a : gr_fr n t t') : gr_fr n t (gr_ul t' o i x) := a
theorem gr_hm.refl : gr_hm t t := ⟨fun _ _ _ _ => rfl, rfl⟩
theorem gr_hm.trans (a : gr_hm t t') (b : gr_hm t' t'') : gr_hm t t'' := ⟨fun o i h1 h2 => (b.1 o i h1 h2).trans (a.1 o i h1 h2), b.2.trans a.2⟩
theorem gr_hm.ui {x : Int32} (a : gr_hm t t') (h : 28 ≤ o ∨ (o = 0 ∧ (i = 8 ∨ i = 9 ∨ i = 47))) : gr_hm t (gr_ui t' o i x) := by
  refine ⟨fun o2 i2 h1 h2 => ?_, a.2⟩
  show (if o2 = o ∧ i2 = i then x else t'.1 o2 i2) = _
  rw [if_neg (by omega)]
  exact a.1 o2 i2 h1 h2
theorem gr_hm.kp (a : gr_hm t t') : gr_kp hb ub nb t t' := ⟨fun o i h => a.1 o i (by unfold gr_pr at h; omega) (fun z => by unfold gr_pr at h; omega), fun o i h => by rw [a.2]⟩
/-- pushing, giving -/
theorem gr_hm.push {k d a b : Int32} (q : gr_hm t t') : gr_hm t (gr_push t' p k d a b) := by
  unfold gr_push
  exact (((((((q.ui (by omega)).ui (by omega)).ui (by omega)).ui (by omega)).ui (by omega)).ui (by omega)).ui (by omega)).ui (by omega)
theorem gr_hm.give {v : Int32} (q : gr_hm t t') : gr_hm t (gr_give t' v) := by
  unfold gr_give
  exact (q.ui (by omega)).ui (by omega)
theorem gr_fr.push {k d a b : Int32} (q : gr_fr n t t') (h : n ≤ p) : gr_fr n t (gr_push t' p k d a b) := by
  unfold gr_push
  exact (((((((q.ui (by omega)).ui (by omega)).ui (by omega)).ui (by omega)).ui (by omega)).ui (by omega)).ui (by omega)).ui (by omega)
theorem gr_fr.give {v : Int32} (q : gr_fr n t t') : gr_fr n t (gr_give t' v) := by
  unfold gr_give
  exact (q.ui (by omega)).ui (by omega)
end N1
/-- a handle; its descriptors lie below nd -/
def gr_enn (N : Nat → Prop) (t : gr_t) (K : gs_K) (i : Nat) (q : Int32 × List gs_L) : Prop :=
  (t.1 16 i = 0 ∧ q = (-1, [])) ∨ (t.1 16 i = 1 ∧ q.1 = -1 ∧ q.2 ≠ [] ∧ gr_chn N t K q.2 (t.1 17 i)) ∨ (t.1 16 i = 2 ∧ q.2 = [] ∧ ¬ q.1 < 0 ∧ t.1 17 i = q.1) ∨ (t.1 16 i = 3 ∧ q = (-2, []))
def gr_hh (N : Nat → Prop) (t : gr_t) (K : gs_K) (s : gs_S) : Prop := t.1 0 28 = nI (gs_size s) ∧ gs_size s ≤ 130 ∧ gs_f1 s ≤ (gs_hs s).length ∧ ∀ (i : Nat) (q : Int32 × List gs_L), i < gs_size s → (gs_hs s)[gs_f1 s + i]? = some q → gr_enn N t K i q
def gr_pp (us : Nat) (t : gr_t) (K : gs_K) (hp : List gs_O) : Prop := t.1 0 23 = nI hp.length ∧ ∀ (i : Nat) (o : gs_O), hp[i]? = some o → gr_ob t K us i o
/-- the rows that may stand in a chain: those but of descriptors under way -/
def gr_NX (X : Nat → Prop) (nd : Nat) : Nat → Prop := fun k => k < nd ∧ ¬ X k
/-- under way, with a credit of c bytes; X: descriptors under way -/
def gr_Y (X : Nat → Prop) (c us nd : Nat) (t : gr_t) (K : gs_K) (s : gs_S) : Prop := (gr_lm t K) ∧ (gr_B t K) ∧ (gr_C t K) ∧ (gs_wf K) ∧ (gs_ndK K) ∧ (t.1 0 6 = nI (gs_pl s)) ∧ (gs_pl s ≤ gs_n K) ∧ (gr_pp us t K (gs_hp s)) ∧ (gr_hh (gr_NX X nd) t K s) ∧ (∀ k, X k → k < nd) ∧ (t.1 0 25 = nI us) ∧ (us + 4 * c ≤ 4 * gs_pl s) ∧ (t.1 0 39 = nI nd) ∧ (11 * nd ≤ gs_pl s) ∧ (gr_dj t (gs_hp s)) ∧ (gs_hin s) ∧ (gs_lok s) ∧ (3 * (gs_hp s).length + c ≤ gs_pl s) ∧ (3 * (gs_hs s).length + c ≤ gs_pl s)
theorem gr_Y.mk {X : Nat → Prop} {c us nd : Nat} {t : gr_t} {K : gs_K} {s : gs_S} (lm : gr_lm t K) (B : gr_B t K) (C : gr_C t K) (wf : gs_wf K) (ndK : gs_ndK K) (pl : t.1 0 6 = nI (gs_pl s)) (pn : gs_pl s ≤ gs_n K) (pp : gr_pp us t K (gs_hp s)) (hh : gr_hh (gr_NX X nd) t K s) (xb : ∀ k, X k → k < nd) (u : t.1 0 25 = nI us) (ub : us + 4 * c ≤ 4 * gs_pl s) (n : t.1 0 39 = nI nd) (nb : 11 * nd ≤ gs_pl s) (dj : gr_dj t (gs_hp s)) (hin : gs_hin s) (lok : gs_lok s) (hb : 3 * (gs_hp s).length + c ≤ gs_pl s) (eb : 3 * (gs_hs s).length + c ≤ gs_pl s) : gr_Y X c us nd t K s := ⟨lm, B, C, wf, ndK, pl, pn, pp, hh, xb, u, ub, n, nb, dj, hin, lok, hb, eb⟩
theorem gr_Y.lm {X : Nat → Prop} {c us nd : Nat} {t : gr_t} {K : gs_K} {s : gs_S} (h : gr_Y X c us nd t K s) : gr_lm t K := h.1
theorem gr_Y.B {X : Nat → Prop} {c us nd : Nat} {t : gr_t} {K : gs_K} {s : gs_S} (h : gr_Y X c us nd t K s) : gr_B t K := h.2.1
theorem gr_Y.C {X : Nat → Prop} {c us nd : Nat} {t : gr_t} {K : gs_K} {s : gs_S} (h : gr_Y X c us nd t K s) : gr_C t K := h.2.2.1
theorem gr_Y.wf {X : Nat → Prop} {c us nd : Nat} {t : gr_t} {K : gs_K} {s : gs_S} (h : gr_Y X c us nd t K s) : gs_wf K := h.2.2.2.1
theorem gr_Y.ndK {X : Nat → Prop} {c us nd : Nat} {t : gr_t} {K : gs_K} {s : gs_S} (h : gr_Y X c us nd t K s) : gs_ndK K := h.2.2.2.2.1
theorem gr_Y.pl {X : Nat → Prop} {c us nd : Nat} {t : gr_t} {K : gs_K} {s : gs_S} (h : gr_Y X c us nd t K s) : t.1 0 6 = nI (gs_pl s) := h.2.2.2.2.2.1
theorem gr_Y.pn {X : Nat → Prop} {c us nd : Nat} {t : gr_t} {K : gs_K} {s : gs_S} (h : gr_Y X c us nd t K s) : gs_pl s ≤ gs_n K := h.2.2.2.2.2.2.1
theorem gr_Y.pp {X : Nat → Prop} {c us nd : Nat} {t : gr_t} {K : gs_K} {s : gs_S} (h : gr_Y X c us nd t K s) : gr_pp us t K (gs_hp s) := h.2.2.2.2.2.2.2.1
theorem gr_Y.hh {X : Nat → Prop} {c us nd : Nat} {t : gr_t} {K : gs_K} {s : gs_S} (h : gr_Y X c us nd t K s) : gr_hh (gr_NX X nd) t K s := h.2.2.2.2.2.2.2.2.1
theorem gr_Y.xb {X : Nat → Prop} {c us nd : Nat} {t : gr_t} {K : gs_K} {s : gs_S} (h : gr_Y X c us nd t K s) : ∀ k, X k → k < nd := h.2.2.2.2.2.2.2.2.2.1
theorem gr_Y.u {X : Nat → Prop} {c us nd : Nat} {t : gr_t} {K : gs_K} {s : gs_S} (h : gr_Y X c us nd t K s) : t.1 0 25 = nI us := h.2.2.2.2.2.2.2.2.2.2.1
theorem gr_Y.ub {X : Nat → Prop} {c us nd : Nat} {t : gr_t} {K : gs_K} {s : gs_S} (h : gr_Y X c us nd t K s) : us + 4 * c ≤ 4 * gs_pl s := h.2.2.2.2.2.2.2.2.2.2.2.1
theorem gr_Y.n {X : Nat → Prop} {c us nd : Nat} {t : gr_t} {K : gs_K} {s : gs_S} (h : gr_Y X c us nd t K s) : t.1 0 39 = nI nd := h.2.2.2.2.2.2.2.2.2.2.2.2.1
theorem gr_Y.nb {X : Nat → Prop} {c us nd : Nat} {t : gr_t} {K : gs_K} {s : gs_S} (h : gr_Y X c us nd t K s) : 11 * nd ≤ gs_pl s := h.2.2.2.2.2.2.2.2.2.2.2.2.2.1
theorem gr_Y.dj {X : Nat → Prop} {c us nd : Nat} {t : gr_t} {K : gs_K} {s : gs_S} (h : gr_Y X c us nd t K s) : gr_dj t (gs_hp s) := h.2.2.2.2.2.2.2.2.2.2.2.2.2.2.1
theorem gr_Y.hin {X : Nat → Prop} {c us nd : Nat} {t : gr_t} {K : gs_K} {s : gs_S} (h : gr_Y X c us nd t K s) : gs_hin s := h.2.2.2.2.2.2.2.2.2.2.2.2.2.2.2.1
theorem gr_Y.lok {X : Nat → Prop} {c us nd : Nat} {t : gr_t} {K : gs_K} {s : gs_S} (h : gr_Y X c us nd t K s) : gs_lok s := h.2.2.2.2.2.2.2.2.2.2.2.2.2.2.2.2.1
theorem gr_Y.hb {X : Nat → Prop} {c us nd : Nat} {t : gr_t} {K : gs_K} {s : gs_S} (h : gr_Y X c us nd t K s) : 3 * (gs_hp s).length + c ≤ gs_pl s := h.2.2.2.2.2.2.2.2.2.2.2.2.2.2.2.2.2.1
theorem gr_Y.eb {X : Nat → Prop} {c us nd : Nat} {t : gr_t} {K : gs_K} {s : gs_S} (h : gr_Y X c us nd t K s) : 3 * (gs_hs s).length + c ≤ gs_pl s := h.2.2.2.2.2.2.2.2.2.2.2.2.2.2.2.2.2.2
section N1b
variable {N N' X : Nat → Prop} {t t' t'' : gr_t} {hb ub nb hb' ub' nb' n n' c c' us nd p k i j e : Nat} {K : gs_K} {s s' : gs_S} {o : Nat}
theorem gr_enn.en (hn : ∀ k, N k → k < 130) {q : Int32 × List gs_L} (h : gr_enn N t K i q) : gr_en t K i q := by
  rcases h with h | ⟨a, b, c, d⟩ | h | h
  · exact Or.inl h
  · exact Or.inr (Or.inl ⟨a, b, c, d.ch hn⟩)
  · exact Or.inr (Or.inr (Or.inl h))
  · exact Or.inr (Or.inr (Or.inr h))
theorem gr_Y.hs (Y : gr_Y X c us nd t K s) : gr_hs t K s := by
  have h1 := Y.nb
  have h2 := Y.pn
  have h3 := Y.B.2.1
  exact ⟨Y.hh.1, Y.hh.2.1, Y.hh.2.2.1, fun i q hi hq => (Y.hh.2.2.2 i q hi hq).en (fun k hk => by have := hk.1; omega)⟩
theorem gr_Y.hp (Y : gr_Y X c us nd t K s) : gr_hp t K (gs_hp s) := by
  have h0 := Y.ub
  have h1 := Y.hb
  have h2 := Y.pn
  have h3 := Y.B.2.1
  exact ⟨us, Y.u, by omega, Y.pp.1, by omega, Y.pp.2⟩
theorem gr_chn.up (hn : ∀ k, N k → N' k) : ∀ (L : List gs_L) (i : Int32), gr_chn N t K L i → gr_chn N' t K L i
  | [], _, c => c
  | l :: L, i, ⟨k, k0, k1, k2, k3⟩ => ⟨k, k0, hn k k1, k2, gr_chn.up hn L _ k3⟩
theorem gr_Y.toX {lf : Int32} (Y : gr_Y X 0 us nd t K s) (h7 : t.1 0 7 = lf) : gr_X t K s lf := by
  refine ⟨Y.lm, Y.B, Y.C, ⟨Y.wf, Y.ndK⟩, ⟨Y.pl, Y.pn⟩, h7, Y.hp, Y.hs, ⟨us, nd, Y.u, by have := Y.ub; omega, Y.n, Y.nb, ⟨fun i q hi hq hne => ?_, Y.dj, Y.hin, Y.lok⟩⟩, by have := Y.hb; omega, by have := Y.eb; omega⟩
  rcases Y.hh.2.2.2 i q hi hq with z | z | z | z
  · rw [z.2] at hne; exact absurd rfl hne
  · exact z.2.2.2.up (fun k hk => hk.1)
  · exact absurd z.2.1 hne
  · rw [z.2] at hne; exact absurd rfl hne
theorem gr_X.Y {lf : Int32} (X : gr_X t K s lf) : ∃ us nd, gr_Y (fun _ => False) 0 us nd t K s := by
  obtain ⟨L, B, C, W, P, l7, ⟨us', u1, u2, u3, u4, u5⟩, Hs, ⟨us, nd, n1, n2, n3, n4, Z1, Z2, Z3, Z4⟩, N1, N2⟩ := X
  have b7 := B.2.1
  have p7 := P.2
  have e : us' = us := (nI_eq (by omega) (by omega)).mp (u1.symm.trans n1)
  subst e
  refine ⟨us', nd, L, B, C, W.1, W.2, P.1, P.2, ⟨u3, u5⟩, ⟨Hs.1, Hs.2.1, Hs.2.2.1, fun i q hi hq => ?_⟩, fun k hk => hk.elim, n1, by omega, n3, n4, Z2, Z3, Z4, by omega, by omega⟩
  rcases Hs.2.2.2 i q hi hq with z | z | z | z
  · exact Or.inl z
  · exact Or.inr (Or.inl ⟨z.1, z.2.1, z.2.2.1, (Z1 i q hi hq z.2.2.1).up (fun k hk => ⟨hk, fun y => y⟩)⟩)
  · exact Or.inr (Or.inr (Or.inl z))
  · exact Or.inr (Or.inr (Or.inr z))
theorem gr_Y.wk (Y : gr_Y X c us nd t K s) (h : c' ≤ c) : gr_Y X c' us nd t K s := gr_Y.mk (lm := Y.lm) (B := Y.B) (C := Y.C) (wf := Y.wf) (ndK := Y.ndK) (pl := Y.pl) (pn := Y.pn) (pp := Y.pp) (hh := Y.hh) (xb := Y.xb) (u := Y.u) (ub := by have := Y.ub; omega) (n := Y.n) (nb := Y.nb) (dj := Y.dj) (hin := Y.hin) (lok := Y.lok) (hb := by have := Y.hb; omega) (eb := by have := Y.eb; omega)
/-- descriptors below nd are the same -/
theorem gr_dl.kp {l : gs_L} (q : gr_kp hb ub nb t t') (hk : k < nb) (D : gr_dl t K k l) : gr_dl t' K k l := by
  obtain ⟨a, b, c, e, f, g, i, j⟩ := D
  refine ⟨by rw [q.1 _ _ (by unfold gr_pr; omega)]; exact a, ⟨by rw [q.1 _ _ (by unfold gr_pr; omega)]; exact b.1, b.2⟩, by rw [q.1 _ _ (by unfold gr_pr; omega)]; exact c, by rw [q.2 _ _ (by unfold gr_prl; omega)]; exact e, by rw [q.1 _ _ (by unfold gr_pr; omega)]; exact f, g, i, fun n p hp => ?_⟩
  have := (List.getElem?_eq_some_iff.mp hp).1
  rw [q.1 _ _ (by unfold gr_pr; omega), q.1 _ _ (by unfold gr_pr; omega)]
  exact j n p hp
theorem gr_chn.kp (q : gr_kp hb ub nb t t') (hn : ∀ k, N k → k < nb) : ∀ (L : List gs_L) (i : Int32), gr_chn N t K L i → gr_chn N t' K L i
  | [], _, c => c
  | l :: L, i, ⟨k, k0, k1, k2, k3⟩ => ⟨k, k0, k1, ⟨k2.1.kp q (hn k k1), k2.2⟩, by rw [q.1 _ _ (by have := hn k k1; unfold gr_pr; omega)]; exact gr_chn.kp q hn L _ k3⟩
theorem gr_enn.kp {q : Int32 × List gs_L} (k : gr_kp hb ub nb t t') (hn : ∀ k, N k → k < nb) (hle : ∀ k, N k → N' k) (e16 : t'.1 16 i = t.1 16 i) (e17 : t'.1 17 i = t.1 17 i) (h : gr_enn N t K i q) : gr_enn N' t' K i q := by
  unfold gr_enn
  rw [e16, e17]
  rcases h with h | ⟨a, b, c, d⟩ | h | h
  · exact Or.inl h
  · exact Or.inr (Or.inl ⟨a, b, c, (d.kp k hn).up hle⟩)
  · exact Or.inr (Or.inr (Or.inl h))
  · exact Or.inr (Or.inr (Or.inr h))
/-- classes, limits, bytes are the same -/
theorem gr_kp.lm (q : gr_kp hb ub nb t t') (L : gr_lm t K) : gr_lm t' K := by
  obtain ⟨a, b, c, d⟩ := L
  exact ⟨by rw [q.1 _ _ (by unfold gr_pr; omega)]; exact a, by rw [q.1 _ _ (by unfold gr_pr; omega)]; exact b, by rw [q.1 _ _ (by unfold gr_pr; omega)]; exact c, by rw [q.1 _ _ (by unfold gr_pr; omega)]; exact d⟩
theorem gr_kp.gB (q : gr_kp hb ub nb t t') (B : gr_B t K) : gr_B t' K := ⟨by rw [q.1 _ _ (by unfold gr_pr; omega)]; exact B.1, B.2.1, fun i hi => by rw [q.1 _ _ (by unfold gr_pr; omega)]; exact B.2.2 i hi⟩
theorem gr_kp.gC (q : gr_kp hb ub nb t t') (C : gr_C t K) : gr_C t' K := by
  intro c hc
  have z := C c hc
  rw [q.1 _ _ (by unfold gr_pr; omega), q.1 _ _ (by unfold gr_pr; omega), q.1 _ _ (by unfold gr_pr; omega), q.1 _ _ (by unfold gr_pr; omega)]
  cases e : gs_cls K c with
  | none => rw [e] at z; exact z
  | some D =>
    rw [e] at z
    obtain ⟨q1, q2, q3, q4, q5, q6, q7, q8, q9⟩ := z
    refine ⟨q1, q2, by rw [q.1 _ _ (by unfold gr_pr; omega)]; exact q3, by rw [q.2 _ _ (by unfold gr_prl; omega)]; exact q4, q5, q6, q7, q8, fun j p hp => ?_⟩
    rw [q.1 _ _ (by unfold gr_pr; omega), q.1 _ _ (by unfold gr_pr; omega)]
    exact q9 j p hp
/-- an object below hb, its values below ub -/
theorem gr_ob.kp {w : gs_O} (q : gr_kp hb ub nb t t') (hi : i < hb) (hu : us ≤ ub) (hle : us ≤ n) (O : gr_ob t K us i w) : gr_ob t' K n i w := by
  obtain ⟨a, b, c, e, f, g, i1, j, k⟩ := O
  refine ⟨by rw [q.1 _ _ (by unfold gr_pr; omega)]; exact a, b, by rw [q.1 _ _ (by unfold gr_pr; omega)]; exact c, e, by rw [q.1 _ _ (by unfold gr_pr; omega)]; exact f, by rw [q.1 _ _ (by unfold gr_pr; omega)]; exact g, i1, j, ?_⟩
  unfold gr_ov at k ⊢
  rw [q.1 _ _ (by unfold gr_pr; omega)]
  by_cases s1 : w.1 = 1
  · rw [if_pos s1] at k ⊢; exact k
  · rw [if_neg s1] at k ⊢
    by_cases s2 : w.1 = 2
    · rw [if_pos s2] at k ⊢; exact k
    · rw [if_neg s2] at k ⊢
      obtain ⟨y, y1, y2, y3⟩ := k
      refine ⟨y, y1, by omega, fun n v hv => ?_⟩
      have := (List.getElem?_eq_some_iff.mp hv).1
      rw [q.2 _ _ (by unfold gr_prl; omega)]
      exact y3 n v hv
theorem gr_dj.kp {hp : List gs_O} (q : gr_kp hb ub nb t t') (hl : hp.length ≤ hb) (D : gr_dj t hp) : gr_dj t' hp := by
  intro i j oi oj hij hi hj si sj
  have l1 := (List.getElem?_eq_some_iff.mp hi).1
  have l2 := (List.getElem?_eq_some_iff.mp hj).1
  rw [q.1 _ _ (by unfold gr_pr; omega), q.1 _ _ (by unfold gr_pr; omega)]
  exact D i j oi oj hij hi hj si sj
/-- all of it, from the protected cells and the counters; handles' own two rows too -/
theorem gr_Y.kp (Y : gr_Y X c us nd t K s) (q : gr_kp (gs_hp s).length us nd t t') (h6 : t'.1 0 6 = nI p) (hp : gs_pl s ≤ p) (hpn : p ≤ gs_n K) (hc : c' + gs_pl s ≤ c + p) (h23 : t'.1 0 23 = t.1 0 23) (h25 : t'.1 0 25 = t.1 0 25) (h28 : t'.1 0 28 = t.1 0 28) (h39 : t'.1 0 39 = t.1 0 39) (e : ∀ i, i < gs_size s → t'.1 16 i = t.1 16 i ∧ t'.1 17 i = t.1 17 i) : gr_Y X c' us nd t' K (gs_p p s) :=
  gr_Y.mk
    (lm := q.lm Y.lm)
    (B := q.gB Y.B)
    (C := q.gC Y.C)
    (wf := Y.wf)
    (ndK := Y.ndK)
    (pl := h6)
    (pn := hpn)
    (pp := ⟨h23.trans Y.pp.1, fun i o ho => (Y.pp.2 i o ho).kp q (List.getElem?_eq_some_iff.mp ho).1 (Nat.le_refl _) (Nat.le_refl _)⟩)
    (hh := ⟨h28.trans Y.hh.1, Y.hh.2.1, Y.hh.2.2.1, fun i w hi hw => (Y.hh.2.2.2 i w hi hw).kp q (fun k hk => hk.1) (fun k hk => hk) (e i hi).1 (e i hi).2⟩)
    (xb := Y.xb)
    (u := h25.trans Y.u)
    (ub := by have := Y.ub; show us + 4 * c' ≤ 4 * p; omega)
    (n := h39.trans Y.n)
    (nb := by have := Y.nb; show 11 * nd ≤ p; omega)
    (dj := Y.dj.kp q (Nat.le_refl _))
    (hin := Y.hin)
    (lok := Y.lok)
    (hb := by have := Y.hb; show 3 * (gs_hp s).length + c' ≤ p; omega)
    (eb := by have := Y.eb; show 3 * (gs_hs s).length + c' ≤ p; omega)
theorem gr_Y.hm (Y : gr_Y X c us nd t K s) (q : gr_hm t t') : gr_Y X c us nd t' K s := by
  have z : ∀ i, i ≠ 8 → i ≠ 9 → i ≠ 47 → t'.1 0 i = t.1 0 i := fun i a b d => q.1 0 i (by decide) (fun _ => ⟨a, b, d⟩)
  exact Y.kp q.kp ((z 6 (by decide) (by decide) (by decide)).trans Y.pl) (Nat.le_refl _) Y.pn (Nat.le_refl _) (z _ (by decide) (by decide) (by decide)) (z _ (by decide) (by decide) (by decide)) (z _ (by decide) (by decide) (by decide)) (z _ (by decide) (by decide) (by decide)) (fun i _ => ⟨q.1 _ _ (by decide) (fun z => absurd z (by decide)), q.1 _ _ (by decide) (fun z => absurd z (by decide))⟩)
/-- bytes passed -/
theorem gr_Y.place (Y : gr_Y X c us nd t K s) (hk : gs_pl s + k ≤ gs_n K) : gr_Y X (c + k) us nd (gr_ui t 0 6 (nI (gs_pl s + k))) K (gs_p (gs_pl s + k) s) := by
  have z : ∀ i, i ≠ 6 → (gr_ui t 0 6 (nI (gs_pl s + k))).1 0 i = t.1 0 i := fun i hi => gr_ui_ni hi
  exact Y.kp (gr_kp.refl.ui (by unfold gr_pr; omega)) gr_ui_eq (by omega) hk (by omega) (z _ (by decide)) (z _ (by decide)) (z _ (by decide)) (z _ (by decide)) (fun i _ => ⟨gr_ui_no (by decide), gr_ui_no (by decide)⟩)
theorem gr_Y.to {s1 : gs_S} (Y : gr_Y X c us nd t K s) (hs : s1.2 = s.2) (hp : gs_pl s + k ≤ gs_pl s1) (hk : gs_pl s1 ≤ gs_n K) : gr_Y X (c + k) us nd (gr_ui t 0 6 (nI (gs_pl s1))) K s1 := by
  obtain ⟨j, hj⟩ : ∃ j, gs_pl s1 = gs_pl s + j := ⟨gs_pl s1 - gs_pl s, by omega⟩
  have e : s1 = gs_p (gs_pl s + j) s := by
    obtain ⟨a, b⟩ := s1
    obtain ⟨a2, b2⟩ := s
    cases hs
    cases hj
    rfl
  rw [hj, e]
  exact (Y.place (by omega)).wk (by omega)
end N1b
