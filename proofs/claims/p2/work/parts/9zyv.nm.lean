/-! THE REFERENCE, 49: arrays of references; of ints, plainly. -/
section NM
variable {X N : Nat → Prop} {E : Nat → Value} {d m f n p dp c us nd k e o j cnt hb ub nb B pp a : Nat} {h : gm_H} {t t' : gr_t} {K : gs_K} {s s' s'' : gs_S} {rc : gs_M Int32} {P : gr_t → Prop} {l : gs_L} {Q : gm_R → gm_H → Prop}
/-- an element has been read -/
theorem gr_sr4 {v : Int32} {n : Nat} (hd : 3 ≤ d) (h47 : t.1 0 47 = nI (f + 1)) (hf : f < 79) (h28 : t.1 28 f = 1) (h29 : t.1 29 f = 4) (h30 : t.1 30 f = nI dp) (h31 : t.1 31 f = nI o) (h32 : t.1 32 f = nI j) (ho : o < 720) (h13 : t.1 13 o = nI a) (h12 : t.1 12 o = nI n) (h9 : t.1 0 9 = v) (haj : a + j < 4000) (hn : n < 2 ^ 31) (hj : j < 2 ^ 30) : gr_st E d h m t (fun t' => (j + 1 = n → t' = gr_give (gr_ui (gr_ul t 15 (a + j) v.toInt64) 32 f (nI (j + 1))) (nI o)) ∧ (j + 1 ≠ n → t' = gr_push (gr_ui (gr_ul t 15 (a + j) v.toInt64) 32 f (nI (j + 1))) (f + 1) 1 (nI (dp + 1)) 0 0)) := by
  refine gr_st1 (by omega) h47 (by omega) h28 ?_
  obtain ⟨Q, hQ⟩ : ∃ Q, Q = gr_ps h m (fun t' => (j + 1 = n → t' = gr_give (gr_ui (gr_ul t 15 (a + j) v.toInt64) 32 f (nI (j + 1))) (nI o)) ∧ (j + 1 ≠ n → t' = gr_push (gr_ui (gr_ul t 15 (a + j) v.toInt64) 32 f (nI (j + 1))) (f + 1) 1 (nI (dp + 1)) 0 0)) := ⟨_, rfl⟩
  rw [← hQ]
  have f80 : f < 80 := by omega
  have w0 : ¬ (4 : Int32) = 0 := by decide
  have w1 : ¬ (4 : Int32) = 1 := by decide
  have w2 : ¬ (4 : Int32) = 2 := by decide
  have w3 : ¬ (4 : Int32) = 3 := by decide
  have ea : nI a + nI j = nI (a + j) := nI_add _ _
  obtain ⟨t1, ht1⟩ : ∃ t1, t1 = gr_ui (gr_ul t 15 (a + j) v.toInt64) 32 f (nI (j + 1)) := ⟨_, rfl⟩
  have e31 : t1.1 31 f = nI o := by rw [ht1, gr_ui_no (by decide)]; exact h31
  have e32 : t1.1 32 f = nI (j + 1) := by rw [ht1, gr_ui_eq]
  have e12 : t1.1 12 o = nI n := by rw [ht1, gr_ui_no (by decide)]; exact h12
  have e30 : t1.1 30 f = nI dp := by rw [ht1, gr_ui_no (by decide)]; exact h30
  have e47 : t1.1 0 47 = nI (f + 1) := by rw [ht1, gr_ui_no (by decide)]; exact h47
  have c32 : (gr_ul t 15 (a + j) v.toInt64).1 32 f = nI j := h32
  show gm_W E (d - 1) 30 0 [.ref m, .int (nI f)] [] (gr_H h m t) Q
  simp only [r30_0, r30_0n, r30_1, r30_4, r30_5, r30_6, r30_48, r30_48n, r30_49, r30_53, r30_56, r30_56n, r30_57, r30_61, r30_64, r30_64n, r30_65, r30_69, r30_72, r30_72n, r30_73, r30_77, r30_80, r30_80n, r30_81, r30_84, r30_84n, r30_85, r30_88, r30_88n, r30_89, r30_92, r30_93, r30_94, r30_95, r30_95n, r30_96, r30_99, r30_100, r30_101, r30_102, r30_102n, r30_103, r30_106, r30_107, r30_108, r30_108n, r30_109, r30_112, r30_113, r30_114, r30_115, r30_116, r30_117, r30_118, r30_118n, r30_119, r30_123, r30_126, r30_126n, r30_127, r30_131, r30_134, r30_134n, r30_135, r30_139, r30_142, r30_142n, r30_143, r30_148, i32_10, reduceIte, gm_cmp1, gm_cmp3, gm_cmp4, gm_kd_sf, gm_ln_sf, gm_sf_1, gm_sf_2, gm_nw_1, gm_nw_2, gm_k_int, gm_k_ref, gm_k_null, gm_k_u, gm_k_long, and_true, true_and, true_or, or_true, or_false, false_or, and_self, or_self, if_true, if_false, List.map_nil, List.map_cons, List.sum_nil, List.sum_cons, Nat.zero_le, Option.toList_some, Option.toList_none, List.cons_append, List.nil_append, ne_eq, not_false_eq_true, not_true_eq_false, nI_1, nI_add, Value.category, Nat.reduceAdd, Nat.reduceMod, Nat.reduceLeDiff, Nat.reduceLT, Nat.reduceEqDiff, Nat.reducePow, Nat.le_refl, Nat.add_left_cancel_iff, Nat.add_eq_left, Nat.left_eq_add, Nat.add_zero, g_k0, g_k1, g_l1, g_p4, g_a1, g_w1, g_k2, g_l2, g_p10, g_a2, g_w2, g_k3, g_l3, g_p11, g_a3, g_w3, g_k4, g_l4, g_p12, g_a4, g_w4, g_k5, g_l5, g_p13, g_a5, g_w5, g_k6, g_l6, g_p14, g_a6, g_w6, g_k7, g_l7, g_p15, g_a7, g_w7, g_k8, g_l8, g_p16, g_a8, g_w8, g_k9, g_l9, g_p17, g_a9, g_w9, g_k10, g_l10, g_p18, g_a10, g_w10, g_k11, g_l11, g_p19, g_a11, g_w11, g_k12, g_l12, g_p20, g_a12, g_w12, g_k13, g_l13, g_p21, g_a13, g_w13, g_k14, g_l14, g_p22, g_a14, g_w14, g_k15, g_l15, g_p24, g_a15, g_w15, g_k16, g_l16, g_p26, g_a16, g_w16, g_k17, g_l17, g_p27, g_a17, g_w17, g_k18, g_l18, g_p29, g_a18, g_w18, g_k19, g_l19, g_p30, g_a19, g_w19, g_k20, g_l20, g_p31, g_a20, g_w20, g_k21, g_l21, g_p32, g_a21, g_w21, g_k22, g_l22, g_p33, g_a22, g_w22, g_k23, g_l23, g_p34, g_a23, g_w23, g_k24, g_l24, g_p35, g_a24, g_w24, g_k25, g_l25, g_p36, g_a25, g_w25, g_k26, g_l26, g_p37, g_a26, g_w26, g_k27, g_l27, g_p38, g_a27, g_w27, g_k28, g_l28, g_p40, g_a28, g_w28, g_k29, g_l29, g_p41, g_a29, g_w29, g_k30, g_l30, g_p42, g_a30, g_w30, g_k31, g_l31, g_p43, g_a31, g_w31, g_k32, g_l32, g_p44, g_a32, g_w32, g_k33, g_l33, g_p45, g_a33, g_w33, g_k34, g_l34, g_p46, g_a34, g_w34, g_f0, g_s0, g_f1, g_s1, g_f2, g_s2, g_f3, g_s3, g_f5, g_s5, g_f6, g_s6, g_f7, g_s7, g_f8, g_s8, g_f9, g_s9, g_f23, g_s23, g_f25, g_s25, g_f28, g_s28, g_f39, g_s39, g_f47, g_s47, gr_ui_eq, gr_ui_2, gr_ul_eq, gr_ul_1, gr_ui_no, gr_ui_ni, gr_ul_no, gr_ul_ni, f80, h29, w0, w1, w2, w3, eq_self, h31, ho, h13, h32, ea, haj, h9]
  rw [← ht1]
  by_cases z : j + 1 = n
  · refine c30_120 (by simp) g_k0 (by omega) (m_elE (o := o) (by omega) f80 ho e31 (by rw [e32, e12, z])) (gx_kn ?_) gx_kx
    simp only [r30_0, r30_0n, r30_1, r30_4, r30_5, r30_6, r30_48, r30_48n, r30_49, r30_53, r30_56, r30_56n, r30_57, r30_61, r30_64, r30_64n, r30_65, r30_69, r30_72, r30_72n, r30_73, r30_77, r30_80, r30_80n, r30_81, r30_84, r30_84n, r30_85, r30_88, r30_88n, r30_89, r30_92, r30_93, r30_94, r30_95, r30_95n, r30_96, r30_99, r30_100, r30_101, r30_102, r30_102n, r30_103, r30_106, r30_107, r30_108, r30_108n, r30_109, r30_112, r30_113, r30_114, r30_115, r30_116, r30_117, r30_118, r30_118n, r30_119, r30_123, r30_126, r30_126n, r30_127, r30_131, r30_134, r30_134n, r30_135, r30_139, r30_142, r30_142n, r30_143, r30_148, i32_10, reduceIte, gm_cmp1, gm_cmp3, gm_cmp4, gm_kd_sf, gm_ln_sf, gm_sf_1, gm_sf_2, gm_nw_1, gm_nw_2, gm_k_int, gm_k_ref, gm_k_null, gm_k_u, gm_k_long, and_true, true_and, true_or, or_true, or_false, false_or, and_self, or_self, if_true, if_false, List.map_nil, List.map_cons, List.sum_nil, List.sum_cons, Nat.zero_le, Option.toList_some, Option.toList_none, List.cons_append, List.nil_append, ne_eq, not_false_eq_true, not_true_eq_false, nI_1, nI_add, Value.category, Nat.reduceAdd, Nat.reduceMod, Nat.reduceLeDiff, Nat.reduceLT, Nat.reduceEqDiff, Nat.reducePow, Nat.le_refl, Nat.add_left_cancel_iff, Nat.add_eq_left, Nat.left_eq_add, Nat.add_zero]
    rw [hQ, ht1]
    exact gr_ps.ok ⟨fun _ => rfl, fun y => absurd z y⟩
  · refine c30_120 (by simp) g_k0 (by omega) (m_elN (o := o) (by omega) hf ho e47 e30 e31 (by rw [e32, e12]; exact fun y => z ((nI_eq (by omega) hn).mp y))) (gx_kn ?_) gx_kx
    simp only [r30_0, r30_0n, r30_1, r30_4, r30_5, r30_6, r30_48, r30_48n, r30_49, r30_53, r30_56, r30_56n, r30_57, r30_61, r30_64, r30_64n, r30_65, r30_69, r30_72, r30_72n, r30_73, r30_77, r30_80, r30_80n, r30_81, r30_84, r30_84n, r30_85, r30_88, r30_88n, r30_89, r30_92, r30_93, r30_94, r30_95, r30_95n, r30_96, r30_99, r30_100, r30_101, r30_102, r30_102n, r30_103, r30_106, r30_107, r30_108, r30_108n, r30_109, r30_112, r30_113, r30_114, r30_115, r30_116, r30_117, r30_118, r30_118n, r30_119, r30_123, r30_126, r30_126n, r30_127, r30_131, r30_134, r30_134n, r30_135, r30_139, r30_142, r30_142n, r30_143, r30_148, i32_10, reduceIte, gm_cmp1, gm_cmp3, gm_cmp4, gm_kd_sf, gm_ln_sf, gm_sf_1, gm_sf_2, gm_nw_1, gm_nw_2, gm_k_int, gm_k_ref, gm_k_null, gm_k_u, gm_k_long, and_true, true_and, true_or, or_true, or_false, false_or, and_self, or_self, if_true, if_false, List.map_nil, List.map_cons, List.sum_nil, List.sum_cons, Nat.zero_le, Option.toList_some, Option.toList_none, List.cons_append, List.nil_append, ne_eq, not_false_eq_true, not_true_eq_false, nI_1, nI_add, Value.category, Nat.reduceAdd, Nat.reduceMod, Nat.reduceLeDiff, Nat.reduceLT, Nat.reduceEqDiff, Nat.reducePow, Nat.le_refl, Nat.add_left_cancel_iff, Nat.add_eq_left, Nat.left_eq_add, Nat.add_zero]
    rw [hQ, ht1]
    exact gr_ps.ok ⟨fun y => absurd y z, fun _ => rfl⟩
theorem gr_refs1 (RC : gr_RC E d h m K (dp + 1) rc) (hd : 12 ≤ d) (hdp : 1 ≤ dp ∧ dp ≤ 8) {n a us0 nd0 : Nat} {t0 : gr_t} {s0 : gs_S} (ha0 : us0 ≤ a) (ha4 : a ≤ 4000) (hn20 : n ≤ 20)  (k : Nat) (ih : k ≠ 0 → (∀ (j us nd : Nat) (t : gr_t) (s : gs_S) (w : gs_O), j + (k - 1 + 1) = n → gr_Y X c us nd t K s → t.1 0 8 = 0 → t.1 0 47 = nI (f + 2) → (t.1 28 f = 1 ∧ t.1 29 f = 4 ∧ t.1 30 f = nI dp ∧ t.1 31 f = nI o ∧ t.1 32 f = nI j) → (t.1 28 (f + 1) = 1 ∧ t.1 29 (f + 1) = 0 ∧ t.1 30 (f + 1) = nI (dp + 1)) → 14 * f + 14 ≤ 42 * dp + gs_pl s → (gs_hp s)[o]? = some w → w.1 = 3 → w.2.2.1.length = n → t.1 13 o = nI a → us0 ≤ us ∧ nd0 ≤ nd → gr_fr f t0 t → gr_eh (gs_size s0) t0 t → gr_kp (gs_hp s0).length us0 nd0 t0 t → gs_ap s0 s → (gs_hp s0).length ≤ o →
    gr_Rn E d h m (gr_O K X c us0 nd0 f f t0 s0 (gr_W dp) (gs_b (gs_refs rc o (k - 1 + 1) j) (fun _ => gs_r (nI o)) s)) t)) : (∀ (j us nd : Nat) (t : gr_t) (s : gs_S) (w : gs_O), j + (k + 1) = n → gr_Y X c us nd t K s → t.1 0 8 = 0 → t.1 0 47 = nI (f + 2) → (t.1 28 f = 1 ∧ t.1 29 f = 4 ∧ t.1 30 f = nI dp ∧ t.1 31 f = nI o ∧ t.1 32 f = nI j) → (t.1 28 (f + 1) = 1 ∧ t.1 29 (f + 1) = 0 ∧ t.1 30 (f + 1) = nI (dp + 1)) → 14 * f + 14 ≤ 42 * dp + gs_pl s → (gs_hp s)[o]? = some w → w.1 = 3 → w.2.2.1.length = n → t.1 13 o = nI a → us0 ≤ us ∧ nd0 ≤ nd → gr_fr f t0 t → gr_eh (gs_size s0) t0 t → gr_kp (gs_hp s0).length us0 nd0 t0 t → gs_ap s0 s → (gs_hp s0).length ≤ o →
    gr_Rn E d h m (gr_O K X c us0 nd0 f f t0 s0 (gr_W dp) (gs_b (gs_refs rc o (k + 1) j) (fun _ => gs_r (nI o)) s)) t) := by
  intro j us nd t s w hj Y h8 h47 hf hf1 h14 hw w1 wl h13 g0 F0 E0 K0 ap ho
  obtain ⟨f28, f29, f30, f31, f32⟩ := hf
  have n7 := Y.n7
  have pn := Y.pn
  have hb := Y.hb
  have ol := (List.getElem?_eq_some_iff.mp hw).1
  have f79 : f < 78 := by omega
  rw [show gs_b (gs_refs rc o (k + 1) j) (fun _ => gs_r (nI o)) s = gs_b rc (fun v => gs_b (gs_b (gs_mod o (fun ob => (ob.1, ob.2.1, ob.2.2.1.set j v.toInt64, ob.2.2.2))) fun _ => gs_refs rc o k (j + 1)) (fun _ => gs_r (nI o))) s from gs_bb]
  refine (RC X c us nd (f + 1) t s Y h8 h47 hf1 (by omega) (fun q => by omega)).bind (fun t2 q2 => ?_)
  have ll := ap.len
  refine gr_O.seqF q2 K0 ll g0.1 g0.2 (fun v s2 us2 nd2 er g1 Y2 g8 g47 g3 g6 g4 g5 vv => ?_)
  obtain ⟨v1, v2, v3, v4⟩ := vv
  have ff : ∀ q, 28 ≤ q → q ≤ 34 → t2.1 q f = t.1 q f := fun q q1 q2 => g3 q f q1 q2 (by omega)
  have hw2 : (gs_hp s2)[o]? = some w := gs_pre_get g5.1 hw
  have ol2 := (List.getElem?_eq_some_iff.mp hw2).1
  have hb2 := Y2.hb
  have pn2 := Y2.pn
  have ub2 := Y2.ub
  have e13 : t2.1 13 o = nI a := by rw [g4.1 13 o (by unfold gr_pr; omega)]; exact h13
  have O2 := Y2.pp.2 o w hw2
  have e12 : t2.1 12 o = nI n := by
    have q := O2.2.2.2.2.2.1
    rw [if_neg (by rw [w1]; decide), wl] at q
    exact q
  have aus : a + n ≤ us2 := by
    have q := O2.2.2.2.2.2.2.2.2
    unfold gr_ov at q
    rw [if_neg (by rw [w1]; decide), if_neg (by rw [w1]; decide)] at q
    obtain ⟨y, y1, y2, -⟩ := q
    have : y = a := (nI_eq (by omega) (by omega)).mp (y1.symm.trans e13)
    omega
  have ap2 : gs_ap s0 s2 := ap.trans g5
  refine .step g47 (by omega) g8 (gr_sr4 (o := o) (j := j) (a := a) (n := n) (v := v) (dp := dp) (by omega) g47 (by omega) ((ff 28 (by omega) (by omega)).trans f28) ((ff 29 (by omega) (by omega)).trans f29) ((ff 30 (by omega) (by omega)).trans f30) ((ff 31 (by omega) (by omega)).trans f31) ((ff 32 (by omega) (by omega)).trans f32) (by omega) e13 e12 v1 (by omega) (by omega) (by omega)) (fun t3 x3 => ?_)
  obtain ⟨s3, hs3⟩ : ∃ s3 : gs_S, s3 = (s2.1, (gs_hp s2).modify o (fun ob => (ob.1, ob.2.1, ob.2.2.1.set j v.toInt64, ob.2.2.2)), s2.2.2) := ⟨_, rfl⟩
  have S3 : gs_b (gs_b (gs_mod o (fun ob => (ob.1, ob.2.1, ob.2.2.1.set j v.toInt64, ob.2.2.2))) fun _ => gs_refs rc o k (j + 1)) (fun _ => gs_r (nI o)) s2 = gs_b (gs_refs rc o k (j + 1)) (fun _ => gs_r (nI o)) s3 := by
    rw [gs_bb, hs3]
    rfl
  rw [S3]
  obtain ⟨ta, hta⟩ : ∃ ta, ta = gr_ui (gr_ul t2 15 (a + j) v.toInt64) 32 f (nI (j + 1)) := ⟨_, rfl⟩
  rw [← hta] at x3
  have Ya : gr_Y X c us2 nd2 ta K s3 := by
    rw [hta, hs3]
    exact (Y2.val hw2 (Or.inr w1) e13 (by omega) (by omega)).hm (gr_hm.refl.ui (by omega))
  have va : ∀ q i, (q = 32 → i ≠ f) → ta.1 q i = t2.1 q i := fun q i z => by
    rw [hta]
    by_cases e : q = 32
    · subst e; rw [gr_ui_ni (z rfl)]; rfl
    · rw [gr_ui_no e]; rfl
  have a8 : ta.1 0 8 = 0 := by rw [va 0 8 (by omega)]; exact g8
  have a47 : ta.1 0 47 = nI (f + 1) := by rw [va 0 47 (by omega)]; exact g47
  have fra : gr_fr f t0 ta := fun q i q1 q2 q3 => by
    rw [va q i (by omega), g3 q i q1 q2 (by omega)]
    exact F0 q i q1 q2 q3
  have eha : gr_eh (gs_size s0) t0 ta := fun i hi => by
    rw [va 17 i (by omega), g6 i (by have := ap.size; omega)]
    exact E0 i hi
  have kpa : gr_kp (gs_hp s0).length us0 nd0 t0 ta := by
    have := K0.trans (g4.wk ll g0.1 g0.2)
    rw [hta]
    exact (this.ul (by unfold gr_prl; omega)).ui (by unfold gr_pr; omega)
  have pl3 : gs_pl s3 = gs_pl s2 := by rw [hs3]; rfl
  have hp3 : gs_hp s3 = (gs_hp s2).modify o (fun ob => (ob.1, ob.2.1, ob.2.2.1.set j v.toInt64, ob.2.2.2)) := by rw [hs3]; rfl
  have sz3 : gs_size s3 = gs_size s2 := by rw [hs3]; rfl
  have ap3 : gs_ap s0 s3 := by
    refine ⟨by rw [hp3]; exact gs_pre_mod ap2.1 ho, ?_, ?_, ?_⟩
    · rw [hs3]; exact ap2.2.1
    · rw [hs3]; exact ap2.2.2.1
    · rw [pl3]; exact ap2.2.2.2
  by_cases z : j + 1 = n
  · have k0 : k = 0 := by omega
    subst k0
    have x3 := x3.1 z
    rw [x3]
    refine .done (gr_O.give rfl ⟨by omega, by omega⟩ Ya a8 a47 fra eha kpa ap3 ⟨(gr_give8 a8 a47).2, Or.inr ⟨o, by rw [hp3, List.length_modify]; exact ol2, rfl⟩, ?_⟩)
    rw [sz3, pl3]
    omega
  · have x3 := x3.2 z
    have k0 : k ≠ 0 := by omega
    obtain ⟨p1, p2, p3, p4, p5, p6, p7, p8, p9⟩ := gr_push_fr (t := ta) (tp := f + 1) (k := 1) (dd := nI (dp + 1)) (a := 0) (b := 0)
    rw [← x3] at p1 p2 p3 p4 p5 p6 p7 p8 p9
    have hm3 : gr_hm ta t3 := by rw [x3]; exact gr_hm.refl.push
    have fr3 : gr_fr (f + 1) ta t3 := by rw [x3]; exact gr_fr.refl.push (Nat.le_refl _)
    have fa : ∀ q, 28 ≤ q → q ≤ 34 → t3.1 q f = ta.1 q f := fun q q1 q2 => fr3 q f q1 q2 (by omega)
    have g := ih k0 (j + 1) us2 nd2 t3 s3 (w.1, w.2.1, w.2.2.1.set j v.toInt64, w.2.2.2) (by omega) (Ya.hm hm3) (p9.trans a8) p8 ⟨by rw [fa 28 (by omega) (by omega), va 28 f (by omega), ff 28 (by omega) (by omega)]; exact f28, by rw [fa 29 (by omega) (by omega), va 29 f (by omega), ff 29 (by omega) (by omega)]; exact f29, by rw [fa 30 (by omega) (by omega), va 30 f (by omega), ff 30 (by omega) (by omega)]; exact f30, by rw [fa 31 (by omega) (by omega), va 31 f (by omega), ff 31 (by omega) (by omega)]; exact f31, by rw [fa 32 (by omega) (by omega), hta, gr_ui_eq]⟩ ⟨p1, p2, p3⟩ (by omega) (by rw [hp3, List.getElem?_modify, hw2]; simp) w1 (by show (w.2.2.1.set j v.toInt64).length = n; rw [List.length_set]; exact wl) (by rw [hm3.1 13 o (by decide) (fun q => absurd q (by decide)), va 13 o (by omega)]; exact e13) ⟨by omega, by omega⟩ (fra.trans (fr3.wk (Nat.le_succ f))) (eha.trans hm3.eh) (kpa.trans hm3.kp) ap3 ho
    rw [show k - 1 + 1 = k by omega] at g
    exact g
theorem gr_refs (RC : gr_RC E d h m K (dp + 1) rc) (hd : 12 ≤ d) (hdp : 1 ≤ dp ∧ dp ≤ 8) {n a us0 nd0 : Nat} {t0 : gr_t} {s0 : gs_S} (ha0 : us0 ≤ a) (ha4 : a ≤ 4000) (hn20 : n ≤ 20) : ∀ (k j us nd : Nat) (t : gr_t) (s : gs_S) (w : gs_O), j + (k + 1) = n → gr_Y X c us nd t K s → t.1 0 8 = 0 → t.1 0 47 = nI (f + 2) → (t.1 28 f = 1 ∧ t.1 29 f = 4 ∧ t.1 30 f = nI dp ∧ t.1 31 f = nI o ∧ t.1 32 f = nI j) → (t.1 28 (f + 1) = 1 ∧ t.1 29 (f + 1) = 0 ∧ t.1 30 (f + 1) = nI (dp + 1)) → 14 * f + 14 ≤ 42 * dp + gs_pl s → (gs_hp s)[o]? = some w → w.1 = 3 → w.2.2.1.length = n → t.1 13 o = nI a → us0 ≤ us ∧ nd0 ≤ nd → gr_fr f t0 t → gr_eh (gs_size s0) t0 t → gr_kp (gs_hp s0).length us0 nd0 t0 t → gs_ap s0 s → (gs_hp s0).length ≤ o →
    gr_Rn E d h m (gr_O K X c us0 nd0 f f t0 s0 (gr_W dp) (gs_b (gs_refs rc o (k + 1) j) (fun _ => gs_r (nI o)) s)) t := by
  intro k
  induction k with
  | zero =>
    intro j us nd t s w hj
    exact gr_refs1 RC hd hdp ha0 ha4 hn20 0 (fun z => absurd rfl z) j us nd t s w hj
  | succ k ih =>
    intro j us nd t s w hj
    exact gr_refs1 RC hd hdp ha0 ha4 hn20 (k + 1) (fun _ => ih) j us nd t s w hj
/-- ints, plainly -/
def gs_iv (K : gs_K) (P : Nat) (vs : List Int64) : Nat → Nat → List Int64
  | 0, _ => vs
  | k + 1, j => gs_iv K (P + 4) (vs.set j (gs_num K P 4).toInt32.toInt64) k (j + 1)
theorem gs_iv_len : ∀ (k j P : Nat) (vs : List Int64), (gs_iv K P vs k j).length = vs.length
  | 0, _, _, _ => rfl
  | k + 1, j, P, vs => by
    show (gs_iv K (P + 4) (vs.set j _) k (j + 1)).length = _
    rw [gs_iv_len k (j + 1) (P + 4), List.length_set]
theorem gs_iv_get : ∀ (k j P : Nat) (vs : List Int64) (i : Nat), j + k ≤ vs.length → i < vs.length → (gs_iv K P vs k j)[i]? = if j ≤ i ∧ i < j + k then some (gs_num K (P + 4 * (i - j)) 4).toInt32.toInt64 else vs[i]?
  | 0, j, P, vs, i, _, _ => by rw [if_neg (by omega)]; rfl
  | k + 1, j, P, vs, i, hl, hi => by
    show (gs_iv K (P + 4) (vs.set j _) k (j + 1))[i]? = _
    rw [gs_iv_get k (j + 1) (P + 4) _ i (by rw [List.length_set]; omega) (by rw [List.length_set]; exact hi)]
    by_cases c1 : j + 1 ≤ i ∧ i < j + 1 + k
    · rw [if_pos c1, if_pos (by omega)]
      rw [show P + 4 + 4 * (i - (j + 1)) = P + 4 * (i - j) by omega]
    · rw [if_neg c1, List.getElem?_set]
      by_cases c2 : j = i
      · subst c2
        rw [if_pos rfl, if_pos hi, if_pos (by omega), Nat.sub_self, Nat.mul_zero, Nat.add_zero]
      · rw [if_neg c2, if_neg (by omega)]
theorem gs_ints_eq {H : List gs_O} {hs : List (Int32 × List gs_L)} {f1 : Nat} : ∀ (k j P : Nat) (vs : List Int64), P ≤ gs_n K → gs_ints K H.length k j (P, H ++ [(2, none, vs, 0, 0)], hs, f1) = if P + 4 * k ≤ gs_n K then .ok ((), (P + 4 * k, H ++ [(2, none, gs_iv K P vs k j, 0, 0)], hs, f1)) else .error (-3)
  | 0, j, P, vs, hP => by rw [if_pos (by omega)]; rfl
  | k + 1, j, P, vs, hP => by
    show gs_b (gs_u4 K) (fun v => gs_b (gs_mod H.length (fun ob => (ob.1, ob.2.1, ob.2.2.1.set j v.toInt64, ob.2.2.2))) fun _ => gs_ints K H.length k (j + 1)) _ = _
    rcases Nat.lt_or_ge (gs_n K) (P + 4) with z | z
    · rw [if_neg (by omega)]
      exact gs_b_er (gs_u4_n (s := (P, H ++ [(2, none, vs, 0, 0)], hs, f1)) z)
    · have e1 : gs_u4 K (P, H ++ [(2, none, vs, 0, 0)], hs, f1) = .ok ((gs_num K P 4).toInt32, (P + 4, H ++ [(2, none, vs, 0, 0)], hs, f1)) := gs_u4_y (s := (P, H ++ [(2, none, vs, 0, 0)], hs, f1)) z
      rw [gs_b_ok e1]
      have e2 : gs_mod H.length (fun ob => (ob.1, ob.2.1, ob.2.2.1.set j (gs_num K P 4).toInt32.toInt64, ob.2.2.2)) (P + 4, H ++ [(2, none, vs, 0, 0)], hs, f1) = .ok ((), (P + 4, H ++ [(2, none, vs.set j (gs_num K P 4).toInt32.toInt64, 0, 0)], hs, f1)) := by
        show Except.ok ((), (P + 4, (H ++ [(2, none, vs, 0, 0)]).modify H.length (fun ob => (ob.1, ob.2.1, ob.2.2.1.set j (gs_num K P 4).toInt32.toInt64, ob.2.2.2)), hs, f1)) = _
        rw [gs_mod_app]
      rw [gs_b_ok e2, gs_ints_eq k (j + 1) (P + 4) _ z]
      rw [show P + 4 + 4 * k = P + 4 * (k + 1) by omega]
      rfl
end NM
