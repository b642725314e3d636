/-! THE REFERENCE, 60: the outermost read. -/
section NX
variable {X N : Nat → Prop} {E : Nat → Value} {d m f n p dp c us nd k e o r j cnt hb ub nb B pp at_ ca us0 nd0 : Nat} {h : gm_H} {t t' t0 t1 : gr_t} {K : gs_K} {s s' s'' s0 s1 : gs_S} {rc : gs_M Int32} {P : gr_t → Prop} {l : gs_L} {L : List gs_L} {Q : gm_R → gm_H → Prop} {leaf st stt : Int32} {cc : Option Nat}
/-- the handles forgotten -/
theorem gr_Y.rst (Y : gr_Y X c us nd t K s) (hp : gs_pl s < gs_n K) : gr_Y X c us nd (gr_ui (gr_ui t 0 6 (nI (gs_pl s + 1))) 0 28 0) K (gs_pl s + 1, gs_hp s, gs_hs s, (gs_hs s).length) := by
  have z : ∀ q i, (q = 0 → i ≠ 6 ∧ i ≠ 28) → (gr_ui (gr_ui t 0 6 (nI (gs_pl s + 1))) 0 28 0).1 q i = t.1 q i := fun q i h0 => by
    by_cases e0 : q = 0
    · rw [gr_ui_ni (h0 e0).2, gr_ui_ni (h0 e0).1]
    · rw [gr_ui_no e0, gr_ui_no e0]
  have kpz : gr_kp (gs_hp s).length us nd t (gr_ui (gr_ui t 0 6 (nI (gs_pl s + 1))) 0 28 0) := (gr_kp.refl.ui (by unfold gr_pr; omega)).ui (by unfold gr_pr; omega)
  have sz : gs_size (gs_pl s + 1, gs_hp s, gs_hs s, (gs_hs s).length) = 0 := Nat.sub_self _
  exact gr_Y.mk
    (lm := kpz.lm Y.lm)
    (B := kpz.gB Y.B)
    (C := kpz.gC Y.C)
    (wf := Y.wf)
    (ndK := Y.ndK)
    (pl := by rw [gr_ui_ni (by decide), gr_ui_eq]; rfl)
    (pn := hp)
    (pp := ⟨(z 0 23 (by decide)).trans Y.pp.1, fun i o ho => (Y.pp.2 i o ho).kp kpz (List.getElem?_eq_some_iff.mp ho).1 (Nat.le_refl _) (Nat.le_refl _)⟩)
    (hh := ⟨by rw [gr_ui_eq, sz]; rfl, by rw [sz]; exact Nat.zero_le _, Nat.le_refl _, fun i w hi => by rw [sz] at hi; exact absurd hi (Nat.not_lt_zero i)⟩)
    (xb := Y.xb)
    (u := (z 0 25 (by decide)).trans Y.u)
    (ub := by have := Y.ub; show us + 4 * c ≤ 4 * (gs_pl s + 1); omega)
    (n := (z 0 39 (by decide)).trans Y.n)
    (nb := by have := Y.nb; show 11 * nd ≤ gs_pl s + 1; omega)
    (dj := Y.dj.kp kpz (Nat.le_refl _))
    (hin := Y.hin)
    (lok := Y.lok)
    (hb := by have := Y.hb; show 3 * (gs_hp s).length + c ≤ gs_pl s + 1; omega)
    (eb := by have := Y.eb; show 3 * (gs_hs s).length + c ≤ gs_pl s + 1; omega)
/-- copies, fault and top don't matter -/
theorem gr_Y.cpy (Y : gr_Y X c us nd t K s) (z : ∀ q i, q ≠ 18 → q ≠ 19 → q < 28 → (q = 0 → i ≠ 8 ∧ i ≠ 47) → t'.1 q i = t.1 q i) (z2 : t'.2 = t.2) : gr_Y X c us nd t' K s := by
  have dl : ∀ k l, gr_dl t K k l → gr_dl t' K k l := fun k l D => by
    obtain ⟨a, b, c, e, f, g, i, j⟩ := D
    refine ⟨by rw [z _ _ (by decide) (by decide) (by decide) (by omega)]; exact a, ⟨by rw [z _ _ (by decide) (by decide) (by decide) (by omega)]; exact b.1, b.2⟩, by rw [z _ _ (by decide) (by decide) (by decide) (by omega)]; exact c, by rw [z2]; exact e, by rw [z _ _ (by decide) (by decide) (by decide) (by omega)]; exact f, g, i, fun n p hp => ?_⟩
    rw [z _ _ (by decide) (by decide) (by decide) (by omega), z _ _ (by decide) (by decide) (by decide) (by omega)]
    exact j n p hp
  have rw1 : ∀ k, gr_rw t t' k := fun k => ⟨⟨⟨z _ _ (by decide) (by decide) (by decide) (by omega), z _ _ (by decide) (by decide) (by decide) (by omega), z _ _ (by decide) (by decide) (by decide) (by omega), z _ _ (by decide) (by decide) (by decide) (by omega)⟩, by rw [z2]⟩, z _ _ (by decide) (by decide) (by decide) (by omega), fun j _ => ⟨z _ _ (by decide) (by decide) (by decide) (by omega), z _ _ (by decide) (by decide) (by decide) (by omega)⟩⟩
  have z0 : ∀ i, i ≠ 8 → i ≠ 47 → t'.1 0 i = t.1 0 i := fun i a b => z 0 i (by decide) (by decide) (by decide) (fun _ => ⟨a, b⟩)
  exact gr_Y.mk
    (lm := ⟨by rw [z0 _ (by decide) (by decide)]; exact Y.lm.1, by rw [z0 _ (by decide) (by decide)]; exact Y.lm.2.1, by rw [z0 _ (by decide) (by decide)]; exact Y.lm.2.2.1, by rw [z0 _ (by decide) (by decide)]; exact Y.lm.2.2.2⟩)
    (B := ⟨by rw [z0 _ (by decide) (by decide)]; exact Y.B.1, Y.B.2.1, fun i hi => by rw [z _ _ (by decide) (by decide) (by decide) (by omega)]; exact Y.B.2.2 i hi⟩)
    (C := by
      intro c hc
      have y := Y.C c hc
      rw [z _ _ (by decide) (by decide) (by decide) (by omega), z _ _ (by decide) (by decide) (by decide) (by omega), z _ _ (by decide) (by decide) (by decide) (by omega), z _ _ (by decide) (by decide) (by decide) (by omega)]
      cases e : gs_cls K c with
      | none => rw [e] at y; exact y
      | some D =>
        rw [e] at y
        obtain ⟨q1, q2, q3, q4, q5, q6, q7, q8, q9⟩ := y
        refine ⟨q1, q2, by rw [z _ _ (by decide) (by decide) (by decide) (by omega)]; exact q3, by rw [z2]; exact q4, q5, q6, q7, q8, fun j p hp => ?_⟩
        rw [z _ _ (by decide) (by decide) (by decide) (by omega), z _ _ (by decide) (by decide) (by decide) (by omega)]
        exact q9 j p hp)
    (wf := Y.wf)
    (ndK := Y.ndK)
    (pl := by rw [z0 _ (by decide) (by decide)]; exact Y.pl)
    (pn := Y.pn)
    (pp := by
      refine ⟨by rw [z0 _ (by decide) (by decide)]; exact Y.pp.1, fun i o ho => ?_⟩
      exact (Y.pp.2 i o ho).sm gs_kk.refl ⟨fun _ _ _ => by rw [z2], fun q i hq => z q i hq.2.2.1 hq.2.2.2 hq.2.1 (by omega)⟩)
    (hh := by
      refine ⟨by rw [z0 _ (by decide) (by decide)]; exact Y.hh.1, Y.hh.2.1, Y.hh.2.2.1, fun i w hi hw => ?_⟩
      have e := Y.hh.2.2.2 i w hi hw
      unfold gr_enn at e ⊢
      rw [z 16 i (by decide) (by decide) (by decide) (by omega), z 17 i (by decide) (by decide) (by decide) (by omega)]
      rcases e with e | ⟨a, b, c, d⟩ | e | e
      · exact Or.inl e
      · exact Or.inr (Or.inl ⟨a, b, c, d.rw (fun q _ => rw1 q)⟩)
      · exact Or.inr (Or.inr (Or.inl e))
      · exact Or.inr (Or.inr (Or.inr e)))
    (xb := Y.xb)
    (u := by rw [z0 _ (by decide) (by decide)]; exact Y.u)
    (ub := Y.ub)
    (n := by rw [z0 _ (by decide) (by decide)]; exact Y.n)
    (nb := Y.nb)
    (dj := by
      intro i j oi oj hij hi hj si sj
      rw [z 13 i (by decide) (by decide) (by decide) (by omega), z 13 j (by decide) (by decide) (by decide) (by omega)]
      exact Y.dj i j oi oj hij hi hj si sj)
    (hin := Y.hin)
    (lok := Y.lok)
    (hb := Y.hb)
    (eb := Y.eb)
/-- what the outermost read leaves -/
def gr_Z0 (K : gs_K) (t0 : gr_t) (s0 : gs_S) (us0 nd0 : Nat) (v : Int32) (s' : gs_S) (t' : gr_t) : Prop := (∃ us nd, gr_Y (fun _ => False) 0 us nd t' K s') ∧ (t'.1 0 8 = 0 ∧ t'.1 0 47 = nI 0) ∧ t'.1 0 9 = v ∧ gr_kp (gs_hp s0).length us0 nd0 t0 t'
theorem gr_rset (hK : gs_kor K) (hd : 12 ≤ d) : ∀ (k us nd : Nat) (t : gr_t) (s : gs_S), gr_Y (fun _ => False) 0 us nd t K s → t.1 0 8 = 0 → t.1 0 47 = nI 1 → (t.1 28 0 = 1 ∧ t.1 29 0 = 0 ∧ t.1 30 0 = nI 1) → gs_size s ≤ 60 → gs_n K < gs_pl s + k → gr_kp (gs_hp s0).length us0 nd0 t0 t → us0 ≤ us ∧ nd0 ≤ nd → (gs_hp s0).length ≤ (gs_hp s).length → gr_Rn E d h m (gr_E t0 s0 us0 nd0 (gs_b (gs_reset K k) (fun _ => gs_rc K 8) s) (gr_Z0 K t0 s0 us0 nd0)) t := by
  intro k
  induction k with
  | zero => intro us nd t s Y h8 h47 hf h60 hk; have := Y.pn; omega
  | succ k ih =>
    intro us nd t s Y h8 h47 hf h60 hk K0 g0 hl
    have n7 := Y.n7
    have pn := Y.pn
    obtain ⟨-, -, -, i121⟩ := gr_by (K := K) (i := gs_pl s)
    by_cases c : gs_pl s < gs_n K ∧ gs_sb K (gs_pl s) = 121
    · have er : gs_b (gs_reset K (k + 1)) (fun _ => gs_rc K 8) s = gs_b (gs_reset K k) (fun _ => gs_rc K 8) (gs_pl s + 1, gs_hp s, gs_hs s, (gs_hs s).length) := by
        refine gs_b_cg ?_
        show (if gs_pl s < gs_n K ∧ gs_sb K (gs_pl s) = 121 then _ else _) = _
        rw [if_pos c]
      rw [er]
      have eb := Y.B.2.2 _ c.1
      rw [i121.mpr c.2] at eb
      have c8 : ¬ 8 < t.1 30 0 := by rw [hf.2.2]; decide
      have n60 : t.1 0 28 ≤ 60 := by rw [Y.hh.1, ← Int32.not_lt]; exact nI_nlt (a := 60) (by omega) (by omega)
      have Y1 := Y.rst c.1
      have f30 : (gr_ui t 0 6 (nI (gs_pl s + 1))).1 30 0 = 1 := by rw [gr_ui_no (by decide), hf.2.2]; rfl
      refine .step (k := 0) h47 (by decide) h8 (gr_sr0 (f := 0) (P := fun t' => t' = gr_ui (gr_ui t 0 6 (nI (gs_pl s + 1))) 0 28 0) (by omega) h47 (by decide) hf.1 hf.2.1 (m_sRpre (by omega) (by decide) c8 n60 h8 Y.B.1 Y.pl n7 c.1 (by rw [eb]; exact m_sR121 (by decide) f30 (gr_ps.ok rfl)))) (fun t1 e1 => ?_)
      have v1 : ∀ q i, (q = 0 → i ≠ 6 ∧ i ≠ 28) → t1.1 q i = t.1 q i := fun q i h0 => by
        rw [e1]
        by_cases e0 : q = 0
        · rw [gr_ui_ni (h0 e0).2, gr_ui_ni (h0 e0).1]
        · rw [gr_ui_no e0, gr_ui_no e0]
      rw [← e1] at Y1
      refine ih us nd t1 _ Y1 (by rw [v1 0 8 (by decide)]; exact h8) (by rw [v1 0 47 (by decide)]; exact h47) ⟨by rw [v1 28 0 (by decide)]; exact hf.1, by rw [v1 29 0 (by decide)]; exact hf.2.1, by rw [v1 30 0 (by decide)]; exact hf.2.2⟩ ?_ ?_ ?_ g0 hl
      · show (gs_hs s).length - (gs_hs s).length ≤ 60; omega
      · show gs_n K < gs_pl s + 1 + k; omega
      · rw [e1]; exact (K0.ui (by unfold gr_pr; omega)).ui (by unfold gr_pr; omega)
    · have er : gs_reset K (k + 1) s = .ok ((), s) := by
        show (if gs_pl s < gs_n K ∧ gs_sb K (gs_pl s) = 121 then _ else _) = _
        rw [if_neg c]
      rw [gs_b_ok er]
      have RC := gr_rc (E := E) (h := h) (m := m) (d := d) hK hd 8 (Nat.le_refl _)
      refine (RC (fun _ => False) 0 us nd 0 t s Y h8 h47 hf (by omega) (fun _ z y => c ⟨z, i121.mp y⟩)).mono (fun t1 x1 => ?_)
      cases e8 : gs_rc K 8 s with
      | error x => rw [e8] at x1; exact gr_F.from x1 K0 hl g0.1 g0.2
      | ok w =>
        rw [e8] at x1
        obtain ⟨us', nd', g1, Y1, g2, g3, g6, g4, g5, v, -⟩ := x1
        exact ⟨⟨us', nd', Y1⟩, g2, v, K0.trans (g4.wk hl g0.1 g0.2)⟩
theorem gr_outr (hK : gs_kor K) (hd : 12 ≤ d) (Y : gr_Y (fun _ => False) 0 us nd t K s) (h8 : t.1 0 8 = 0) (h47 : t.1 0 47 = nI 1) (hf : t.1 28 0 = 1 ∧ t.1 29 0 = 0 ∧ t.1 30 0 = nI 1) : gr_Rn E d h m (gr_E t s us nd (gs_out K s) (gr_Z0 K t s us nd)) t := by
  have n7 := Y.n7
  have pn := Y.pn
  unfold gs_out
  by_cases c60 : 60 < gs_size s
  · have er : gs_room 1 s = .error (-8) := by unfold gs_room; rw [if_pos (Or.inr c60)]
    have n60 : ¬ t.1 0 28 ≤ 60 := by rw [Y.hh.1, Int32.not_le]; exact nI_lt (a := 60) c60 (by have := Y.hh.2.1; omega)
    refine .step (k := 0) h47 (by decide) h8 (gr_sr0 (f := 0) (P := fun t' => t' = gr_ui t 0 8 (-8)) (by omega) h47 (by decide) hf.1 hf.2.1 (gm_Ca.mono (m_sRfar (by omega) (by decide) (Or.inr n60) h8) (fun r h' q => gr_ps.v (P := fun t' => t' = gr_ui t 0 8 (-8)) rfl rfl q))) (fun t1 e1 => ?_)
    subst e1
    exact .done (gr_E.er (gs_b_er er) (gr_F.ui (by decide) gr_kp.refl))
  · have er : gs_room 1 s = .ok ((), s) := by unfold gs_room; rw [if_neg (by omega)]
    rw [gs_b_ok er]
    exact gr_rset hK hd 701 us nd t s Y h8 h47 hf (by omega) (by omega) gr_kp.refl ⟨Nat.le_refl _, Nat.le_refl _⟩ (Nat.le_refl _)
/-- the loop of read -/
theorem m_rdL {lv1 lv2 lv3 lv4 lv5 lv6 : Value} (hd : 1 ≤ d) (w : gr_Rn E (d - 1) h m P t) (k : ∀ t', P t' → gm_W E d 46 103 [.ref m, lv1, lv2, lv3, lv4, lv5, lv6] [] (gr_H h m t') Q) : gm_W E d 46 103 [.ref m, lv1, lv2, lv3, lv4, lv5, lv6] [] (gr_H h m t) Q := by
  refine w (fun t => gm_W E d 46 103 [.ref m, lv1, lv2, lv3, lv4, lv5, lv6] [] (gr_H h m t) Q) k (fun t P1 k h47 hk h8 st go => ?_)
  have c1 : ¬ nI (k + 1) ≤ 0 := by rw [Int32.not_le]; exact nI_lt (a := 0) (by omega) (by omega)
  rw [r46_103]
  simp only [r46_0, r46_0n, r46_1, r46_4, r46_7, r46_7n, r46_8, r46_11, r46_12, r46_12n, r46_13, r46_16, r46_17, r46_17n, r46_18, r46_21, r46_22, r46_22n, r46_23, r46_26, r46_27, r46_27n, r46_28, r46_31, r46_33, r46_33n, r46_34, r46_37, r46_39, r46_40, r46_42, r46_44, r46_44n, r46_45, r46_48, r46_51, r46_51n, r46_52, r46_55, r46_57, r46_57n, r46_58, r46_61, r46_63, r46_64, r46_65, r46_65n, r46_66, r46_69, r46_71, r46_71n, r46_72, r46_75, r46_77, r46_78, r46_79, r46_82, r46_85, r46_85n, r46_86, r46_87, r46_90, r46_90n, r46_91, r46_92, r46_95, r46_95n, r46_96, r46_97, r46_98, r46_99, r46_104, r46_107, r46_110, r46_110n, r46_111, r46_114, r46_117, r46_117n, r46_121, r46_124, r46_124n, r46_125, r46_128, r46_131, r46_131n, r46_132, r46_135, r46_136, r46_136n, r46_137, r46_138, r46_141, r46_141n, r46_142, r46_143, r46_146, r46_146n, r46_147, r46_148, r46_151, r46_151n, r46_152, r46_154, r46_157, r46_157n, r46_158, r46_160, r46_163, r46_164, r46_166, r46_168, r46_168n, r46_169, r46_172, r46_175, r46_175n, r46_176, r46_179, r46_181, r46_181n, r46_182, r46_185, r46_187, r46_188, r46_189, r46_189n, r46_190, r46_193, r46_195, r46_195n, r46_196, r46_199, r46_201, r46_202, r46_203, r46_206, r46_209, r46_209n, r46_210, r46_213, r46_215, r46_218, r46_218n, r46_219, r46_219n, r46_220, r46_223, r46_226, r46_226n, r46_227, r46_230, i32_10, reduceIte, gm_cmp1, gm_cmp3, gm_cmp4, gm_kd_sf, gm_ln_sf, gm_sf_1, gm_sf_2, gm_nw_1, gm_nw_2, gm_k_int, gm_k_ref, gm_k_null, gm_k_u, gm_k_long, and_true, true_and, true_or, or_true, or_false, false_or, and_self, or_self, if_true, if_false, List.map_nil, List.map_cons, List.sum_nil, List.sum_cons, Nat.zero_le, Option.toList_some, Option.toList_none, List.cons_append, List.nil_append, ne_eq, not_false_eq_true, not_true_eq_false, nI_1, nI_add, Value.category, Nat.reduceAdd, Nat.reduceMod, Nat.reduceLeDiff, Nat.reduceLT, Nat.reduceEqDiff, Nat.reducePow, Nat.le_refl, Nat.add_left_cancel_iff, Nat.add_eq_left, Nat.left_eq_add, Nat.add_zero, g_k0, g_k1, g_l1, g_p4, g_a1, g_w1, g_k2, g_l2, g_p10, g_a2, g_w2, g_k3, g_l3, g_p11, g_a3, g_w3, g_k4, g_l4, g_p12, g_a4, g_w4, g_k5, g_l5, g_p13, g_a5, g_w5, g_k6, g_l6, g_p14, g_a6, g_w6, g_k7, g_l7, g_p15, g_a7, g_w7, g_k8, g_l8, g_p16, g_a8, g_w8, g_k9, g_l9, g_p17, g_a9, g_w9, g_k10, g_l10, g_p18, g_a10, g_w10, g_k11, g_l11, g_p19, g_a11, g_w11, g_k12, g_l12, g_p20, g_a12, g_w12, g_k13, g_l13, g_p21, g_a13, g_w13, g_k14, g_l14, g_p22, g_a14, g_w14, g_k15, g_l15, g_p24, g_a15, g_w15, g_k16, g_l16, g_p26, g_a16, g_w16, g_k17, g_l17, g_p27, g_a17, g_w17, g_k18, g_l18, g_p29, g_a18, g_w18, g_k19, g_l19, g_p30, g_a19, g_w19, g_k20, g_l20, g_p31, g_a20, g_w20, g_k21, g_l21, g_p32, g_a21, g_w21, g_k22, g_l22, g_p33, g_a22, g_w22, g_k23, g_l23, g_p34, g_a23, g_w23, g_k24, g_l24, g_p35, g_a24, g_w24, g_k25, g_l25, g_p36, g_a25, g_w25, g_k26, g_l26, g_p37, g_a26, g_w26, g_k27, g_l27, g_p38, g_a27, g_w27, g_k28, g_l28, g_p40, g_a28, g_w28, g_k29, g_l29, g_p41, g_a29, g_w29, g_k30, g_l30, g_p42, g_a30, g_w30, g_k31, g_l31, g_p43, g_a31, g_w31, g_k32, g_l32, g_p44, g_a32, g_w32, g_k33, g_l33, g_p45, g_a33, g_w33, g_k34, g_l34, g_p46, g_a34, g_w34, g_f0, g_s0, g_f1, g_s1, g_f2, g_s2, g_f3, g_s3, g_f5, g_s5, g_f6, g_s6, g_f7, g_s7, g_f8, g_s8, g_f9, g_s9, g_f23, g_s23, g_f25, g_s25, g_f28, g_s28, g_f39, g_s39, g_f47, g_s47, gr_ui_eq, gr_ui_2, gr_ul_eq, gr_ul_1, gr_ui_no, gr_ui_ni, gr_ul_no, gr_ul_ni, h47, c1, h8]
  refine c46_118 (by simp) g_k0 (by omega) st (gr_kn (fun t' q => ?_)) gr_kx
  have g := go t' q
  simp only [r46_0, r46_0n, r46_1, r46_4, r46_7, r46_7n, r46_8, r46_11, r46_12, r46_12n, r46_13, r46_16, r46_17, r46_17n, r46_18, r46_21, r46_22, r46_22n, r46_23, r46_26, r46_27, r46_27n, r46_28, r46_31, r46_33, r46_33n, r46_34, r46_37, r46_39, r46_40, r46_42, r46_44, r46_44n, r46_45, r46_48, r46_51, r46_51n, r46_52, r46_55, r46_57, r46_57n, r46_58, r46_61, r46_63, r46_64, r46_65, r46_65n, r46_66, r46_69, r46_71, r46_71n, r46_72, r46_75, r46_77, r46_78, r46_79, r46_82, r46_85, r46_85n, r46_86, r46_87, r46_90, r46_90n, r46_91, r46_92, r46_95, r46_95n, r46_96, r46_97, r46_98, r46_99, r46_104, r46_107, r46_110, r46_110n, r46_111, r46_114, r46_117, r46_117n, r46_121, r46_124, r46_124n, r46_125, r46_128, r46_131, r46_131n, r46_132, r46_135, r46_136, r46_136n, r46_137, r46_138, r46_141, r46_141n, r46_142, r46_143, r46_146, r46_146n, r46_147, r46_148, r46_151, r46_151n, r46_152, r46_154, r46_157, r46_157n, r46_158, r46_160, r46_163, r46_164, r46_166, r46_168, r46_168n, r46_169, r46_172, r46_175, r46_175n, r46_176, r46_179, r46_181, r46_181n, r46_182, r46_185, r46_187, r46_188, r46_189, r46_189n, r46_190, r46_193, r46_195, r46_195n, r46_196, r46_199, r46_201, r46_202, r46_203, r46_206, r46_209, r46_209n, r46_210, r46_213, r46_215, r46_218, r46_218n, r46_219, r46_219n, r46_220, r46_223, r46_226, r46_226n, r46_227, r46_230, i32_10, reduceIte, gm_cmp1, gm_cmp3, gm_cmp4, gm_kd_sf, gm_ln_sf, gm_sf_1, gm_sf_2, gm_nw_1, gm_nw_2, gm_k_int, gm_k_ref, gm_k_null, gm_k_u, gm_k_long, and_true, true_and, true_or, or_true, or_false, false_or, and_self, or_self, if_true, if_false, List.map_nil, List.map_cons, List.sum_nil, List.sum_cons, Nat.zero_le, Option.toList_some, Option.toList_none, List.cons_append, List.nil_append, ne_eq, not_false_eq_true, not_true_eq_false, nI_1, nI_add, Value.category, Nat.reduceAdd, Nat.reduceMod, Nat.reduceLeDiff, Nat.reduceLT, Nat.reduceEqDiff, Nat.reducePow, Nat.le_refl, Nat.add_left_cancel_iff, Nat.add_eq_left, Nat.left_eq_add, Nat.add_zero]
  exact g
/-- copies of the handles -/
def gr_cp (t : gr_t) : Nat → gr_t
  | 0 => t
  | k + 1 => gr_ui (gr_ui (gr_cp t k) 18 k (t.1 16 k)) 19 k (t.1 17 k)
def gr_rs (t : gr_t) : Nat → gr_t
  | 0 => t
  | k + 1 => gr_ui (gr_ui (gr_rs t k) 16 k (t.1 18 k)) 17 k (t.1 19 k)
theorem gr_cp_v {q i : Nat} (hq : q ≠ 18 ∧ q ≠ 19) : ∀ n, (gr_cp t n).1 q i = t.1 q i
  | 0 => rfl
  | n + 1 => by
    show (gr_ui (gr_ui (gr_cp t n) 18 n (t.1 16 n)) 19 n (t.1 17 n)).1 q i = _
    rw [gr_ui_no hq.2, gr_ui_no hq.1, gr_cp_v hq n]
theorem gr_cp_2 : ∀ n, (gr_cp t n).2 = t.2
  | 0 => rfl
  | n + 1 => gr_cp_2 n
theorem gr_cp_in : ∀ n i, i < n → (gr_cp t n).1 18 i = t.1 16 i ∧ (gr_cp t n).1 19 i = t.1 17 i
  | 0, i, hi => absurd hi (Nat.not_lt_zero i)
  | n + 1, i, hi => by
    show (gr_ui (gr_ui (gr_cp t n) 18 n (t.1 16 n)) 19 n (t.1 17 n)).1 18 i = _ ∧ (gr_ui (gr_ui (gr_cp t n) 18 n (t.1 16 n)) 19 n (t.1 17 n)).1 19 i = _
    by_cases z : i = n
    · subst z
      rw [gr_ui_no (by decide), gr_ui_eq, gr_ui_eq]
      exact ⟨rfl, rfl⟩
    · rw [gr_ui_no (by decide), gr_ui_ni z, gr_ui_ni z, gr_ui_no (by decide)]
      exact gr_cp_in n i (by omega)
theorem gr_rs_v {q i : Nat} (hq : q ≠ 16 ∧ q ≠ 17) : ∀ n, (gr_rs t n).1 q i = t.1 q i
  | 0 => rfl
  | n + 1 => by
    show (gr_ui (gr_ui (gr_rs t n) 16 n (t.1 18 n)) 17 n (t.1 19 n)).1 q i = _
    rw [gr_ui_no hq.2, gr_ui_no hq.1, gr_rs_v hq n]
theorem gr_rs_2 : ∀ n, (gr_rs t n).2 = t.2
  | 0 => rfl
  | n + 1 => gr_rs_2 n
theorem gr_rs_in : ∀ n i, i < n → (gr_rs t n).1 16 i = t.1 18 i ∧ (gr_rs t n).1 17 i = t.1 19 i
  | 0, i, hi => absurd hi (Nat.not_lt_zero i)
  | n + 1, i, hi => by
    show (gr_ui (gr_ui (gr_rs t n) 16 n (t.1 18 n)) 17 n (t.1 19 n)).1 16 i = _ ∧ (gr_ui (gr_ui (gr_rs t n) 16 n (t.1 18 n)) 17 n (t.1 19 n)).1 17 i = _
    by_cases z : i = n
    · subst z
      rw [gr_ui_no (by decide), gr_ui_eq, gr_ui_eq]
      exact ⟨rfl, rfl⟩
    · rw [gr_ui_no (by decide), gr_ui_ni z, gr_ui_ni z, gr_ui_no (by decide)]
      exact gr_rs_in n i (by omega)
end NX
