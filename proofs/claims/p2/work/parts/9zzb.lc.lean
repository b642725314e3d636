/-! THE LAW, 3 (by genlaw.py): each case of its switch. -/
/-- the answers that are compared -/
def gl_c : Nat → Bool
  | 0 => true
  | 1 => false
  | 2 => false
  | 3 => false
  | 4 => false
  | 5 => false
  | 6 => false
  | 7 => false
  | 8 => false
  | 9 => false
  | _ => false
theorem nI_k {i : Nat} : nI i + 1 = nI (i + 1) ∧ nI i + 2 = nI (i + 2) ∧ nI i + 3 = nI (i + 3) ∧ nI i + 4 = nI (i + 4) ∧ nI i + 5 = nI (i + 5) := ⟨nI_add i 1, nI_add i 2, nI_add i 3, nI_add i 4, nI_add i 5⟩
section LC
theorem gl_sub {n : Nat} (h : 6 ≤ n) : nI n - 6 = nI (n - 6) := by
  obtain ⟨j, rfl⟩ : ∃ j, n = j + 6 := ⟨n - 6, by omega⟩
  rw [← nI_add, show j + 6 - 6 = j by omega]
  show nI j + nI 6 - nI 6 = nI j
  exact Int32.add_sub_cancel _ _
variable {E : Nat → Value} {b x m C S d i k : Nat} {xs : List Int32} {H : gm_H} {σ τ : gp_s} {R : Nat → gp_s → gp_s → Prop} {Q : gm_R → gm_H → Prop}
theorem gl_sc {h : gm_H} (e : gm_rd h b = some (300, xs.map .int)) : gm_kd h b = 300 ∧ gm_ln h b = xs.length ∧ ∀ j, j < xs.length → gm_fv h b j = .int (xs.getD j 0) := by
  refine ⟨?_, ?_, fun j hj => ?_⟩
  · unfold gm_kd; rw [e]; rfl
  · unfold gm_ln; rw [e]; simp
  · unfold gm_fv; rw [e]; simp [List.getD, hj]
theorem gl_I.scr (I : gl_I E b xs x m C S σ τ H) (hx : xs.length ≤ 100000) (hi : i + 6 ≤ xs.length) : gm_kd H b = 300 ∧ gm_ln H b = xs.length ∧ i < xs.length ∧ i + 1 < xs.length ∧ i + 2 < xs.length ∧ i + 3 < xs.length ∧ i + 4 < xs.length ∧ i + 5 < xs.length ∧ gm_fv H b i = .int (xs.getD i 0) ∧ gm_fv H b (i + 1) = .int (xs.getD (i + 1) 0) ∧ gm_fv H b (i + 2) = .int (xs.getD (i + 2) 0) ∧ gm_fv H b (i + 3) = .int (xs.getD (i + 3) 0) ∧ gm_fv H b (i + 4) = .int (xs.getD (i + 4) 0) ∧ gm_fv H b (i + 5) = .int (xs.getD (i + 5) 0) := by
  obtain ⟨e1, e2, e3⟩ := gl_sc I.1.2.1
  exact ⟨e1, e2, by omega, by omega, by omega, by omega, by omega, by omega, e3 _ (by omega), e3 _ (by omega), e3 _ (by omega), e3 _ (by omega), e3 _ (by omega), e3 _ (by omega)⟩
theorem gl_wdefine (hd : 400 ≤ d) (hx : xs.length ≤ 100000) (I : gl_I E b xs x m C S σ τ H) (hi : i + 6 ≤ xs.length) (St : gl_St gl_c R) (hR : R (k + 1) σ τ) (go : ∀ (H' : gm_H) (σ' τ' : gp_s), R k σ' τ' → gl_I E b xs x m (C + 710) (S + 5700) σ' τ' H' → gm_W E d 0 504 [.ref b, .ref x, .ref m, .int (nI i)] [] H' Q) : gm_W E d 0 128 [.ref b, .ref x, .ref m, .int (nI i)] [] H Q := by
  obtain ⟨a1, a2, a3, a4, a5⟩ := nI_k (i := i)
  have hx2 : xs.length < 2147483648 := by omega
  obtain ⟨ka, na, l0, l1, l2, l3, l4, l5, va0, va1, va2, va3, va4, va5⟩ := I.scr hx hi
  simp only [r0_128, r0_128n, r0_129, r0_129n, r0_130, r0_131, r0_132, r0_133, r0_134, r0_134n, r0_135, r0_136, r0_137, r0_138, r0_139, r0_139n, r0_140, r0_141, r0_142, r0_143, r0_144, r0_144n, r0_145, r0_146, r0_147, r0_148, r0_149, r0_150, r0_152, r0_153, r0_153n, r0_154, r0_155, r0_156, r0_157, r0_158, r0_159, r0_162, r0_163, i32_10, reduceIte, gm_cmp1, gm_cmp3, gm_cmp4, gm_kd_sf, gm_ln_sf, gm_sf_1, gm_sf_2, gm_nw_1, gm_nw_2, gm_k_int, gm_k_ref, gm_k_null, gm_k_u, gm_k_long, and_true, true_and, true_or, or_true, or_false, false_or, and_self, or_self, if_true, if_false, List.map_nil, List.map_cons, List.sum_nil, List.sum_cons, Nat.zero_le, Option.toList_some, Option.toList_none, List.cons_append, List.nil_append, ne_eq, not_false_eq_true, not_true_eq_false, nI_1, nI_add, Value.category, Nat.reduceAdd, Nat.reduceMod, Nat.reduceLeDiff, Nat.reduceLT, Nat.reduceEqDiff, Nat.reducePow, Nat.le_refl, Nat.add_left_cancel_iff, Nat.add_eq_left, Nat.left_eq_add, Nat.add_zero, ka, na, hx2, l0, l1, l2, l3, l4, l5, va0, va1, va2, va3, va4, va5, a1, a2, a3, a4, a5]
  refine c0_164 (by simp [Value.category]) I.kx (by omega) (gl_cx.to (gl_xdefine (by omega) I.2.1) I m52 (by decide) (by decide)) (gl_kn (fun H1 I1 => ?_)) gl_kx
  obtain ⟨kb, nb, l0, l1, l2, l3, l4, l5, vb0, vb1, vb2, vb3, vb4, vb5⟩ := I1.scr hx hi
  simp only [r0_167, r0_167n, r0_168, r0_168n, r0_169, r0_170, r0_171, r0_172, r0_173, r0_173n, r0_174, r0_175, r0_176, r0_177, r0_178, r0_178n, r0_179, r0_180, r0_181, r0_182, r0_183, r0_183n, r0_184, r0_185, r0_186, r0_187, r0_188, r0_189, r0_191, r0_192, r0_192n, r0_193, r0_194, r0_195, r0_196, r0_197, r0_198, r0_201, r0_202, i32_10, reduceIte, gm_cmp1, gm_cmp3, gm_cmp4, gm_kd_sf, gm_ln_sf, gm_sf_1, gm_sf_2, gm_nw_1, gm_nw_2, gm_k_int, gm_k_ref, gm_k_null, gm_k_u, gm_k_long, and_true, true_and, true_or, or_true, or_false, false_or, and_self, or_self, if_true, if_false, List.map_nil, List.map_cons, List.sum_nil, List.sum_cons, Nat.zero_le, Option.toList_some, Option.toList_none, List.cons_append, List.nil_append, ne_eq, not_false_eq_true, not_true_eq_false, nI_1, nI_add, Value.category, Nat.reduceAdd, Nat.reduceMod, Nat.reduceLeDiff, Nat.reduceLT, Nat.reduceEqDiff, Nat.reducePow, Nat.le_refl, Nat.add_left_cancel_iff, Nat.add_eq_left, Nat.left_eq_add, Nat.add_zero, kb, nb, hx2, l0, l1, l2, l3, l4, l5, vb0, vb1, vb2, vb3, vb4, vb5, a1, a2, a3, a4, a5]
  refine c0_203 (by simp [Value.category]) I1.km (by omega) (gl_cm.to (gl_mdefine (by omega)) I1 m6 (by decide) (by decide)) (gl_kn (fun H2 I2 => ?_)) gl_kx
  simp only [Option.toList_some, List.cons_append, List.nil_append]
  rw [(St.define k σ τ _ _ _ _ hR).1 rfl]
  simp only [r0_206, r0_209, r0_210, i32_10, reduceIte, gm_cmp1, gm_cmp3, gm_cmp4, gm_kd_sf, gm_ln_sf, gm_sf_1, gm_sf_2, gm_nw_1, gm_nw_2, gm_k_int, gm_k_ref, gm_k_null, gm_k_u, gm_k_long, and_true, true_and, true_or, or_true, or_false, false_or, and_self, or_self, if_true, if_false, List.map_nil, List.map_cons, List.sum_nil, List.sum_cons, Nat.zero_le, Option.toList_some, Option.toList_none, List.cons_append, List.nil_append, ne_eq, not_false_eq_true, not_true_eq_false, nI_1, nI_add, Value.category, Nat.reduceAdd, Nat.reduceMod, Nat.reduceLeDiff, Nat.reduceLT, Nat.reduceEqDiff, Nat.reducePow, Nat.le_refl, Nat.add_left_cancel_iff, Nat.add_eq_left, Nat.left_eq_add, Nat.add_zero, eq_self]
  exact go _ _ _ (St.define k σ τ _ _ _ _ hR).2 I2
theorem gl_wfield (hd : 400 ≤ d) (hx : xs.length ≤ 100000) (I : gl_I E b xs x m C S σ τ H) (hi : i + 6 ≤ xs.length) (St : gl_St gl_c R) (hR : R (k + 1) σ τ) (go : ∀ (H' : gm_H) (σ' τ' : gp_s), R k σ' τ' → gl_I E b xs x m (C + 710) (S + 5700) σ' τ' H' → gm_W E d 0 504 [.ref b, .ref x, .ref m, .int (nI i)] [] H' Q) : gm_W E d 0 211 [.ref b, .ref x, .ref m, .int (nI i)] [] H Q := by
  obtain ⟨a1, a2, a3, a4, a5⟩ := nI_k (i := i)
  have hx2 : xs.length < 2147483648 := by omega
  obtain ⟨ka, na, l0, l1, l2, l3, l4, l5, va0, va1, va2, va3, va4, va5⟩ := I.scr hx hi
  simp only [r0_211, r0_211n, r0_212, r0_212n, r0_213, r0_214, r0_215, r0_216, r0_217, r0_217n, r0_218, r0_219, r0_220, r0_221, r0_222, r0_222n, r0_223, r0_224, r0_225, r0_226, i32_10, reduceIte, gm_cmp1, gm_cmp3, gm_cmp4, gm_kd_sf, gm_ln_sf, gm_sf_1, gm_sf_2, gm_nw_1, gm_nw_2, gm_k_int, gm_k_ref, gm_k_null, gm_k_u, gm_k_long, and_true, true_and, true_or, or_true, or_false, false_or, and_self, or_self, if_true, if_false, List.map_nil, List.map_cons, List.sum_nil, List.sum_cons, Nat.zero_le, Option.toList_some, Option.toList_none, List.cons_append, List.nil_append, ne_eq, not_false_eq_true, not_true_eq_false, nI_1, nI_add, Value.category, Nat.reduceAdd, Nat.reduceMod, Nat.reduceLeDiff, Nat.reduceLT, Nat.reduceEqDiff, Nat.reducePow, Nat.le_refl, Nat.add_left_cancel_iff, Nat.add_eq_left, Nat.left_eq_add, Nat.add_zero, ka, na, hx2, l0, l1, l2, l3, l4, l5, va0, va1, va2, va3, va4, va5, a1, a2, a3, a4, a5]
  refine c0_227 (by simp [Value.category]) I.kx (by omega) (gl_cx.to (gl_xfield (by omega) I.2.1) I m53 (by decide) (by decide)) (gl_kn (fun H1 I1 => ?_)) gl_kx
  obtain ⟨kb, nb, l0, l1, l2, l3, l4, l5, vb0, vb1, vb2, vb3, vb4, vb5⟩ := I1.scr hx hi
  simp only [r0_230, r0_230a, r0_230n, r0_231, r0_231n, r0_232, r0_232n, r0_233, r0_234, r0_235, r0_236, r0_237, r0_237n, r0_238, r0_239, r0_240, r0_241, r0_242, r0_242n, r0_243, r0_244, r0_245, r0_246, i32_10, reduceIte, gm_cmp1, gm_cmp3, gm_cmp4, gm_kd_sf, gm_ln_sf, gm_sf_1, gm_sf_2, gm_nw_1, gm_nw_2, gm_k_int, gm_k_ref, gm_k_null, gm_k_u, gm_k_long, and_true, true_and, true_or, or_true, or_false, false_or, and_self, or_self, if_true, if_false, List.map_nil, List.map_cons, List.sum_nil, List.sum_cons, Nat.zero_le, Option.toList_some, Option.toList_none, List.cons_append, List.nil_append, ne_eq, not_false_eq_true, not_true_eq_false, nI_1, nI_add, Value.category, Nat.reduceAdd, Nat.reduceMod, Nat.reduceLeDiff, Nat.reduceLT, Nat.reduceEqDiff, Nat.reducePow, Nat.le_refl, Nat.add_left_cancel_iff, Nat.add_eq_left, Nat.left_eq_add, Nat.add_zero, kb, nb, hx2, l0, l1, l2, l3, l4, l5, vb0, vb1, vb2, vb3, vb4, vb5, a1, a2, a3, a4, a5]
  refine c0_247 (by simp [Value.category]) I1.km (by omega) (gl_cm.to (gl_mfield (by omega)) I1 m7 (by decide) (by decide)) (gl_kn (fun H2 I2 => ?_)) gl_kx
  simp only [Option.toList_some, List.cons_append, List.nil_append]
  simp only [r0_250, r0_250a, r0_250n, r0_251, i32_10, reduceIte, gm_cmp1, gm_cmp3, gm_cmp4, gm_kd_sf, gm_ln_sf, gm_sf_1, gm_sf_2, gm_nw_1, gm_nw_2, gm_k_int, gm_k_ref, gm_k_null, gm_k_u, gm_k_long, and_true, true_and, true_or, or_true, or_false, false_or, and_self, or_self, if_true, if_false, List.map_nil, List.map_cons, List.sum_nil, List.sum_cons, Nat.zero_le, Option.toList_some, Option.toList_none, List.cons_append, List.nil_append, ne_eq, not_false_eq_true, not_true_eq_false, nI_1, nI_add, Value.category, Nat.reduceAdd, Nat.reduceMod, Nat.reduceLeDiff, Nat.reduceLT, Nat.reduceEqDiff, Nat.reducePow, Nat.le_refl, Nat.add_left_cancel_iff, Nat.add_eq_left, Nat.left_eq_add, Nat.add_zero, eq_self]
  exact go _ _ _ (St.field k σ τ _ _ _ hR).2 I2
theorem gl_wconstant (hd : 400 ≤ d) (hx : xs.length ≤ 100000) (I : gl_I E b xs x m C S σ τ H) (hi : i + 6 ≤ xs.length) (St : gl_St gl_c R) (hR : R (k + 1) σ τ) (go : ∀ (H' : gm_H) (σ' τ' : gp_s), R k σ' τ' → gl_I E b xs x m (C + 710) (S + 5700) σ' τ' H' → gm_W E d 0 504 [.ref b, .ref x, .ref m, .int (nI i)] [] H' Q) : gm_W E d 0 254 [.ref b, .ref x, .ref m, .int (nI i)] [] H Q := by
  obtain ⟨a1, a2, a3, a4, a5⟩ := nI_k (i := i)
  by_cases z : xs.getD (i + 3) 0 = 0
  · skip
    have hx2 : xs.length < 2147483648 := by omega
    obtain ⟨ka, na, l0, l1, l2, l3, l4, l5, va0, va1, va2, va3, va4, va5⟩ := I.scr hx hi
    simp only [r0_254, r0_254n, r0_255, r0_255n, r0_256, r0_257, r0_258, r0_259, r0_260, r0_260n, r0_261, r0_262, r0_263, r0_264, r0_265, r0_265n, r0_266, r0_267, r0_268, r0_269, r0_270, r0_273, r0_274, r0_277, i32_10, reduceIte, gm_cmp1, gm_cmp3, gm_cmp4, gm_kd_sf, gm_ln_sf, gm_sf_1, gm_sf_2, gm_nw_1, gm_nw_2, gm_k_int, gm_k_ref, gm_k_null, gm_k_u, gm_k_long, and_true, true_and, true_or, or_true, or_false, false_or, and_self, or_self, if_true, if_false, List.map_nil, List.map_cons, List.sum_nil, List.sum_cons, Nat.zero_le, Option.toList_some, Option.toList_none, List.cons_append, List.nil_append, ne_eq, not_false_eq_true, not_true_eq_false, nI_1, nI_add, Value.category, Nat.reduceAdd, Nat.reduceMod, Nat.reduceLeDiff, Nat.reduceLT, Nat.reduceEqDiff, Nat.reducePow, Nat.le_refl, Nat.add_left_cancel_iff, Nat.add_eq_left, Nat.left_eq_add, Nat.add_zero, ka, na, hx2, l0, l1, l2, l3, l4, l5, va0, va1, va2, va3, va4, va5, a1, a2, a3, a4, a5, z]
    refine c0_278 (by simp [Value.category]) I.kx (by omega) (gl_cx.to (gl_xconstant (by omega) (Or.inl rfl) I.2.1) I m54 (by decide) (by decide)) (gl_kn (fun H1 I1 => ?_)) gl_kx
    obtain ⟨kb, nb, l0, l1, l2, l3, l4, l5, vb0, vb1, vb2, vb3, vb4, vb5⟩ := I1.scr hx hi
    simp only [r0_281, r0_281a, r0_281n, r0_282, r0_282n, r0_283, r0_283n, r0_284, r0_285, r0_286, r0_287, r0_288, r0_288n, r0_289, r0_290, r0_291, r0_292, r0_293, r0_293n, r0_294, r0_295, r0_296, r0_297, r0_298, r0_301, r0_302, r0_305, i32_10, reduceIte, gm_cmp1, gm_cmp3, gm_cmp4, gm_kd_sf, gm_ln_sf, gm_sf_1, gm_sf_2, gm_nw_1, gm_nw_2, gm_k_int, gm_k_ref, gm_k_null, gm_k_u, gm_k_long, and_true, true_and, true_or, or_true, or_false, false_or, and_self, or_self, if_true, if_false, List.map_nil, List.map_cons, List.sum_nil, List.sum_cons, Nat.zero_le, Option.toList_some, Option.toList_none, List.cons_append, List.nil_append, ne_eq, not_false_eq_true, not_true_eq_false, nI_1, nI_add, Value.category, Nat.reduceAdd, Nat.reduceMod, Nat.reduceLeDiff, Nat.reduceLT, Nat.reduceEqDiff, Nat.reducePow, Nat.le_refl, Nat.add_left_cancel_iff, Nat.add_eq_left, Nat.left_eq_add, Nat.add_zero, kb, nb, hx2, l0, l1, l2, l3, l4, l5, vb0, vb1, vb2, vb3, vb4, vb5, a1, a2, a3, a4, a5, z]
    refine c0_306 (by simp [Value.category]) I1.km (by omega) (gl_cm.to (gl_mconstant (by omega) (Or.inl rfl)) I1 m8 (by decide) (by decide)) (gl_kn (fun H2 I2 => ?_)) gl_kx
    simp only [Option.toList_some, List.cons_append, List.nil_append]
    simp only [r0_309, r0_309a, r0_309n, r0_310, i32_10, reduceIte, gm_cmp1, gm_cmp3, gm_cmp4, gm_kd_sf, gm_ln_sf, gm_sf_1, gm_sf_2, gm_nw_1, gm_nw_2, gm_k_int, gm_k_ref, gm_k_null, gm_k_u, gm_k_long, and_true, true_and, true_or, or_true, or_false, false_or, and_self, or_self, if_true, if_false, List.map_nil, List.map_cons, List.sum_nil, List.sum_cons, Nat.zero_le, Option.toList_some, Option.toList_none, List.cons_append, List.nil_append, ne_eq, not_false_eq_true, not_true_eq_false, nI_1, nI_add, Value.category, Nat.reduceAdd, Nat.reduceMod, Nat.reduceLeDiff, Nat.reduceLT, Nat.reduceEqDiff, Nat.reducePow, Nat.le_refl, Nat.add_left_cancel_iff, Nat.add_eq_left, Nat.left_eq_add, Nat.add_zero, eq_self]
    exact go _ _ _ (St.constant k σ τ _ _ _ hR).2 I2
  · skip
    have hx2 : xs.length < 2147483648 := by omega
    obtain ⟨ka, na, l0, l1, l2, l3, l4, l5, va0, va1, va2, va3, va4, va5⟩ := I.scr hx hi
    simp only [r0_254, r0_254n, r0_255, r0_255n, r0_256, r0_257, r0_258, r0_259, r0_260, r0_260n, r0_261, r0_262, r0_263, r0_264, r0_265, r0_265n, r0_266, r0_267, r0_268, r0_269, r0_270, r0_273, r0_274, r0_277, i32_10, reduceIte, gm_cmp1, gm_cmp3, gm_cmp4, gm_kd_sf, gm_ln_sf, gm_sf_1, gm_sf_2, gm_nw_1, gm_nw_2, gm_k_int, gm_k_ref, gm_k_null, gm_k_u, gm_k_long, and_true, true_and, true_or, or_true, or_false, false_or, and_self, or_self, if_true, if_false, List.map_nil, List.map_cons, List.sum_nil, List.sum_cons, Nat.zero_le, Option.toList_some, Option.toList_none, List.cons_append, List.nil_append, ne_eq, not_false_eq_true, not_true_eq_false, nI_1, nI_add, Value.category, Nat.reduceAdd, Nat.reduceMod, Nat.reduceLeDiff, Nat.reduceLT, Nat.reduceEqDiff, Nat.reducePow, Nat.le_refl, Nat.add_left_cancel_iff, Nat.add_eq_left, Nat.left_eq_add, Nat.add_zero, ka, na, hx2, l0, l1, l2, l3, l4, l5, va0, va1, va2, va3, va4, va5, a1, a2, a3, a4, a5, z]
    refine c0_278 (by simp [Value.category]) I.kx (by omega) (gl_cx.to (gl_xconstant (by omega) (Or.inr rfl) I.2.1) I m54 (by decide) (by decide)) (gl_kn (fun H1 I1 => ?_)) gl_kx
    obtain ⟨kb, nb, l0, l1, l2, l3, l4, l5, vb0, vb1, vb2, vb3, vb4, vb5⟩ := I1.scr hx hi
    simp only [r0_281, r0_281a, r0_281n, r0_282, r0_282n, r0_283, r0_283n, r0_284, r0_285, r0_286, r0_287, r0_288, r0_288n, r0_289, r0_290, r0_291, r0_292, r0_293, r0_293n, r0_294, r0_295, r0_296, r0_297, r0_298, r0_301, r0_302, r0_305, i32_10, reduceIte, gm_cmp1, gm_cmp3, gm_cmp4, gm_kd_sf, gm_ln_sf, gm_sf_1, gm_sf_2, gm_nw_1, gm_nw_2, gm_k_int, gm_k_ref, gm_k_null, gm_k_u, gm_k_long, and_true, true_and, true_or, or_true, or_false, false_or, and_self, or_self, if_true, if_false, List.map_nil, List.map_cons, List.sum_nil, List.sum_cons, Nat.zero_le, Option.toList_some, Option.toList_none, List.cons_append, List.nil_append, ne_eq, not_false_eq_true, not_true_eq_false, nI_1, nI_add, Value.category, Nat.reduceAdd, Nat.reduceMod, Nat.reduceLeDiff, Nat.reduceLT, Nat.reduceEqDiff, Nat.reducePow, Nat.le_refl, Nat.add_left_cancel_iff, Nat.add_eq_left, Nat.left_eq_add, Nat.add_zero, kb, nb, hx2, l0, l1, l2, l3, l4, l5, vb0, vb1, vb2, vb3, vb4, vb5, a1, a2, a3, a4, a5, z]
    refine c0_306 (by simp [Value.category]) I1.km (by omega) (gl_cm.to (gl_mconstant (by omega) (Or.inr rfl)) I1 m8 (by decide) (by decide)) (gl_kn (fun H2 I2 => ?_)) gl_kx
    simp only [Option.toList_some, List.cons_append, List.nil_append]
    simp only [r0_309, r0_309a, r0_309n, r0_310, i32_10, reduceIte, gm_cmp1, gm_cmp3, gm_cmp4, gm_kd_sf, gm_ln_sf, gm_sf_1, gm_sf_2, gm_nw_1, gm_nw_2, gm_k_int, gm_k_ref, gm_k_null, gm_k_u, gm_k_long, and_true, true_and, true_or, or_true, or_false, false_or, and_self, or_self, if_true, if_false, List.map_nil, List.map_cons, List.sum_nil, List.sum_cons, Nat.zero_le, Option.toList_some, Option.toList_none, List.cons_append, List.nil_append, ne_eq, not_false_eq_true, not_true_eq_false, nI_1, nI_add, Value.category, Nat.reduceAdd, Nat.reduceMod, Nat.reduceLeDiff, Nat.reduceLT, Nat.reduceEqDiff, Nat.reducePow, Nat.le_refl, Nat.add_left_cancel_iff, Nat.add_eq_left, Nat.left_eq_add, Nat.add_zero, eq_self]
    exact go _ _ _ (St.constant k σ τ _ _ _ hR).2 I2
theorem gl_wput (hd : 400 ≤ d) (hx : xs.length ≤ 100000) (I : gl_I E b xs x m C S σ τ H) (hi : i + 6 ≤ xs.length) (St : gl_St gl_c R) (hR : R (k + 1) σ τ) (go : ∀ (H' : gm_H) (σ' τ' : gp_s), R k σ' τ' → gl_I E b xs x m (C + 710) (S + 5700) σ' τ' H' → gm_W E d 0 504 [.ref b, .ref x, .ref m, .int (nI i)] [] H' Q) : gm_W E d 0 313 [.ref b, .ref x, .ref m, .int (nI i)] [] H Q := by
  obtain ⟨a1, a2, a3, a4, a5⟩ := nI_k (i := i)
  have hx2 : xs.length < 2147483648 := by omega
  obtain ⟨ka, na, l0, l1, l2, l3, l4, l5, va0, va1, va2, va3, va4, va5⟩ := I.scr hx hi
  simp only [r0_313, r0_313n, r0_314, r0_314n, r0_315, r0_316, r0_317, r0_318, r0_319, r0_320, r0_322, r0_323, r0_323n, r0_324, r0_325, r0_326, r0_327, r0_328, r0_329, r0_332, r0_333, r0_334, r0_334n, r0_335, r0_336, r0_337, r0_338, i32_10, reduceIte, gm_cmp1, gm_cmp3, gm_cmp4, gm_kd_sf, gm_ln_sf, gm_sf_1, gm_sf_2, gm_nw_1, gm_nw_2, gm_k_int, gm_k_ref, gm_k_null, gm_k_u, gm_k_long, and_true, true_and, true_or, or_true, or_false, false_or, and_self, or_self, if_true, if_false, List.map_nil, List.map_cons, List.sum_nil, List.sum_cons, Nat.zero_le, Option.toList_some, Option.toList_none, List.cons_append, List.nil_append, ne_eq, not_false_eq_true, not_true_eq_false, nI_1, nI_add, Value.category, Nat.reduceAdd, Nat.reduceMod, Nat.reduceLeDiff, Nat.reduceLT, Nat.reduceEqDiff, Nat.reducePow, Nat.le_refl, Nat.add_left_cancel_iff, Nat.add_eq_left, Nat.left_eq_add, Nat.add_zero, ka, na, hx2, l0, l1, l2, l3, l4, l5, va0, va1, va2, va3, va4, va5, a1, a2, a3, a4, a5]
  refine c0_339 (by simp [Value.category]) I.kx (by omega) (gl_cx.to (gl_xput I.2.1) I m55 (by decide) (by decide)) (gl_kn (fun H1 I1 => ?_)) gl_kx
  obtain ⟨kb, nb, l0, l1, l2, l3, l4, l5, vb0, vb1, vb2, vb3, vb4, vb5⟩ := I1.scr hx hi
  simp only [r0_342, r0_342a, r0_342n, r0_343, r0_343n, r0_344, r0_344n, r0_345, r0_346, r0_347, r0_348, r0_349, r0_350, r0_352, r0_353, r0_353n, r0_354, r0_355, r0_356, r0_357, r0_358, r0_359, r0_362, r0_363, r0_364, r0_364n, r0_365, r0_366, r0_367, r0_368, i32_10, reduceIte, gm_cmp1, gm_cmp3, gm_cmp4, gm_kd_sf, gm_ln_sf, gm_sf_1, gm_sf_2, gm_nw_1, gm_nw_2, gm_k_int, gm_k_ref, gm_k_null, gm_k_u, gm_k_long, and_true, true_and, true_or, or_true, or_false, false_or, and_self, or_self, if_true, if_false, List.map_nil, List.map_cons, List.sum_nil, List.sum_cons, Nat.zero_le, Option.toList_some, Option.toList_none, List.cons_append, List.nil_append, ne_eq, not_false_eq_true, not_true_eq_false, nI_1, nI_add, Value.category, Nat.reduceAdd, Nat.reduceMod, Nat.reduceLeDiff, Nat.reduceLT, Nat.reduceEqDiff, Nat.reducePow, Nat.le_refl, Nat.add_left_cancel_iff, Nat.add_eq_left, Nat.left_eq_add, Nat.add_zero, kb, nb, hx2, l0, l1, l2, l3, l4, l5, vb0, vb1, vb2, vb3, vb4, vb5, a1, a2, a3, a4, a5]
  refine c0_369 (by simp [Value.category]) I1.km (by omega) (gl_cm.to gl_mput I1 m9 (by decide) (by decide)) (gl_kn (fun H2 I2 => ?_)) gl_kx
  simp only [Option.toList_some, List.cons_append, List.nil_append]
  simp only [r0_372, r0_372a, r0_372n, r0_373, i32_10, reduceIte, gm_cmp1, gm_cmp3, gm_cmp4, gm_kd_sf, gm_ln_sf, gm_sf_1, gm_sf_2, gm_nw_1, gm_nw_2, gm_k_int, gm_k_ref, gm_k_null, gm_k_u, gm_k_long, and_true, true_and, true_or, or_true, or_false, false_or, and_self, or_self, if_true, if_false, List.map_nil, List.map_cons, List.sum_nil, List.sum_cons, Nat.zero_le, Option.toList_some, Option.toList_none, List.cons_append, List.nil_append, ne_eq, not_false_eq_true, not_true_eq_false, nI_1, nI_add, Value.category, Nat.reduceAdd, Nat.reduceMod, Nat.reduceLeDiff, Nat.reduceLT, Nat.reduceEqDiff, Nat.reducePow, Nat.le_refl, Nat.add_left_cancel_iff, Nat.add_eq_left, Nat.left_eq_add, Nat.add_zero, eq_self]
  exact go _ _ _ (St.put k σ τ _ _ hR).2 I2
theorem gl_wbegin (hd : 400 ≤ d) (hx : xs.length ≤ 100000) (I : gl_I E b xs x m C S σ τ H) (hi : i + 6 ≤ xs.length) (St : gl_St gl_c R) (hR : R (k + 1) σ τ) (go : ∀ (H' : gm_H) (σ' τ' : gp_s), R k σ' τ' → gl_I E b xs x m (C + 710) (S + 5700) σ' τ' H' → gm_W E d 0 504 [.ref b, .ref x, .ref m, .int (nI i)] [] H' Q) : gm_W E d 0 376 [.ref b, .ref x, .ref m, .int (nI i)] [] H Q := by
  obtain ⟨a1, a2, a3, a4, a5⟩ := nI_k (i := i)
  have hx2 : xs.length < 2147483648 := by omega
  obtain ⟨ka, na, l0, l1, l2, l3, l4, l5, va0, va1, va2, va3, va4, va5⟩ := I.scr hx hi
  simp only [r0_376, r0_376n, i32_10, reduceIte, gm_cmp1, gm_cmp3, gm_cmp4, gm_kd_sf, gm_ln_sf, gm_sf_1, gm_sf_2, gm_nw_1, gm_nw_2, gm_k_int, gm_k_ref, gm_k_null, gm_k_u, gm_k_long, and_true, true_and, true_or, or_true, or_false, false_or, and_self, or_self, if_true, if_false, List.map_nil, List.map_cons, List.sum_nil, List.sum_cons, Nat.zero_le, Option.toList_some, Option.toList_none, List.cons_append, List.nil_append, ne_eq, not_false_eq_true, not_true_eq_false, nI_1, nI_add, Value.category, Nat.reduceAdd, Nat.reduceMod, Nat.reduceLeDiff, Nat.reduceLT, Nat.reduceEqDiff, Nat.reducePow, Nat.le_refl, Nat.add_left_cancel_iff, Nat.add_eq_left, Nat.left_eq_add, Nat.add_zero, ka, na, hx2, l0, l1, l2, l3, l4, l5, va0, va1, va2, va3, va4, va5, a1, a2, a3, a4, a5]
  refine c0_377 (by simp [Value.category]) I.kx (by omega) (gl_cx.to (gl_xbegin (by omega) I.2.1) I m56 (by decide) (by decide)) (gl_kn (fun H1 I1 => ?_)) gl_kx
  obtain ⟨kb, nb, l0, l1, l2, l3, l4, l5, vb0, vb1, vb2, vb3, vb4, vb5⟩ := I1.scr hx hi
  simp only [r0_380, r0_380a, r0_380n, r0_381, r0_381n, i32_10, reduceIte, gm_cmp1, gm_cmp3, gm_cmp4, gm_kd_sf, gm_ln_sf, gm_sf_1, gm_sf_2, gm_nw_1, gm_nw_2, gm_k_int, gm_k_ref, gm_k_null, gm_k_u, gm_k_long, and_true, true_and, true_or, or_true, or_false, false_or, and_self, or_self, if_true, if_false, List.map_nil, List.map_cons, List.sum_nil, List.sum_cons, Nat.zero_le, Option.toList_some, Option.toList_none, List.cons_append, List.nil_append, ne_eq, not_false_eq_true, not_true_eq_false, nI_1, nI_add, Value.category, Nat.reduceAdd, Nat.reduceMod, Nat.reduceLeDiff, Nat.reduceLT, Nat.reduceEqDiff, Nat.reducePow, Nat.le_refl, Nat.add_left_cancel_iff, Nat.add_eq_left, Nat.left_eq_add, Nat.add_zero, kb, nb, hx2, l0, l1, l2, l3, l4, l5, vb0, vb1, vb2, vb3, vb4, vb5, a1, a2, a3, a4, a5]
  refine c0_382 (by simp [Value.category]) I1.km (by omega) (gl_cm.to (gl_mbegin (by omega)) I1 m14 (by decide) (by decide)) (gl_kn (fun H2 I2 => ?_)) gl_kx
  simp only [Option.toList_some, List.cons_append, List.nil_append]
  simp only [r0_385, r0_385a, r0_385n, r0_386, i32_10, reduceIte, gm_cmp1, gm_cmp3, gm_cmp4, gm_kd_sf, gm_ln_sf, gm_sf_1, gm_sf_2, gm_nw_1, gm_nw_2, gm_k_int, gm_k_ref, gm_k_null, gm_k_u, gm_k_long, and_true, true_and, true_or, or_true, or_false, false_or, and_self, or_self, if_true, if_false, List.map_nil, List.map_cons, List.sum_nil, List.sum_cons, Nat.zero_le, Option.toList_some, Option.toList_none, List.cons_append, List.nil_append, ne_eq, not_false_eq_true, not_true_eq_false, nI_1, nI_add, Value.category, Nat.reduceAdd, Nat.reduceMod, Nat.reduceLeDiff, Nat.reduceLT, Nat.reduceEqDiff, Nat.reducePow, Nat.le_refl, Nat.add_left_cancel_iff, Nat.add_eq_left, Nat.left_eq_add, Nat.add_zero, eq_self]
  exact go _ _ _ (St.begin k σ τ  hR).2 I2
theorem gl_wread (hd : 400 ≤ d) (hx : xs.length ≤ 100000) (I : gl_I E b xs x m C S σ τ H) (hi : i + 6 ≤ xs.length) (St : gl_St gl_c R) (hR : R (k + 1) σ τ) (go : ∀ (H' : gm_H) (σ' τ' : gp_s), R k σ' τ' → gl_I E b xs x m (C + 710) (S + 5700) σ' τ' H' → gm_W E d 0 504 [.ref b, .ref x, .ref m, .int (nI i)] [] H' Q) : gm_W E d 0 389 [.ref b, .ref x, .ref m, .int (nI i)] [] H Q := by
  obtain ⟨a1, a2, a3, a4, a5⟩ := nI_k (i := i)
  obtain ⟨hK, v, τ2, hRD, hcm, hRk⟩ := St.read k σ τ hR
  have hx2 : xs.length < 2147483648 := by omega
  obtain ⟨ka, na, l0, l1, l2, l3, l4, l5, va0, va1, va2, va3, va4, va5⟩ := I.scr hx hi
  simp only [r0_389, r0_389n, i32_10, reduceIte, gm_cmp1, gm_cmp3, gm_cmp4, gm_kd_sf, gm_ln_sf, gm_sf_1, gm_sf_2, gm_nw_1, gm_nw_2, gm_k_int, gm_k_ref, gm_k_null, gm_k_u, gm_k_long, and_true, true_and, true_or, or_true, or_false, false_or, and_self, or_self, if_true, if_false, List.map_nil, List.map_cons, List.sum_nil, List.sum_cons, Nat.zero_le, Option.toList_some, Option.toList_none, List.cons_append, List.nil_append, ne_eq, not_false_eq_true, not_true_eq_false, nI_1, nI_add, Value.category, Nat.reduceAdd, Nat.reduceMod, Nat.reduceLeDiff, Nat.reduceLT, Nat.reduceEqDiff, Nat.reducePow, Nat.le_refl, Nat.add_left_cancel_iff, Nat.add_eq_left, Nat.left_eq_add, Nat.add_zero, ka, na, hx2, l0, l1, l2, l3, l4, l5, va0, va1, va2, va3, va4, va5, a1, a2, a3, a4, a5]
  refine c0_390 (by simp [Value.category]) I.kx (by omega) (gl_cx.to (gl_xread (by omega) hK I.2.1) I m57 (by decide) (by decide)) (gl_kn (fun H1 I1 => ?_)) gl_kx
  obtain ⟨kb, nb, l0, l1, l2, l3, l4, l5, vb0, vb1, vb2, vb3, vb4, vb5⟩ := I1.scr hx hi
  simp only [r0_393, r0_393a, r0_393n, r0_394, r0_394n, i32_10, reduceIte, gm_cmp1, gm_cmp3, gm_cmp4, gm_kd_sf, gm_ln_sf, gm_sf_1, gm_sf_2, gm_nw_1, gm_nw_2, gm_k_int, gm_k_ref, gm_k_null, gm_k_u, gm_k_long, and_true, true_and, true_or, or_true, or_false, false_or, and_self, or_self, if_true, if_false, List.map_nil, List.map_cons, List.sum_nil, List.sum_cons, Nat.zero_le, Option.toList_some, Option.toList_none, List.cons_append, List.nil_append, ne_eq, not_false_eq_true, not_true_eq_false, nI_1, nI_add, Value.category, Nat.reduceAdd, Nat.reduceMod, Nat.reduceLeDiff, Nat.reduceLT, Nat.reduceEqDiff, Nat.reducePow, Nat.le_refl, Nat.add_left_cancel_iff, Nat.add_eq_left, Nat.left_eq_add, Nat.add_zero, kb, nb, hx2, l0, l1, l2, l3, l4, l5, vb0, vb1, vb2, vb3, vb4, vb5, a1, a2, a3, a4, a5]
  refine c0_395 (by simp [Value.category]) I1.km (by omega) (gl_cm.to (hRD E (d - 1) m H1 (by omega)) I1 m46 (by decide) (by decide)) (gl_kn (fun H2 I2 => ?_)) gl_kx
  simp only [Option.toList_some, List.cons_append, List.nil_append]
  simp only [r0_398, r0_398a, r0_398n, r0_399, i32_10, reduceIte, gm_cmp1, gm_cmp3, gm_cmp4, gm_kd_sf, gm_ln_sf, gm_sf_1, gm_sf_2, gm_nw_1, gm_nw_2, gm_k_int, gm_k_ref, gm_k_null, gm_k_u, gm_k_long, and_true, true_and, true_or, or_true, or_false, false_or, and_self, or_self, if_true, if_false, List.map_nil, List.map_cons, List.sum_nil, List.sum_cons, Nat.zero_le, Option.toList_some, Option.toList_none, List.cons_append, List.nil_append, ne_eq, not_false_eq_true, not_true_eq_false, nI_1, nI_add, Value.category, Nat.reduceAdd, Nat.reduceMod, Nat.reduceLeDiff, Nat.reduceLT, Nat.reduceEqDiff, Nat.reducePow, Nat.le_refl, Nat.add_left_cancel_iff, Nat.add_eq_left, Nat.left_eq_add, Nat.add_zero, eq_self]
  exact go _ _ _ hRk I2
theorem gl_wpass (hd : 400 ≤ d) (hx : xs.length ≤ 100000) (I : gl_I E b xs x m C S σ τ H) (hi : i + 6 ≤ xs.length) (St : gl_St gl_c R) (hR : R (k + 1) σ τ) (go : ∀ (H' : gm_H) (σ' τ' : gp_s), R k σ' τ' → gl_I E b xs x m (C + 710) (S + 5700) σ' τ' H' → gm_W E d 0 504 [.ref b, .ref x, .ref m, .int (nI i)] [] H' Q) : gm_W E d 0 402 [.ref b, .ref x, .ref m, .int (nI i)] [] H Q := by
  obtain ⟨a1, a2, a3, a4, a5⟩ := nI_k (i := i)
  have hx2 : xs.length < 2147483648 := by omega
  obtain ⟨ka, na, l0, l1, l2, l3, l4, l5, va0, va1, va2, va3, va4, va5⟩ := I.scr hx hi
  simp only [r0_402, r0_402n, i32_10, reduceIte, gm_cmp1, gm_cmp3, gm_cmp4, gm_kd_sf, gm_ln_sf, gm_sf_1, gm_sf_2, gm_nw_1, gm_nw_2, gm_k_int, gm_k_ref, gm_k_null, gm_k_u, gm_k_long, and_true, true_and, true_or, or_true, or_false, false_or, and_self, or_self, if_true, if_false, List.map_nil, List.map_cons, List.sum_nil, List.sum_cons, Nat.zero_le, Option.toList_some, Option.toList_none, List.cons_append, List.nil_append, ne_eq, not_false_eq_true, not_true_eq_false, nI_1, nI_add, Value.category, Nat.reduceAdd, Nat.reduceMod, Nat.reduceLeDiff, Nat.reduceLT, Nat.reduceEqDiff, Nat.reducePow, Nat.le_refl, Nat.add_left_cancel_iff, Nat.add_eq_left, Nat.left_eq_add, Nat.add_zero, ka, na, hx2, l0, l1, l2, l3, l4, l5, va0, va1, va2, va3, va4, va5, a1, a2, a3, a4, a5]
  refine c0_403 (by simp [Value.category]) I.kx (by omega) (gl_cx.to (gl_xpass (by omega) I.2.1) I m58 (by decide) (by decide)) (gl_kn (fun H1 I1 => ?_)) gl_kx
  obtain ⟨kb, nb, l0, l1, l2, l3, l4, l5, vb0, vb1, vb2, vb3, vb4, vb5⟩ := I1.scr hx hi
  simp only [r0_406, r0_406a, r0_406n, r0_407, r0_407n, i32_10, reduceIte, gm_cmp1, gm_cmp3, gm_cmp4, gm_kd_sf, gm_ln_sf, gm_sf_1, gm_sf_2, gm_nw_1, gm_nw_2, gm_k_int, gm_k_ref, gm_k_null, gm_k_u, gm_k_long, and_true, true_and, true_or, or_true, or_false, false_or, and_self, or_self, if_true, if_false, List.map_nil, List.map_cons, List.sum_nil, List.sum_cons, Nat.zero_le, Option.toList_some, Option.toList_none, List.cons_append, List.nil_append, ne_eq, not_false_eq_true, not_true_eq_false, nI_1, nI_add, Value.category, Nat.reduceAdd, Nat.reduceMod, Nat.reduceLeDiff, Nat.reduceLT, Nat.reduceEqDiff, Nat.reducePow, Nat.le_refl, Nat.add_left_cancel_iff, Nat.add_eq_left, Nat.left_eq_add, Nat.add_zero, kb, nb, hx2, l0, l1, l2, l3, l4, l5, vb0, vb1, vb2, vb3, vb4, vb5, a1, a2, a3, a4, a5]
  refine c0_408 (by simp [Value.category]) I1.km (by omega) (gl_cm.to (gl_mpass (by omega)) I1 m47 (by decide) (by decide)) (gl_kn (fun H2 I2 => ?_)) gl_kx
  simp only [Option.toList_some, List.cons_append, List.nil_append]
  simp only [r0_411, r0_411a, r0_411n, r0_412, i32_10, reduceIte, gm_cmp1, gm_cmp3, gm_cmp4, gm_kd_sf, gm_ln_sf, gm_sf_1, gm_sf_2, gm_nw_1, gm_nw_2, gm_k_int, gm_k_ref, gm_k_null, gm_k_u, gm_k_long, and_true, true_and, true_or, or_true, or_false, false_or, and_self, or_self, if_true, if_false, List.map_nil, List.map_cons, List.sum_nil, List.sum_cons, Nat.zero_le, Option.toList_some, Option.toList_none, List.cons_append, List.nil_append, ne_eq, not_false_eq_true, not_true_eq_false, nI_1, nI_add, Value.category, Nat.reduceAdd, Nat.reduceMod, Nat.reduceLeDiff, Nat.reduceLT, Nat.reduceEqDiff, Nat.reducePow, Nat.le_refl, Nat.add_left_cancel_iff, Nat.add_eq_left, Nat.left_eq_add, Nat.add_zero, eq_self]
  exact go _ _ _ (St.pass k σ τ  hR).2 I2
theorem gl_wobject (hd : 400 ≤ d) (hx : xs.length ≤ 100000) (I : gl_I E b xs x m C S σ τ H) (hi : i + 6 ≤ xs.length) (St : gl_St gl_c R) (hR : R (k + 1) σ τ) (go : ∀ (H' : gm_H) (σ' τ' : gp_s), R k σ' τ' → gl_I E b xs x m (C + 710) (S + 5700) σ' τ' H' → gm_W E d 0 504 [.ref b, .ref x, .ref m, .int (nI i)] [] H' Q) : gm_W E d 0 415 [.ref b, .ref x, .ref m, .int (nI i)] [] H Q := by
  obtain ⟨a1, a2, a3, a4, a5⟩ := nI_k (i := i)
  have hx2 : xs.length < 2147483648 := by omega
  obtain ⟨ka, na, l0, l1, l2, l3, l4, l5, va0, va1, va2, va3, va4, va5⟩ := I.scr hx hi
  simp only [r0_415, r0_415n, r0_416, r0_416n, r0_417, r0_418, r0_419, r0_420, r0_421, r0_421n, r0_422, r0_423, r0_424, r0_425, i32_10, reduceIte, gm_cmp1, gm_cmp3, gm_cmp4, gm_kd_sf, gm_ln_sf, gm_sf_1, gm_sf_2, gm_nw_1, gm_nw_2, gm_k_int, gm_k_ref, gm_k_null, gm_k_u, gm_k_long, and_true, true_and, true_or, or_true, or_false, false_or, and_self, or_self, if_true, if_false, List.map_nil, List.map_cons, List.sum_nil, List.sum_cons, Nat.zero_le, Option.toList_some, Option.toList_none, List.cons_append, List.nil_append, ne_eq, not_false_eq_true, not_true_eq_false, nI_1, nI_add, Value.category, Nat.reduceAdd, Nat.reduceMod, Nat.reduceLeDiff, Nat.reduceLT, Nat.reduceEqDiff, Nat.reducePow, Nat.le_refl, Nat.add_left_cancel_iff, Nat.add_eq_left, Nat.left_eq_add, Nat.add_zero, ka, na, hx2, l0, l1, l2, l3, l4, l5, va0, va1, va2, va3, va4, va5, a1, a2, a3, a4, a5]
  refine c0_426 (by simp [Value.category]) I.kx (by omega) (gl_cx.to (gl_xobject (by omega) I.2.1) I m59 (by decide) (by decide)) (gl_kn (fun H1 I1 => ?_)) gl_kx
  obtain ⟨kb, nb, l0, l1, l2, l3, l4, l5, vb0, vb1, vb2, vb3, vb4, vb5⟩ := I1.scr hx hi
  simp only [r0_429, r0_429a, r0_429n, r0_430, r0_430n, r0_431, r0_431n, r0_432, r0_433, r0_434, r0_435, r0_436, r0_436n, r0_437, r0_438, r0_439, r0_440, i32_10, reduceIte, gm_cmp1, gm_cmp3, gm_cmp4, gm_kd_sf, gm_ln_sf, gm_sf_1, gm_sf_2, gm_nw_1, gm_nw_2, gm_k_int, gm_k_ref, gm_k_null, gm_k_u, gm_k_long, and_true, true_and, true_or, or_true, or_false, false_or, and_self, or_self, if_true, if_false, List.map_nil, List.map_cons, List.sum_nil, List.sum_cons, Nat.zero_le, Option.toList_some, Option.toList_none, List.cons_append, List.nil_append, ne_eq, not_false_eq_true, not_true_eq_false, nI_1, nI_add, Value.category, Nat.reduceAdd, Nat.reduceMod, Nat.reduceLeDiff, Nat.reduceLT, Nat.reduceEqDiff, Nat.reducePow, Nat.le_refl, Nat.add_left_cancel_iff, Nat.add_eq_left, Nat.left_eq_add, Nat.add_zero, kb, nb, hx2, l0, l1, l2, l3, l4, l5, vb0, vb1, vb2, vb3, vb4, vb5, a1, a2, a3, a4, a5]
  refine c0_441 (by simp [Value.category]) I1.km (by omega) (gl_cm.to (gl_mobject (by omega)) I1 m48 (by decide) (by decide)) (gl_kn (fun H2 I2 => ?_)) gl_kx
  simp only [Option.toList_some, List.cons_append, List.nil_append]
  simp only [r0_444, r0_444a, r0_444n, r0_445, i32_10, reduceIte, gm_cmp1, gm_cmp3, gm_cmp4, gm_kd_sf, gm_ln_sf, gm_sf_1, gm_sf_2, gm_nw_1, gm_nw_2, gm_k_int, gm_k_ref, gm_k_null, gm_k_u, gm_k_long, and_true, true_and, true_or, or_true, or_false, false_or, and_self, or_self, if_true, if_false, List.map_nil, List.map_cons, List.sum_nil, List.sum_cons, Nat.zero_le, Option.toList_some, Option.toList_none, List.cons_append, List.nil_append, ne_eq, not_false_eq_true, not_true_eq_false, nI_1, nI_add, Value.category, Nat.reduceAdd, Nat.reduceMod, Nat.reduceLeDiff, Nat.reduceLT, Nat.reduceEqDiff, Nat.reducePow, Nat.le_refl, Nat.add_left_cancel_iff, Nat.add_eq_left, Nat.left_eq_add, Nat.add_zero, eq_self, gx_cmp_eq]
  exact go _ _ _ (St.less k σ τ hR) I2
theorem gl_wvalue (hd : 400 ≤ d) (hx : xs.length ≤ 100000) (I : gl_I E b xs x m C S σ τ H) (hi : i + 6 ≤ xs.length) (St : gl_St gl_c R) (hR : R (k + 1) σ τ) (go : ∀ (H' : gm_H) (σ' τ' : gp_s), R k σ' τ' → gl_I E b xs x m (C + 710) (S + 5700) σ' τ' H' → gm_W E d 0 504 [.ref b, .ref x, .ref m, .int (nI i)] [] H' Q) : gm_W E d 0 448 [.ref b, .ref x, .ref m, .int (nI i)] [] H Q := by
  obtain ⟨a1, a2, a3, a4, a5⟩ := nI_k (i := i)
  have hx2 : xs.length < 2147483648 := by omega
  obtain ⟨ka, na, l0, l1, l2, l3, l4, l5, va0, va1, va2, va3, va4, va5⟩ := I.scr hx hi
  simp only [r0_448, r0_448n, r0_449, r0_449n, r0_450, r0_451, r0_452, r0_453, r0_454, r0_454n, r0_455, r0_456, r0_457, r0_458, i32_10, reduceIte, gm_cmp1, gm_cmp3, gm_cmp4, gm_kd_sf, gm_ln_sf, gm_sf_1, gm_sf_2, gm_nw_1, gm_nw_2, gm_k_int, gm_k_ref, gm_k_null, gm_k_u, gm_k_long, and_true, true_and, true_or, or_true, or_false, false_or, and_self, or_self, if_true, if_false, List.map_nil, List.map_cons, List.sum_nil, List.sum_cons, Nat.zero_le, Option.toList_some, Option.toList_none, List.cons_append, List.nil_append, ne_eq, not_false_eq_true, not_true_eq_false, nI_1, nI_add, Value.category, Nat.reduceAdd, Nat.reduceMod, Nat.reduceLeDiff, Nat.reduceLT, Nat.reduceEqDiff, Nat.reducePow, Nat.le_refl, Nat.add_left_cancel_iff, Nat.add_eq_left, Nat.left_eq_add, Nat.add_zero, ka, na, hx2, l0, l1, l2, l3, l4, l5, va0, va1, va2, va3, va4, va5, a1, a2, a3, a4, a5]
  refine c0_459 (by simp [Value.category]) I.kx (by omega) (gl_cx.to (gl_xvalue (by omega) I.2.1) I m60 (by decide) (by decide)) (gl_kn (fun H1 I1 => ?_)) gl_kx
  obtain ⟨kb, nb, l0, l1, l2, l3, l4, l5, vb0, vb1, vb2, vb3, vb4, vb5⟩ := I1.scr hx hi
  simp only [r0_462, r0_463, r0_463n, r0_464, r0_464n, r0_465, r0_466, r0_467, r0_468, r0_469, r0_469n, r0_470, r0_471, r0_472, r0_473, i32_10, reduceIte, gm_cmp1, gm_cmp3, gm_cmp4, gm_kd_sf, gm_ln_sf, gm_sf_1, gm_sf_2, gm_nw_1, gm_nw_2, gm_k_int, gm_k_ref, gm_k_null, gm_k_u, gm_k_long, and_true, true_and, true_or, or_true, or_false, false_or, and_self, or_self, if_true, if_false, List.map_nil, List.map_cons, List.sum_nil, List.sum_cons, Nat.zero_le, Option.toList_some, Option.toList_none, List.cons_append, List.nil_append, ne_eq, not_false_eq_true, not_true_eq_false, nI_1, nI_add, Value.category, Nat.reduceAdd, Nat.reduceMod, Nat.reduceLeDiff, Nat.reduceLT, Nat.reduceEqDiff, Nat.reducePow, Nat.le_refl, Nat.add_left_cancel_iff, Nat.add_eq_left, Nat.left_eq_add, Nat.add_zero, kb, nb, hx2, l0, l1, l2, l3, l4, l5, vb0, vb1, vb2, vb3, vb4, vb5, a1, a2, a3, a4, a5]
  refine c0_474 (by simp [Value.category]) I1.km (by omega) (gl_cm.to (gl_mvalue (by omega)) I1 m49 (by decide) (by decide)) (gl_kn (fun H2 I2 => ?_)) gl_kx
  simp only [Option.toList_some, List.cons_append, List.nil_append]
  simp only [r0_477, r0_478, i32_10, reduceIte, gm_cmp1, gm_cmp3, gm_cmp4, gm_kd_sf, gm_ln_sf, gm_sf_1, gm_sf_2, gm_nw_1, gm_nw_2, gm_k_int, gm_k_ref, gm_k_null, gm_k_u, gm_k_long, and_true, true_and, true_or, or_true, or_false, false_or, and_self, or_self, if_true, if_false, List.map_nil, List.map_cons, List.sum_nil, List.sum_cons, Nat.zero_le, Option.toList_some, Option.toList_none, List.cons_append, List.nil_append, ne_eq, not_false_eq_true, not_true_eq_false, nI_1, nI_add, Value.category, Nat.reduceAdd, Nat.reduceMod, Nat.reduceLeDiff, Nat.reduceLT, Nat.reduceEqDiff, Nat.reducePow, Nat.le_refl, Nat.add_left_cancel_iff, Nat.add_eq_left, Nat.left_eq_add, Nat.add_zero, eq_self, gx_cmp_eq]
  exact go _ _ _ (St.less k σ τ hR) I2
theorem gl_wcount (hd : 400 ≤ d) (hx : xs.length ≤ 100000) (I : gl_I E b xs x m C S σ τ H) (hi : i + 6 ≤ xs.length) (St : gl_St gl_c R) (hR : R (k + 1) σ τ) (go : ∀ (H' : gm_H) (σ' τ' : gp_s), R k σ' τ' → gl_I E b xs x m (C + 710) (S + 5700) σ' τ' H' → gm_W E d 0 504 [.ref b, .ref x, .ref m, .int (nI i)] [] H' Q) : gm_W E d 0 481 [.ref b, .ref x, .ref m, .int (nI i)] [] H Q := by
  obtain ⟨a1, a2, a3, a4, a5⟩ := nI_k (i := i)
  have hx2 : xs.length < 2147483648 := by omega
  obtain ⟨ka, na, l0, l1, l2, l3, l4, l5, va0, va1, va2, va3, va4, va5⟩ := I.scr hx hi
  simp only [r0_481, r0_481n, r0_482, r0_482n, r0_483, r0_484, r0_485, r0_486, i32_10, reduceIte, gm_cmp1, gm_cmp3, gm_cmp4, gm_kd_sf, gm_ln_sf, gm_sf_1, gm_sf_2, gm_nw_1, gm_nw_2, gm_k_int, gm_k_ref, gm_k_null, gm_k_u, gm_k_long, and_true, true_and, true_or, or_true, or_false, false_or, and_self, or_self, if_true, if_false, List.map_nil, List.map_cons, List.sum_nil, List.sum_cons, Nat.zero_le, Option.toList_some, Option.toList_none, List.cons_append, List.nil_append, ne_eq, not_false_eq_true, not_true_eq_false, nI_1, nI_add, Value.category, Nat.reduceAdd, Nat.reduceMod, Nat.reduceLeDiff, Nat.reduceLT, Nat.reduceEqDiff, Nat.reducePow, Nat.le_refl, Nat.add_left_cancel_iff, Nat.add_eq_left, Nat.left_eq_add, Nat.add_zero, ka, na, hx2, l0, l1, l2, l3, l4, l5, va0, va1, va2, va3, va4, va5, a1, a2, a3, a4, a5]
  refine c0_487 (by simp [Value.category]) I.kx (by omega) (gl_cx.to (gl_xcount (by omega) I.2.1) I m61 (by decide) (by decide)) (gl_kn (fun H1 I1 => ?_)) gl_kx
  obtain ⟨kb, nb, l0, l1, l2, l3, l4, l5, vb0, vb1, vb2, vb3, vb4, vb5⟩ := I1.scr hx hi
  simp only [r0_490, r0_490a, r0_490n, r0_491, r0_491n, r0_492, r0_492n, r0_493, r0_494, r0_495, r0_496, i32_10, reduceIte, gm_cmp1, gm_cmp3, gm_cmp4, gm_kd_sf, gm_ln_sf, gm_sf_1, gm_sf_2, gm_nw_1, gm_nw_2, gm_k_int, gm_k_ref, gm_k_null, gm_k_u, gm_k_long, and_true, true_and, true_or, or_true, or_false, false_or, and_self, or_self, if_true, if_false, List.map_nil, List.map_cons, List.sum_nil, List.sum_cons, Nat.zero_le, Option.toList_some, Option.toList_none, List.cons_append, List.nil_append, ne_eq, not_false_eq_true, not_true_eq_false, nI_1, nI_add, Value.category, Nat.reduceAdd, Nat.reduceMod, Nat.reduceLeDiff, Nat.reduceLT, Nat.reduceEqDiff, Nat.reducePow, Nat.le_refl, Nat.add_left_cancel_iff, Nat.add_eq_left, Nat.left_eq_add, Nat.add_zero, kb, nb, hx2, l0, l1, l2, l3, l4, l5, vb0, vb1, vb2, vb3, vb4, vb5, a1, a2, a3, a4, a5]
  refine c0_497 (by simp [Value.category]) I1.km (by omega) (gl_cm.to gl_mcount I1 m50 (by decide) (by decide)) (gl_kn (fun H2 I2 => ?_)) gl_kx
  simp only [Option.toList_some, List.cons_append, List.nil_append]
  simp only [r0_500, r0_500a, r0_500n, r0_501, i32_10, reduceIte, gm_cmp1, gm_cmp3, gm_cmp4, gm_kd_sf, gm_ln_sf, gm_sf_1, gm_sf_2, gm_nw_1, gm_nw_2, gm_k_int, gm_k_ref, gm_k_null, gm_k_u, gm_k_long, and_true, true_and, true_or, or_true, or_false, false_or, and_self, or_self, if_true, if_false, List.map_nil, List.map_cons, List.sum_nil, List.sum_cons, Nat.zero_le, Option.toList_some, Option.toList_none, List.cons_append, List.nil_append, ne_eq, not_false_eq_true, not_true_eq_false, nI_1, nI_add, Value.category, Nat.reduceAdd, Nat.reduceMod, Nat.reduceLeDiff, Nat.reduceLT, Nat.reduceEqDiff, Nat.reducePow, Nat.le_refl, Nat.add_left_cancel_iff, Nat.add_eq_left, Nat.left_eq_add, Nat.add_zero, eq_self, gx_cmp_eq]
  exact go _ _ _ (St.less k σ τ hR) I2
/-- so many calls to come -/
theorem gl_loop (hd : 400 ≤ d) (hx : xs.length ≤ 100000) (St : gl_St gl_c R) : ∀ (k i C S : Nat) (H : gm_H) (σ τ : gp_s), gl_I E b xs x m C S σ τ H → R k σ τ → xs.length < i + 6 * (k + 1) → i ≤ xs.length + 6 → 6 ≤ xs.length →
    gm_W E d 0 58 [.ref b, .ref x, .ref m, .int (nI i)] [] H (fun r h' => r = .inl (some (.int 1)) ∧ h'.1 ≤ C + 710 * k ∧ h'.2.1 ≤ S + 5700 * k) := by
  intro k
  induction k with
  | zero =>
    intro i C S H σ τ I hR h1 h2 h3
    obtain ⟨e1, e2, -⟩ := gl_sc I.1.2.1
    have q : nI xs.length - 6 < nI i := by
      rw [gl_sub h3]
      exact nI_lt (by omega) (by omega)
    have c := I.1.2.2
    simp only [r0_58, r0_59, r0_59n, r0_60, r0_61, r0_63, r0_64, r0_510, r0_511, i32_10, reduceIte, gm_cmp1, gm_cmp3, gm_cmp4, gm_kd_sf, gm_ln_sf, gm_sf_1, gm_sf_2, gm_nw_1, gm_nw_2, gm_k_int, gm_k_ref, gm_k_null, gm_k_u, gm_k_long, and_true, true_and, true_or, or_true, or_false, false_or, and_self, or_self, if_true, if_false, List.map_nil, List.map_cons, List.sum_nil, List.sum_cons, Nat.zero_le, Option.toList_some, Option.toList_none, List.cons_append, List.nil_append, ne_eq, not_false_eq_true, not_true_eq_false, nI_1, nI_add, Value.category, Nat.reduceAdd, Nat.reduceMod, Nat.reduceLeDiff, Nat.reduceLT, Nat.reduceEqDiff, Nat.reducePow, Nat.le_refl, Nat.add_left_cancel_iff, Nat.add_eq_left, Nat.left_eq_add, Nat.add_zero, e1, e2, q]
    exact ⟨by omega, by omega⟩
  | succ k ih =>
    intro i C S H σ τ I hR h1 h2 h3
    obtain ⟨e1, e2, -⟩ := gl_sc I.1.2.1
    have c := I.1.2.2
    rcases Nat.lt_or_ge xs.length (i + 6) with z | z
    · have q : nI xs.length - 6 < nI i := by
        rw [gl_sub h3]
        exact nI_lt (by omega) (by omega)
      simp only [r0_58, r0_59, r0_59n, r0_60, r0_61, r0_63, r0_64, r0_510, r0_511, i32_10, reduceIte, gm_cmp1, gm_cmp3, gm_cmp4, gm_kd_sf, gm_ln_sf, gm_sf_1, gm_sf_2, gm_nw_1, gm_nw_2, gm_k_int, gm_k_ref, gm_k_null, gm_k_u, gm_k_long, and_true, true_and, true_or, or_true, or_false, false_or, and_self, or_self, if_true, if_false, List.map_nil, List.map_cons, List.sum_nil, List.sum_cons, Nat.zero_le, Option.toList_some, Option.toList_none, List.cons_append, List.nil_append, ne_eq, not_false_eq_true, not_true_eq_false, nI_1, nI_add, Value.category, Nat.reduceAdd, Nat.reduceMod, Nat.reduceLeDiff, Nat.reduceLT, Nat.reduceEqDiff, Nat.reducePow, Nat.le_refl, Nat.add_left_cancel_iff, Nat.add_eq_left, Nat.left_eq_add, Nat.add_zero, e1, e2, q]
      exact ⟨by omega, by omega⟩
    · have q : ¬ nI xs.length - 6 < nI i := by
        rw [gl_sub h3]
        exact nI_nlt (by omega) (by omega)
      have hx2 : xs.length < 2147483648 := by omega
      obtain ⟨-, -, l0, -, -, -, -, -, v0, -⟩ := I.scr hx z
      have go : ∀ (H' : gm_H) (σ' τ' : gp_s), R k σ' τ' → gl_I E b xs x m (C + 710) (S + 5700) σ' τ' H' → gm_W E d 0 504 [.ref b, .ref x, .ref m, .int (nI i)] [] H' (fun r h' => r = .inl (some (.int 1)) ∧ h'.1 ≤ C + 710 * (k + 1) ∧ h'.2.1 ≤ S + 5700 * (k + 1)) := by
        intro H' σ' τ' hR' I'
        have w := ih (i + 6) (C + 710) (S + 5700) H' σ' τ' I' hR' (by omega) (by omega) h3
        have a6 : nI i + 6 = nI (i + 6) := nI_add i 6
        simp only [r0_504, r0_507, gm_k_ref, a6]
        exact gm_W.mono w (fun r h' q => ⟨q.1, by have := q.2.1; omega, by have := q.2.2; omega⟩)
      rw [r0_58]
      simp only [r0_59, r0_59n, r0_60, r0_61, r0_63, r0_64, r0_67, r0_67n, r0_68, r0_69, r0_70, r0_72, i32_10, reduceIte, gm_cmp1, gm_cmp3, gm_cmp4, gm_kd_sf, gm_ln_sf, gm_sf_1, gm_sf_2, gm_nw_1, gm_nw_2, gm_k_int, gm_k_ref, gm_k_null, gm_k_u, gm_k_long, and_true, true_and, true_or, or_true, or_false, false_or, and_self, or_self, if_true, if_false, List.map_nil, List.map_cons, List.sum_nil, List.sum_cons, Nat.zero_le, Option.toList_some, Option.toList_none, List.cons_append, List.nil_append, ne_eq, not_false_eq_true, not_true_eq_false, nI_1, nI_add, Value.category, Nat.reduceAdd, Nat.reduceMod, Nat.reduceLeDiff, Nat.reduceLT, Nat.reduceEqDiff, Nat.reducePow, Nat.le_refl, Nat.add_left_cancel_iff, Nat.add_eq_left, Nat.left_eq_add, Nat.add_zero, e1, e2, q, hx2, l0, v0]


      rw [r0_73]
      by_cases w0 : xs.getD i 0 &&& 15 = 0
      · rw [if_pos w0]
        exact gl_wdefine hd hx I z St hR go
      rw [if_neg w0]
      by_cases w1 : xs.getD i 0 &&& 15 = 1
      · rw [if_pos w1]
        exact gl_wfield hd hx I z St hR go
      rw [if_neg w1]
      by_cases w2 : xs.getD i 0 &&& 15 = 2
      · rw [if_pos w2]
        exact gl_wconstant hd hx I z St hR go
      rw [if_neg w2]
      by_cases w3 : xs.getD i 0 &&& 15 = 3
      · rw [if_pos w3]
        exact gl_wput hd hx I z St hR go
      rw [if_neg w3]
      by_cases w4 : xs.getD i 0 &&& 15 = 4
      · rw [if_pos w4]
        exact gl_wbegin hd hx I z St hR go
      rw [if_neg w4]
      by_cases w5 : xs.getD i 0 &&& 15 = 5
      · rw [if_pos w5]
        exact gl_wread hd hx I z St hR go
      rw [if_neg w5]
      by_cases w6 : xs.getD i 0 &&& 15 = 6
      · rw [if_pos w6]
        exact gl_wpass hd hx I z St hR go
      rw [if_neg w6]
      by_cases w7 : xs.getD i 0 &&& 15 = 7
      · rw [if_pos w7]
        exact gl_wobject hd hx I z St hR go
      rw [if_neg w7]
      by_cases w8 : xs.getD i 0 &&& 15 = 8
      · rw [if_pos w8]
        exact gl_wvalue hd hx I z St hR go
      rw [if_neg w8]
      by_cases w9 : xs.getD i 0 &&& 15 = 9
      · rw [if_pos w9]
        exact gl_wcount hd hx I z St hR go
      rw [if_neg w9]
      exact go H σ τ (St.less k σ τ hR) ⟨⟨I.1.1, I.1.2.1, by omega, by omega⟩, I.2⟩
theorem gl_cell {h : gm_H} {v : Int32} {k : Nat} (hv : v = nI k) (e : gm_rd h b = some (300, xs.map .int)) (hx : xs.length ≤ 100000) (hk : k < 4) : gm_Ca E d 1 [.ref b, .int v] h (gx_v (some (.int (xs.getD k 0))) h) := by
  subst hv
  obtain ⟨e1, e2, e3⟩ := gl_sc e
  have hx2 : xs.length < 2147483648 := by omega
  show gm_W E d 1 0 [.ref b, .int (nI k)] [] h _
  rcases Nat.lt_or_ge k xs.length with z | z
  · have q : ¬ nI xs.length ≤ nI k := by rw [Int32.not_le]; exact nI_lt z (by omega)
    simp only [r1_0, r1_1, r1_1n, r1_2, r1_3, r1_6, r1_6n, r1_7, r1_8, r1_9, r1_12, r1_13, i32_10, reduceIte, gm_cmp1, gm_cmp3, gm_cmp4, gm_kd_sf, gm_ln_sf, gm_sf_1, gm_sf_2, gm_nw_1, gm_nw_2, gm_k_int, gm_k_ref, gm_k_null, gm_k_u, gm_k_long, and_true, true_and, true_or, or_true, or_false, false_or, and_self, or_self, if_true, if_false, List.map_nil, List.map_cons, List.sum_nil, List.sum_cons, Nat.zero_le, Option.toList_some, Option.toList_none, List.cons_append, List.nil_append, ne_eq, not_false_eq_true, not_true_eq_false, nI_1, nI_add, Value.category, Nat.reduceAdd, Nat.reduceMod, Nat.reduceLeDiff, Nat.reduceLT, Nat.reduceEqDiff, Nat.reducePow, Nat.le_refl, Nat.add_left_cancel_iff, Nat.add_eq_left, Nat.left_eq_add, Nat.add_zero, e1, e2, e3 k z, q, z, hx2]
    exact ⟨rfl, rfl⟩
  · have q : nI xs.length ≤ nI k := by rw [← Int32.not_lt]; exact nI_nlt z (by omega)
    simp only [r1_0, r1_1, r1_1n, r1_2, r1_3, r1_6, r1_6n, r1_7, r1_8, r1_9, r1_12, r1_13, i32_10, reduceIte, gm_cmp1, gm_cmp3, gm_cmp4, gm_kd_sf, gm_ln_sf, gm_sf_1, gm_sf_2, gm_nw_1, gm_nw_2, gm_k_int, gm_k_ref, gm_k_null, gm_k_u, gm_k_long, and_true, true_and, true_or, or_true, or_false, false_or, and_self, or_self, if_true, if_false, List.map_nil, List.map_cons, List.sum_nil, List.sum_cons, Nat.zero_le, Option.toList_some, Option.toList_none, List.cons_append, List.nil_append, ne_eq, not_false_eq_true, not_true_eq_false, nI_1, nI_add, Value.category, Nat.reduceAdd, Nat.reduceMod, Nat.reduceLeDiff, Nat.reduceLT, Nat.reduceEqDiff, Nat.reducePow, Nat.le_refl, Nat.add_left_cancel_iff, Nat.add_eq_left, Nat.left_eq_add, Nat.add_zero, e1, e2, q]
    refine ⟨?_, rfl⟩
    rw [List.getD_eq_getElem?_getD, List.getElem?_eq_none z]
    rfl
theorem gl_G {h : gm_H} (I : gm_Ini E b xs h) : gx_G E h h.1 (fun _ => False) := by
  obtain ⟨-, ⟨z, z1, z2⟩, e1, st, e5, -, wf⟩ := I
  have ok : ∀ a c, gm_rd h a = some c → gx_ok h h.1 (fun _ => False) a := fun a c e => ⟨Or.inl (wf a c e).1, (wf a c e).1, fun y => y⟩
  have arr : ∀ (a k : Nat) (L : List Int32), gm_rd h a = some (k, L.map .int) → 6 ≤ k → gm_kd h a = k ∧ gm_ln h a = L.length ∧ ∀ j, j < L.length → gm_fv h a j = .int (L.getD j 0) := by
    intro a k L e hk
    refine ⟨?_, ?_, fun j hj => ?_⟩
    · unfold gm_kd; rw [e]; dsimp only; rw [if_neg (by omega)]
    · unfold gm_ln; rw [e]; simp
    · unfold gm_fv; rw [e]; simp [List.getD, hj]
  obtain ⟨y1, y2, y3⟩ := arr z 300 gm_prim z2 (by decide)
  refine ⟨⟨z, z1, ok _ _ z2, y1, y2, y3⟩, ⟨e5, e1⟩, fun i hi => ?_⟩
  obtain ⟨a, v, s1, s2, s3⟩ := st i hi
  obtain ⟨w1, w2, w3⟩ := arr v 302 _ s3 (by decide)
  have eq : gm_sbyt.getD i [] = gx_str i := by
    rcases (by omega : i = 0 ∨ i = 1 ∨ i = 2) with rfl | rfl | rfl <;> rfl
  rw [eq] at w2 w3
  refine ⟨a, v, s1, ok _ _ s2, ok _ _ s3, ?_, ?_, ?_, ?_, w1, w2, w3⟩
  · unfold gm_kd; rw [s2]; rfl
  · unfold gm_ln; rw [s2]; rfl
  · unfold gm_fv; rw [s2]; rfl
  · unfold gm_fv; rw [s2]; rfl
theorem gl_start {h0 : gm_H} {k : Nat} (hd : 400 ≤ d) (I : gm_Ini E b xs h0) (hx : xs.length ≤ 100000) (St : gl_St gl_c R) (hR : ∀ p q r t, R k (gs_K0 p q r t, (0, [], [], 0), 0) (gs_ref1 (gs_K0 p q r t), (0, [], [], 0), 0)) (hk : xs.length < 4 + 6 * (k + 1)) :
    gm_W E d 0 0 (gm_en [.ref b] 4) [] h0 (fun r h' => r = .inl (some (.int 1)) ∧ h'.1 ≤ h0.1 + 42 + 710 * k ∧ h'.2.1 ≤ h0.2.1 + 21425 + 5700 * k) := by
  obtain ⟨Q, hQ⟩ : ∃ Q : gm_R → gm_H → Prop, Q = (fun r h' => r = .inl (some (.int 1)) ∧ h'.1 ≤ h0.1 + 42 + 710 * k ∧ h'.2.1 ≤ h0.2.1 + 21425 + 5700 * k) := ⟨_, rfl⟩
  rw [← hQ]
  have wf : gm_Wf h0 := fun a c e => (I.2.2.2.2.2.2 a c e).1
  have kp0 : gm_Kp 1 h0 (gx_x0 h0) := gm_Kp.nw wf _ _
  have s0 := kp0.scr (by decide) I.1
  show gm_W E d 0 0 [.ref b, gm_u, gm_u, gm_u] [] h0 Q
  rw [r0_0]
  show gm_W E d 0 3 [.ref b, gm_u, gm_u, gm_u] [.ref h0.1] (gx_x0 h0) Q
  simp only [r0_3, r0_3i, r0_4, r0_4n, r0_5, i32_10, reduceIte, gm_cmp1, gm_cmp3, gm_cmp4, gm_kd_sf, gm_ln_sf, gm_sf_1, gm_sf_2, gm_nw_1, gm_nw_2, gm_k_int, gm_k_ref, gm_k_null, gm_k_u, gm_k_long, and_true, true_and, true_or, or_true, or_false, false_or, and_self, or_self, if_true, if_false, List.map_nil, List.map_cons, List.sum_nil, List.sum_cons, Nat.zero_le, Option.toList_some, Option.toList_none, List.cons_append, List.nil_append, ne_eq, not_false_eq_true, not_true_eq_false, nI_1, nI_add, Value.category, Nat.reduceAdd, Nat.reduceMod, Nat.reduceLeDiff, Nat.reduceLT, Nat.reduceEqDiff, Nat.reducePow, Nat.le_refl, Nat.add_left_cancel_iff, Nat.add_eq_left, Nat.left_eq_add, Nat.add_zero]
  refine c0_6 (by simp [Value.category]) (by simp [gm_en1]) (by omega) (gl_cell (k := 0) (by decide) s0 hx (by decide)) (gx_kn ?_) gx_kx
  simp only [r0_9, r0_9n, r0_10, i32_10, reduceIte, gm_cmp1, gm_cmp3, gm_cmp4, gm_kd_sf, gm_ln_sf, gm_sf_1, gm_sf_2, gm_nw_1, gm_nw_2, gm_k_int, gm_k_ref, gm_k_null, gm_k_u, gm_k_long, and_true, true_and, true_or, or_true, or_false, false_or, and_self, or_self, if_true, if_false, List.map_nil, List.map_cons, List.sum_nil, List.sum_cons, Nat.zero_le, Option.toList_some, Option.toList_none, List.cons_append, List.nil_append, ne_eq, not_false_eq_true, not_true_eq_false, nI_1, nI_add, Value.category, Nat.reduceAdd, Nat.reduceMod, Nat.reduceLeDiff, Nat.reduceLT, Nat.reduceEqDiff, Nat.reducePow, Nat.le_refl, Nat.add_left_cancel_iff, Nat.add_eq_left, Nat.left_eq_add, Nat.add_zero]
  refine c0_11 (by simp [Value.category]) (by simp [gm_en1]) (by omega) (gl_cell (k := 1) (by decide) s0 hx (by decide)) (gx_kn ?_) gx_kx
  simp only [r0_14, r0_14n, r0_15, i32_10, reduceIte, gm_cmp1, gm_cmp3, gm_cmp4, gm_kd_sf, gm_ln_sf, gm_sf_1, gm_sf_2, gm_nw_1, gm_nw_2, gm_k_int, gm_k_ref, gm_k_null, gm_k_u, gm_k_long, and_true, true_and, true_or, or_true, or_false, false_or, and_self, or_self, if_true, if_false, List.map_nil, List.map_cons, List.sum_nil, List.sum_cons, Nat.zero_le, Option.toList_some, Option.toList_none, List.cons_append, List.nil_append, ne_eq, not_false_eq_true, not_true_eq_false, nI_1, nI_add, Value.category, Nat.reduceAdd, Nat.reduceMod, Nat.reduceLeDiff, Nat.reduceLT, Nat.reduceEqDiff, Nat.reducePow, Nat.le_refl, Nat.add_left_cancel_iff, Nat.add_eq_left, Nat.left_eq_add, Nat.add_zero]
  refine c0_16 (by simp [Value.category]) (by simp [gm_en1]) (by omega) (gl_cell (k := 2) (by decide) s0 hx (by decide)) (gx_kn ?_) gx_kx
  simp only [r0_19, r0_19n, r0_20, i32_10, reduceIte, gm_cmp1, gm_cmp3, gm_cmp4, gm_kd_sf, gm_ln_sf, gm_sf_1, gm_sf_2, gm_nw_1, gm_nw_2, gm_k_int, gm_k_ref, gm_k_null, gm_k_u, gm_k_long, and_true, true_and, true_or, or_true, or_false, false_or, and_self, or_self, if_true, if_false, List.map_nil, List.map_cons, List.sum_nil, List.sum_cons, Nat.zero_le, Option.toList_some, Option.toList_none, List.cons_append, List.nil_append, ne_eq, not_false_eq_true, not_true_eq_false, nI_1, nI_add, Value.category, Nat.reduceAdd, Nat.reduceMod, Nat.reduceLeDiff, Nat.reduceLT, Nat.reduceEqDiff, Nat.reducePow, Nat.le_refl, Nat.add_left_cancel_iff, Nat.add_eq_left, Nat.left_eq_add, Nat.add_zero]
  refine c0_21 (by simp [Value.category]) (by simp [gm_en1]) (by omega) (gl_cell (k := 3) (by decide) s0 hx (by decide)) (gx_kn ?_) gx_kx
  simp only [i32_10, reduceIte, gm_cmp1, gm_cmp3, gm_cmp4, gm_kd_sf, gm_ln_sf, gm_sf_1, gm_sf_2, gm_nw_1, gm_nw_2, gm_k_int, gm_k_ref, gm_k_null, gm_k_u, gm_k_long, and_true, true_and, true_or, or_true, or_false, false_or, and_self, or_self, if_true, if_false, List.map_nil, List.map_cons, List.sum_nil, List.sum_cons, Nat.zero_le, Option.toList_some, Option.toList_none, List.cons_append, List.nil_append, ne_eq, not_false_eq_true, not_true_eq_false, nI_1, nI_add, Value.category, Nat.reduceAdd, Nat.reduceMod, Nat.reduceLeDiff, Nat.reduceLT, Nat.reduceEqDiff, Nat.reducePow, Nat.le_refl, Nat.add_left_cancel_iff, Nat.add_eq_left, Nat.left_eq_add, Nat.add_zero]
  refine c0_24 (by simp [Value.category]) (by omega) (gm_Ca.keep m51 (by decide) (show gm_cno _ = 1 from by decide) (by decide) kp0.2.1 (x_new (ca := fun _ => 0) (h := h0) (by omega) (gl_G I))) (fun v9 h1 q => ?_) (fun a h1 q => ?_)
  rotate_left
  · cases q.1.1
  obtain ⟨⟨q1, q2, q3, q4, q5⟩, k1⟩ := q
  cases q1
  have s1 := k1.scr (by decide) s0
  have kp1 : gm_Kp 2 h1 (gr_x0 h1) := gm_Kp.nw k1.2.1 _ _
  have s2 := kp1.scr (by decide) s1
  simp only [r0_27, r0_27n, i32_10, reduceIte, gm_cmp1, gm_cmp3, gm_cmp4, gm_kd_sf, gm_ln_sf, gm_sf_1, gm_sf_2, gm_nw_1, gm_nw_2, gm_k_int, gm_k_ref, gm_k_null, gm_k_u, gm_k_long, and_true, true_and, true_or, or_true, or_false, false_or, and_self, or_self, if_true, if_false, List.map_nil, List.map_cons, List.sum_nil, List.sum_cons, Nat.zero_le, Option.toList_some, Option.toList_none, List.cons_append, List.nil_append, ne_eq, not_false_eq_true, not_true_eq_false, nI_1, nI_add, Value.category, Nat.reduceAdd, Nat.reduceMod, Nat.reduceLeDiff, Nat.reduceLT, Nat.reduceEqDiff, Nat.reducePow, Nat.le_refl, Nat.add_left_cancel_iff, Nat.add_eq_left, Nat.left_eq_add, Nat.add_zero]
  rw [r0_28]
  show gm_W E d 0 31 [.ref b, .ref h0.1, gm_u, gm_u] [.ref h1.1] (gr_x0 h1) Q
  simp only [r0_31, r0_31i, r0_32, r0_32n, r0_33, i32_10, reduceIte, gm_cmp1, gm_cmp3, gm_cmp4, gm_kd_sf, gm_ln_sf, gm_sf_1, gm_sf_2, gm_nw_1, gm_nw_2, gm_k_int, gm_k_ref, gm_k_null, gm_k_u, gm_k_long, and_true, true_and, true_or, or_true, or_false, false_or, and_self, or_self, if_true, if_false, List.map_nil, List.map_cons, List.sum_nil, List.sum_cons, Nat.zero_le, Option.toList_some, Option.toList_none, List.cons_append, List.nil_append, ne_eq, not_false_eq_true, not_true_eq_false, nI_1, nI_add, Value.category, Nat.reduceAdd, Nat.reduceMod, Nat.reduceLeDiff, Nat.reduceLT, Nat.reduceEqDiff, Nat.reducePow, Nat.le_refl, Nat.add_left_cancel_iff, Nat.add_eq_left, Nat.left_eq_add, Nat.add_zero]
  refine c0_34 (by simp [Value.category]) (by simp [gm_en1]) (by omega) (gl_cell (k := 0) (by decide) s2 hx (by decide)) (gx_kn ?_) gx_kx
  simp only [r0_37, r0_37n, r0_38, i32_10, reduceIte, gm_cmp1, gm_cmp3, gm_cmp4, gm_kd_sf, gm_ln_sf, gm_sf_1, gm_sf_2, gm_nw_1, gm_nw_2, gm_k_int, gm_k_ref, gm_k_null, gm_k_u, gm_k_long, and_true, true_and, true_or, or_true, or_false, false_or, and_self, or_self, if_true, if_false, List.map_nil, List.map_cons, List.sum_nil, List.sum_cons, Nat.zero_le, Option.toList_some, Option.toList_none, List.cons_append, List.nil_append, ne_eq, not_false_eq_true, not_true_eq_false, nI_1, nI_add, Value.category, Nat.reduceAdd, Nat.reduceMod, Nat.reduceLeDiff, Nat.reduceLT, Nat.reduceEqDiff, Nat.reducePow, Nat.le_refl, Nat.add_left_cancel_iff, Nat.add_eq_left, Nat.left_eq_add, Nat.add_zero]
  refine c0_39 (by simp [Value.category]) (by simp [gm_en1]) (by omega) (gl_cell (k := 1) (by decide) s2 hx (by decide)) (gx_kn ?_) gx_kx
  simp only [r0_42, r0_42n, r0_43, i32_10, reduceIte, gm_cmp1, gm_cmp3, gm_cmp4, gm_kd_sf, gm_ln_sf, gm_sf_1, gm_sf_2, gm_nw_1, gm_nw_2, gm_k_int, gm_k_ref, gm_k_null, gm_k_u, gm_k_long, and_true, true_and, true_or, or_true, or_false, false_or, and_self, or_self, if_true, if_false, List.map_nil, List.map_cons, List.sum_nil, List.sum_cons, Nat.zero_le, Option.toList_some, Option.toList_none, List.cons_append, List.nil_append, ne_eq, not_false_eq_true, not_true_eq_false, nI_1, nI_add, Value.category, Nat.reduceAdd, Nat.reduceMod, Nat.reduceLeDiff, Nat.reduceLT, Nat.reduceEqDiff, Nat.reducePow, Nat.le_refl, Nat.add_left_cancel_iff, Nat.add_eq_left, Nat.left_eq_add, Nat.add_zero]
  refine c0_44 (by simp [Value.category]) (by simp [gm_en1]) (by omega) (gl_cell (k := 2) (by decide) s2 hx (by decide)) (gx_kn ?_) gx_kx
  simp only [r0_47, r0_47n, r0_48, i32_10, reduceIte, gm_cmp1, gm_cmp3, gm_cmp4, gm_kd_sf, gm_ln_sf, gm_sf_1, gm_sf_2, gm_nw_1, gm_nw_2, gm_k_int, gm_k_ref, gm_k_null, gm_k_u, gm_k_long, and_true, true_and, true_or, or_true, or_false, false_or, and_self, or_self, if_true, if_false, List.map_nil, List.map_cons, List.sum_nil, List.sum_cons, Nat.zero_le, Option.toList_some, Option.toList_none, List.cons_append, List.nil_append, ne_eq, not_false_eq_true, not_true_eq_false, nI_1, nI_add, Value.category, Nat.reduceAdd, Nat.reduceMod, Nat.reduceLeDiff, Nat.reduceLT, Nat.reduceEqDiff, Nat.reducePow, Nat.le_refl, Nat.add_left_cancel_iff, Nat.add_eq_left, Nat.left_eq_add, Nat.add_zero]
  refine c0_49 (by simp [Value.category]) (by simp [gm_en1]) (by omega) (gl_cell (k := 3) (by decide) s2 hx (by decide)) (gx_kn ?_) gx_kx
  simp only [i32_10, reduceIte, gm_cmp1, gm_cmp3, gm_cmp4, gm_kd_sf, gm_ln_sf, gm_sf_1, gm_sf_2, gm_nw_1, gm_nw_2, gm_k_int, gm_k_ref, gm_k_null, gm_k_u, gm_k_long, and_true, true_and, true_or, or_true, or_false, false_or, and_self, or_self, if_true, if_false, List.map_nil, List.map_cons, List.sum_nil, List.sum_cons, Nat.zero_le, Option.toList_some, Option.toList_none, List.cons_append, List.nil_append, ne_eq, not_false_eq_true, not_true_eq_false, nI_1, nI_add, Value.category, Nat.reduceAdd, Nat.reduceMod, Nat.reduceLeDiff, Nat.reduceLT, Nat.reduceEqDiff, Nat.reducePow, Nat.le_refl, Nat.add_left_cancel_iff, Nat.add_eq_left, Nat.left_eq_add, Nat.add_zero]
  refine c0_52 (by simp [Value.category]) (by omega) (gm_Ca.keep m2 (by decide) (show gm_cno _ = 2 from by decide) (by decide) kp1.2.1 (m_new (h := h1) (by omega))) (fun v9 h2 q => ?_) (fun a h2 q => ?_)
  rotate_left
  · cases q.1.1
  obtain ⟨⟨p1, hF, p2, p3, p4, rfl⟩, k2⟩ := q
  cases p1
  have kk := kp1.trans k2
  have s3 := k2.scr (by decide) s2
  have J : gl_I E b xs h0.1 h1.1 (h0.1 + 42) (h0.2.1 + 21425) (gs_K0 (xs.getD 0 0) (xs.getD 1 0) (xs.getD 2 0) (xs.getD 3 0), (0, [], [], 0), 0) (gs_ref1 (gs_K0 (xs.getD 0 0) (xs.getD 1 0) (xs.getD 2 0) (xs.getD 3 0)), (0, [], [], 0), 0) (gr_H hF h1.1 (gr_t0 (xs.getD 0 0) (xs.getD 1 0) (xs.getD 2 0) (xs.getD 3 0))) := by
    refine ⟨⟨k2.2.1, s3, ?_, ?_⟩, ⟨_, q2.kp kk⟩, _, gr_at.self, gr_X.new⟩
    · show hF.1 ≤ _; omega
    · show hF.2.1 ≤ _; omega
  have i4 : (4 : Int32) = nI 4 := by decide
  simp only [r0_55, r0_55n, r0_56, r0_57, i32_10, reduceIte, gm_cmp1, gm_cmp3, gm_cmp4, gm_kd_sf, gm_ln_sf, gm_sf_1, gm_sf_2, gm_nw_1, gm_nw_2, gm_k_int, gm_k_ref, gm_k_null, gm_k_u, gm_k_long, and_true, true_and, true_or, or_true, or_false, false_or, and_self, or_self, if_true, if_false, List.map_nil, List.map_cons, List.sum_nil, List.sum_cons, Nat.zero_le, Option.toList_some, Option.toList_none, List.cons_append, List.nil_append, ne_eq, not_false_eq_true, not_true_eq_false, nI_1, nI_add, Value.category, Nat.reduceAdd, Nat.reduceMod, Nat.reduceLeDiff, Nat.reduceLT, Nat.reduceEqDiff, Nat.reducePow, Nat.le_refl, Nat.add_left_cancel_iff, Nat.add_eq_left, Nat.left_eq_add, Nat.add_zero]
  rcases Nat.lt_or_ge xs.length 6 with z | z
  · obtain ⟨e1, e2, -⟩ := gl_sc s3
    have q : nI xs.length - 6 < 4 := by
      have : ∀ n, n < 6 → nI n - 6 < 4 := by decide
      exact this _ z
    simp only [r0_58, r0_59, r0_59n, r0_60, r0_61, r0_63, r0_64, r0_510, r0_511, i32_10, reduceIte, gm_cmp1, gm_cmp3, gm_cmp4, gm_kd_sf, gm_ln_sf, gm_sf_1, gm_sf_2, gm_nw_1, gm_nw_2, gm_k_int, gm_k_ref, gm_k_null, gm_k_u, gm_k_long, and_true, true_and, true_or, or_true, or_false, false_or, and_self, or_self, if_true, if_false, List.map_nil, List.map_cons, List.sum_nil, List.sum_cons, Nat.zero_le, Option.toList_some, Option.toList_none, List.cons_append, List.nil_append, ne_eq, not_false_eq_true, not_true_eq_false, nI_1, nI_add, Value.category, Nat.reduceAdd, Nat.reduceMod, Nat.reduceLeDiff, Nat.reduceLT, Nat.reduceEqDiff, Nat.reducePow, Nat.le_refl, Nat.add_left_cancel_iff, Nat.add_eq_left, Nat.left_eq_add, Nat.add_zero, e1, e2, q]
    rw [hQ]
    exact ⟨rfl, by have := J.1.2.2.1; omega, by have := J.1.2.2.2; omega⟩
  · rw [hQ, i4]
    exact gl_loop hd hx St k 4 (h0.1 + 42) (h0.2.1 + 21425) _ _ _ J (hR _ _ _ _) (by omega) (by omega) z
end LC
