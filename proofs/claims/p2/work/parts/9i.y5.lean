/-! THE CLASS, 14: descriptors that are there; arrays; constants. -/
section Y5
variable {E : Nat → Value} {d x d0 dp : Nat} {h : gm_H} {ca : Nat → Nat} {K : gs_K} {F G : Nat → Prop} {s : gs_S} {rc : gs_M Int32}
theorem x_readDescriptor (C : gx_RC E x ca K d0 (dp + 1) rc) (hK : gs_rst K = false) (hdp : dp < 1000) : ∀ f, f ≤ 8 → gx_DC E x ca K (d0 + 6 + f) dp (9 - f) (gs_desc K rc f)
  | 0, _ => by
    intro d h s F G hd R hF
    exact x_readDescriptor1 (up := none) C hK hdp (by decide) (by show 8 < 9; decide) (by omega) (by omega) R hF
  | f + 1, hf => by
    intro d h s F G hd R hF
    refine x_readDescriptor1 (up := some (gs_desc K rc f)) C hK hdp (by omega) ⟨by omega, ?_⟩ (by omega) (by omega) R hF
    have e : 9 - (f + 1) + 1 = 9 - f := by omega
    rw [e]
    intro d' h' s' F' G' hd' R' hF''
    exact x_readDescriptor C hK hdp f (by omega) d' h' s' F' G' (by omega) R' hF''
def gs_pres (K : gs_K) (rc : gs_M Int32) : gs_M (gs_L × List gs_L) := gs_have (gs_desc K rc 8) (fun l L => gs_r (l, L))
theorem gs_have_ok {α : Type} {f : gs_L → List gs_L → gs_M α} {l : gs_L} {L : List gs_L} {s1 : gs_S} (e : gs_pres K rc s = .ok ((l, L), s1)) : gs_have (gs_desc K rc 8) f s = f l L s1 := by
  unfold gs_pres gs_have gs_b at e
  unfold gs_have gs_b
  cases q : gs_desc K rc 8 s with
  | error c => rw [q] at e; cases e
  | ok p =>
    obtain ⟨L0, s0⟩ := p
    rw [q] at e
    cases L0 with
    | nil => cases e
    | cons l0 L0 => cases e; rfl
theorem gs_have_er {α : Type} {f : gs_L → List gs_L → gs_M α} {c : Int32} (e : gs_pres K rc s = .error c) : gs_have (gs_desc K rc 8) f s = .error c := by
  unfold gs_pres gs_have gs_b at e
  unfold gs_have gs_b
  cases q : gs_desc K rc 8 s with
  | error c => rw [q] at e; cases e; rfl
  | ok p =>
    obtain ⟨L0, s0⟩ := p
    rw [q] at e
    cases L0 with
    | nil => cases e; rfl
    | cons l0 L0 => cases e
theorem x_readPresent (C : gx_RC E x ca K d0 (dp + 1) rc) (hK : gs_rst K = false) (hdp : dp < 1000) (hd : d0 + 15 ≤ d) (R : gx_R E h x ca K F s) (hF : ∀ a, F a → a < h.1) : gm_Ca E d 96 [.ref x, .int (nI dp)] h (gx_P E h x ca K F G s (fun q h' v => (∃ a, v = some (.ref a) ∧ gx_ds h' x ca K F (q.1 :: q.2) (.ref a)) ∧ ∀ s', gs_pres K rc s = .ok (q, s') → (h'.1 + 3 + gs_pl s ≤ h.1 + gs_pl s' ∧ h'.2.1 + 29 + 8 * gs_pl s ≤ h.2.1 + 8 * gs_pl s') ∧ q.2.length + 1 ≤ gs_dn s') (gs_pres K rc s)) := by
  show gm_W E d 96 0 [.ref x, .int (nI dp), gm_u] [] h _
  simp only [r96_0, r96_0n, r96_1, r96_2, r96_6, r96_6n, r96_7, r96_7n, r96_8n, r96_8, r96_11, r96_11n, r96_12, r96_17, r96_17a, r96_17n, r96_18, r96_18n, r96_19, r96_19n, i32_10, reduceIte, gm_cmp1, gm_cmp3, gm_cmp4, gm_kd_sf, gm_ln_sf, gm_sf_1, gm_sf_2, gm_nw_1, gm_nw_2, gm_k_int, gm_k_ref, gm_k_null, gm_k_u, gm_k_long, and_true, true_and, true_or, or_true, or_false, false_or, and_self, or_self, if_true, if_false, List.map_nil, List.map_cons, List.sum_nil, List.sum_cons, Nat.zero_le, Option.toList_some, Option.toList_none, List.cons_append, List.nil_append, ne_eq, not_false_eq_true, not_true_eq_false, nI_1, nI_add, Value.category, Nat.reduceAdd, Nat.reduceMod, Nat.reduceLeDiff, Nat.reduceLT, Nat.reduceEqDiff, Nat.reducePow, Nat.le_refl, Nat.add_left_cancel_iff, Nat.add_eq_left, Nat.left_eq_add, Nat.add_zero]
  refine c96_3 (by simp) R.1.1 (by omega) (x_readDescriptor C hK hdp 8 (by decide) (d - 1) h s F G (by omega) R hF) (fun v h1 q => ?_) (fun _ _ q => q.er (fun f e => by unfold gs_pres gs_have; exact gs_b_er e) ⟨gx_mv.refl, gx_le.refl, gx_co.refl⟩ (fun _ z => Or.inr z))
  obtain ⟨L, s1, e, ⟨⟨w, rfl, ds⟩, sur⟩, R1, mv, le, co⟩ := q
  cases L with
  | nil =>
    have ds : w = .null := ds
    subst ds
    simp only [r96_0, r96_0n, r96_1, r96_2, r96_6, r96_6n, r96_7, r96_7n, r96_8n, r96_8, r96_11, r96_11n, r96_12, r96_17, r96_17a, r96_17n, r96_18, r96_18n, r96_19, r96_19n, i32_10, reduceIte, gm_cmp1, gm_cmp3, gm_cmp4, gm_kd_sf, gm_ln_sf, gm_sf_1, gm_sf_2, gm_nw_1, gm_nw_2, gm_k_int, gm_k_ref, gm_k_null, gm_k_u, gm_k_long, and_true, true_and, true_or, or_true, or_false, false_or, and_self, or_self, if_true, if_false, List.map_nil, List.map_cons, List.sum_nil, List.sum_cons, Nat.zero_le, Option.toList_some, Option.toList_none, List.cons_append, List.nil_append, ne_eq, not_false_eq_true, not_true_eq_false, nI_1, nI_add, Value.category, Nat.reduceAdd, Nat.reduceMod, Nat.reduceLeDiff, Nat.reduceLT, Nat.reduceEqDiff, Nat.reducePow, Nat.le_refl, Nat.add_left_cancel_iff, Nat.add_eq_left, Nat.left_eq_add, Nat.add_zero]
    refine c96_14 (by simp) R1.1.1 (by omega) (x_fail (G := G) (α := Unit) (val := fun _ _ _ => True) R1) gx_fn (fun _ _ q => q.er (fun f e2 => ?_) ⟨mv, le, co⟩ (fun _ z => Or.inr z))
    cases e2
    unfold gs_pres gs_have
    rw [gs_b_ok e]
    rfl
  | cons l L =>
    have ds' := ds
    obtain ⟨a, _, _, rfl, _⟩ := ds'
    simp only [r96_0, r96_0n, r96_1, r96_2, r96_6, r96_6n, r96_7, r96_7n, r96_8n, r96_8, r96_11, r96_11n, r96_12, r96_17, r96_17a, r96_17n, r96_18, r96_18n, r96_19, r96_19n, i32_10, reduceIte, gm_cmp1, gm_cmp3, gm_cmp4, gm_kd_sf, gm_ln_sf, gm_sf_1, gm_sf_2, gm_nw_1, gm_nw_2, gm_k_int, gm_k_ref, gm_k_null, gm_k_u, gm_k_long, and_true, true_and, true_or, or_true, or_false, false_or, and_self, or_self, if_true, if_false, List.map_nil, List.map_cons, List.sum_nil, List.sum_cons, Nat.zero_le, Option.toList_some, Option.toList_none, List.cons_append, List.nil_append, ne_eq, not_false_eq_true, not_true_eq_false, nI_1, nI_add, Value.category, Nat.reduceAdd, Nat.reduceMod, Nat.reduceLeDiff, Nat.reduceLT, Nat.reduceEqDiff, Nat.reducePow, Nat.le_refl, Nat.add_left_cancel_iff, Nat.add_eq_left, Nat.left_eq_add, Nat.add_zero]
    have ep : gs_pres K rc s = .ok ((l, L), s1) := by
      unfold gs_pres gs_have
      rw [gs_b_ok e]
      rfl
    refine ⟨(l, L), s1, ep, ⟨⟨a, rfl, ds⟩, fun s' es => ?_⟩, R1, mv, le, co⟩
    rw [ep] at es
    cases es
    exact ⟨(sur s1 e).1 (by simp), (sur s1 e).2⟩
/-- objects of the heap lie below -/
theorem gx_R.below (R : gx_R E h x ca K F s) : ∀ i u, i < (gs_hp s).length → gm_fv h (x + 3) i = .ref u → u + 1 < h.1 := by
  intro i u hi hu
  obtain ⟨ta, T⟩ := R.2.2.2.2.1
  obtain ⟨b1, b2, -⟩ := T.2 i _ (List.getElem?_eq_getElem hi)
  rw [b1] at hu
  cases hu
  exact b2.2.2.1
/-- the object of a number -/
theorem gx_R.thing {i : Nat} {o : gs_O} (R : gx_R E h x ca K F s) (hi : (gs_hp s)[i]? = some o) : ∃ t, gm_fv h (x + 3) i = .ref t ∧ gx_ok h x F t ∧ gx_ok h x F (t + 1) ∧ gx_th h ca o t := by
  obtain ⟨ta, T⟩ := R.2.2.2.2.1
  obtain ⟨b1, b2, b3⟩ := T.2 i _ hi
  exact ⟨ta i, b1, b2.1, b2.2, b3⟩
/-- a value set in the object at t -/
theorem gx_R.setv {i t j : Nat} {o : gs_O} {v : Int64} (R : gx_R E h x ca K F s) (hi : (gs_hp s)[i]? = some o) (ht : gm_fv h (x + 3) i = .ref t) (hj : j < o.2.2.1.length) : gx_R E (gm_sf h (t + 1) j (.long v)) x ca K F (s.1, (gs_hp s).modify i (fun ob => (ob.1, ob.2.1, ob.2.2.1.set j v, ob.2.2.2)), s.2.2) := by
  refine R.modT ht hi ⟨gm_sf_1, fun a _ h2 => gm_rd_sfn h2⟩ (fun q => ?_) rfl
  obtain ⟨q1, q2, q3, q4, q5, q6, q7, q8, q9, q10⟩ := q
  have n1 : t ≠ t + 1 := by omega
  refine ⟨by rw [gm_kd_sf]; exact q1, by rw [gm_fv_sfa n1]; exact q2, by rw [gm_fv_sfa n1]; exact q3, by rw [gm_fv_sfa n1]; exact q4, by rw [gm_fv_sfa n1]; exact q5, by rw [gm_fv_sfa n1]; exact q6, by rw [gm_kd_sf]; exact q7, by rw [gm_ln_sf]; simpa using q8, by simpa using q9, fun i v' hv => ?_⟩
  by_cases e : i = j
  · subst e
    simp [hj] at hv
    subst hv
    exact gm_fv_sf (by rw [q8]; exact hj)
  · rw [gm_fv_sfj e]
    refine q10 i v' ?_
    rw [← hv]
    simp [Ne.symm e]
end Y5
