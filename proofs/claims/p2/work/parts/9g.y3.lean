/-! THE CLASS, 12: a descriptor's fields. -/
/-- the fields laid into the descriptor at a, names at u, types at w -/
def gx_lp (h h' : gm_H) (a u w n : Nat) (fs : List (Int32 × Int32)) : Prop := gm_kd h' a = 1 ∧ (∀ k, k ≠ 4 → k ≠ 5 → k ≠ 6 → gm_fv h' a k = gm_fv h a k) ∧ gm_fv h' a 4 = .int (nI n) ∧ gm_fv h' a 5 = .ref u ∧ gm_fv h' a 6 = .ref w ∧ gm_kd h' u = 100 ∧ gm_ln h' u = n ∧ gm_kd h' w = 100 ∧ gm_ln h' w = n
  ∧ ∀ (j : Nat) (q : Int32 × Int32), fs[j]? = some q → gm_fv h' u j = .int q.1 ∧ gm_fv h' w j = .int q.2 ∧ 0 ≤ q.2 ∧ q.2 < 8
section Y3
variable {E : Nat → Value} {d x d0 dp : Nat} {h : gm_H} {ca : Nat → Nat} {K : gs_K} {F G : Nat → Prop} {s : gs_S} {rc : gs_M Int32}
theorem gx_lp.tr {h1 h2 : gm_H} {a u w n : Nat} {fs : List (Int32 × Int32)} (p : gx_lp h h1 a u w n fs) (ea : gm_rd h2 a = gm_rd h1 a) (eu : gm_rd h2 u = gm_rd h1 u) (ew : gm_rd h2 w = gm_rd h1 w) : gx_lp h h2 a u w n fs := by
  unfold gx_lp at p ⊢
  simp only [gv_kd ea, gv_fv ea, gv_kd eu, gv_ln eu, gv_fv eu, gv_kd ew, gv_ln ew, gv_fv ew]
  exact p
theorem x_readStreamFields {a : Nat} {fl : Int32} (C : gx_RC E x ca K d0 (dp + 1) rc) (hd : d0 + 1 ≤ d) (hd5 : 5 ≤ d) (R : gx_R E h x ca K F s) (hF : ∀ b, F b → b < h.1) (ka : gm_kd h a = 1) (f3 : gm_fv h a 3 = .int fl) (hFa : F a) (hx : x + 6 < a) (hG : G a) :
    gm_Ca E d 99 [.ref x, .ref a, .int (nI dp)] h (gx_P E h x ca K F G s (fun fs h' v => v = none ∧ fs.length ≤ 8 ∧ ∃ u w, (h.1 ≤ u ∧ u < h'.1 ∧ h.1 ≤ w ∧ w < h'.1) ∧ gx_lp h h' a u w fs.length fs) (gs_strm K rc fl s)) := by
  have hah := hF a hFa
  show gm_W E d 99 0 [.ref x, .ref a, .int (nI dp), gm_u, gm_u, gm_u, gm_u] [] h _
  simp only [r99_0, r99_0n, r99_1, r99_5, r99_6, r99_7, r99_8, r99_10, r99_13, r99_13n, r99_14, r99_19, r99_19a, r99_19n, r99_20, r99_20n, r99_21, r99_25, r99_26, r99_28, r99_30, r99_31, r99_34, r99_37, r99_37n, r99_41, r99_45, r99_47, r99_49, r99_52, r99_52n, r99_53, r99_58, r99_58a, r99_58n, r99_59, r99_59n, r99_63, r99_65, r99_65n, r99_66, r99_69, r99_71, r99_73, r99_74, r99_74n, r99_75, r99_78, r99_80, r99_80n, r99_81, r99_83, r99_83n, r99_84, r99_87, r99_89, r99_90, r99_92, r99_97, r99_98, r99_100, r99_102, r99_105, r99_105n, r99_106, r99_106n, r99_107, r99_108, r99_109, r99_116, r99_119, r99_119n, r99_120, r99_125, r99_125a, r99_125n, r99_126, r99_129, r99_132, r99_132n, r99_136, r99_139, r99_140, r99_143, r99_143n, r99_144, r99_149, r99_149a, r99_149n, r99_150, i32_10, reduceIte, gm_cmp1, gm_cmp3, gm_cmp4, gm_kd_sf, gm_ln_sf, gm_sf_1, gm_sf_2, gm_nw_1, gm_nw_2, gm_k_int, gm_k_ref, gm_k_null, gm_k_u, gm_k_long, and_true, true_and, true_or, or_true, or_false, false_or, and_self, or_self, if_true, if_false, List.map_nil, List.map_cons, List.sum_nil, List.sum_cons, Nat.zero_le, Option.toList_some, Option.toList_none, List.cons_append, List.nil_append, ne_eq, not_false_eq_true, not_true_eq_false, nI_1, nI_add, Value.category, Nat.reduceAdd, Nat.reduceMod, Nat.reduceLeDiff, Nat.reduceLT, Nat.reduceEqDiff, Nat.reducePow, Nat.le_refl, Nat.add_left_cancel_iff, Nat.add_eq_left, Nat.left_eq_add, Nat.add_zero]
  refine c99_2 (by simp) R.1.1 (by omega) (x_nextNumber (G := fun _ => False) (z := 2) (by omega) R (by decide)) (fun v h1 q => ?_) (fun _ _ q => (q.wk (fun _ z => z.elim)).ber)
  obtain ⟨c, s1, e, ⟨rfl, na⟩, R1, mv, le, co⟩ := q
  obtain ⟨ec, es1⟩ := gs_nxt_eq e
  obtain ⟨n, hn, en⟩ := gs_num2 (K := K) (a := gs_pl s)
  rw [← ec] at en
  unfold gs_strm
  rw [gs_b_ok e, en, nI_clamp (show n < 2 ^ 31 by omega)]
  have mv1 : gx_mv h h1 x G s := mv.wk (fun _ z => z.elim)
  have st1 : gx_st h s x G h1 s1 := ⟨mv1, le, co⟩
  have era : gm_rd h1 a = gm_rd h a := mv.1.2 a ⟨Or.inr hx, hah, fun z => z⟩
  have k1 : gm_kd h1 a = 1 := (gv_kd era).trans ka
  by_cases h8 : 8 < n
  · have e8 : (8 : Int32) < nI n := nI_lt (a := 8) h8 (by omega)
    have e8' : ¬ nI n ≤ 8 := nI_ge (a := 8) h8 (by omega)
    rw [if_pos e8]
    simp only [r99_0, r99_0n, r99_1, r99_5, r99_6, r99_7, r99_8, r99_10, r99_13, r99_13n, r99_14, r99_19, r99_19a, r99_19n, r99_20, r99_20n, r99_21, r99_25, r99_26, r99_28, r99_30, r99_31, r99_34, r99_37, r99_37n, r99_41, r99_45, r99_47, r99_49, r99_52, r99_52n, r99_53, r99_58, r99_58a, r99_58n, r99_59, r99_59n, r99_63, r99_65, r99_65n, r99_66, r99_69, r99_71, r99_73, r99_74, r99_74n, r99_75, r99_78, r99_80, r99_80n, r99_81, r99_83, r99_83n, r99_84, r99_87, r99_89, r99_90, r99_92, r99_97, r99_98, r99_100, r99_102, r99_105, r99_105n, r99_106, r99_106n, r99_107, r99_108, r99_109, r99_116, r99_119, r99_119n, r99_120, r99_125, r99_125a, r99_125n, r99_126, r99_129, r99_132, r99_132n, r99_136, r99_139, r99_140, r99_143, r99_143n, r99_144, r99_149, r99_149a, r99_149n, r99_150, i32_10, reduceIte, gm_cmp1, gm_cmp3, gm_cmp4, gm_kd_sf, gm_ln_sf, gm_sf_1, gm_sf_2, gm_nw_1, gm_nw_2, gm_k_int, gm_k_ref, gm_k_null, gm_k_u, gm_k_long, and_true, true_and, true_or, or_true, or_false, false_or, and_self, or_self, if_true, if_false, List.map_nil, List.map_cons, List.sum_nil, List.sum_cons, Nat.zero_le, Option.toList_some, Option.toList_none, List.cons_append, List.nil_append, ne_eq, not_false_eq_true, not_true_eq_false, nI_1, nI_add, Value.category, Nat.reduceAdd, Nat.reduceMod, Nat.reduceLeDiff, Nat.reduceLT, Nat.reduceEqDiff, Nat.reducePow, Nat.le_refl, Nat.add_left_cancel_iff, Nat.add_eq_left, Nat.left_eq_add, Nat.add_zero, en, e8']
    exact c99_16 (by simp) R1.1.1 (by omega) (x_fail R1) gx_fn (fun _ _ q => q.frm st1)
  have e8 : ¬ (8 : Int32) < nI n := nI_nlt (b := n) (a := 8) (by omega) (by decide)
  have e8' : nI n ≤ 8 := nI_le (b := 8) (by omega) (by decide)
  rw [if_neg e8]
  simp only [r99_0, r99_0n, r99_1, r99_5, r99_6, r99_7, r99_8, r99_10, r99_13, r99_13n, r99_14, r99_19, r99_19a, r99_19n, r99_20, r99_20n, r99_21, r99_25, r99_26, r99_28, r99_30, r99_31, r99_34, r99_37, r99_37n, r99_41, r99_45, r99_47, r99_49, r99_52, r99_52n, r99_53, r99_58, r99_58a, r99_58n, r99_59, r99_59n, r99_63, r99_65, r99_65n, r99_66, r99_69, r99_71, r99_73, r99_74, r99_74n, r99_75, r99_78, r99_80, r99_80n, r99_81, r99_83, r99_83n, r99_84, r99_87, r99_89, r99_90, r99_92, r99_97, r99_98, r99_100, r99_102, r99_105, r99_105n, r99_106, r99_106n, r99_107, r99_108, r99_109, r99_116, r99_119, r99_119n, r99_120, r99_125, r99_125a, r99_125n, r99_126, r99_129, r99_132, r99_132n, r99_136, r99_139, r99_140, r99_143, r99_143n, r99_144, r99_149, r99_149a, r99_149n, r99_150, i32_10, reduceIte, gm_cmp1, gm_cmp3, gm_cmp4, gm_kd_sf, gm_ln_sf, gm_sf_1, gm_sf_2, gm_nw_1, gm_nw_2, gm_k_int, gm_k_ref, gm_k_null, gm_k_u, gm_k_long, and_true, true_and, true_or, or_true, or_false, false_or, and_self, or_self, if_true, if_false, List.map_nil, List.map_cons, List.sum_nil, List.sum_cons, Nat.zero_le, Option.toList_some, Option.toList_none, List.cons_append, List.nil_append, ne_eq, not_false_eq_true, not_true_eq_false, nI_1, nI_add, Value.category, Nat.reduceAdd, Nat.reduceMod, Nat.reduceLeDiff, Nat.reduceLT, Nat.reduceEqDiff, Nat.reducePow, Nat.le_refl, Nat.add_left_cancel_iff, Nat.add_eq_left, Nat.left_eq_add, Nat.add_zero, en, e8']
  refine c99_22 (by simp) k1 (by omega) (x_makeFields k1 (by have := mv.1.1; omega) (by omega)) (gx_kn ?_) gx_kx
  have ht1 := R1.top
  have hah1 : a < h1.1 := by have := mv.1.1; omega
  generalize e2 : gm_sf (gm_nw (gm_sf (gm_nw (gm_sf h1 a 4 (.int (nI n))) (100, List.replicate n (.int 0)) n) a 5 (.ref h1.1)) (100, List.replicate n (.int 0)) n) a 6 (.ref (h1.1 + 1)) = h2
  have c2 : h2.1 = h1.1 + 2 ∧ h2.2.1 = h1.2.1 + n + n := by rw [← e2]; simp only [gm_sf_1, gm_sf_2, gm_nw_1, gm_nw_2, and_self]
  have r2 : ∀ b, b < h1.1 → b ≠ a → gm_rd h2 b = gm_rd h1 b := by
    intro b hb hba
    rw [← e2, gm_rd_sfn hba, gm_rd_nwn (by simp only [gm_sf_1, gm_nw_1]; omega), gm_rd_sfn hba, gm_rd_nwn (by simp only [gm_sf_1]; omega), gm_rd_sfn hba]
  obtain ⟨u, hu⟩ : ∃ u, u = h1.1 := ⟨_, rfl⟩
  obtain ⟨w, hw⟩ : ∃ w, w = h1.1 + 1 := ⟨_, rfl⟩
  have lp2 : gx_lp h h2 a u w n [] := by
    have la : gm_ln h1 a = 10 := gm_kd_ln k1 (by decide)
    have n1 : a ≠ (gm_sf h1 a 4 (.int (nI n))).1 := by rw [gm_sf_1]; omega
    have n2 : a ≠ (gm_sf (gm_nw (gm_sf h1 a 4 (.int (nI n))) (100, List.replicate n (.int 0)) n) a 5 (.ref h1.1)).1 := by simp only [gm_sf_1, gm_nw_1]; omega
    have wa : w ≠ a := by omega
    have ua : u ≠ a := by omega
    have un2 : u ≠ (gm_sf (gm_nw (gm_sf h1 a 4 (.int (nI n))) (100, List.replicate n (.int 0)) n) a 5 (.ref h1.1)).1 := by simp only [gm_sf_1, gm_nw_1]; omega
    have wn2 : w = (gm_sf (gm_nw (gm_sf h1 a 4 (.int (nI n))) (100, List.replicate n (.int 0)) n) a 5 (.ref h1.1)).1 := by simp only [gm_sf_1, gm_nw_1]; omega
    have un1 : u = (gm_sf h1 a 4 (.int (nI n))).1 := by simp only [gm_sf_1]; omega
    rw [← e2]
    refine ⟨?_, fun k h4 h5 h6 => ?_, ?_, ?_, ?_, ?_, ?_, ?_, ?_, fun j q hj => by simp at hj⟩
    · rw [gm_kd_sf, gm_kd_nw n2, gm_kd_sf, gm_kd_nw n1, gm_kd_sf]; exact k1
    · rw [gm_fv_sfj h6, gm_fv_nw n2, gm_fv_sfj h5, gm_fv_nw n1, gm_fv_sfj h4]; exact gv_fv era
    · rw [gm_fv_sfj (by decide), gm_fv_nw n2, gm_fv_sfj (by decide), gm_fv_nw n1, gm_fv_sf (by rw [la]; decide)]
    · rw [gm_fv_sfj (by decide), gm_fv_nw n2, gm_fv_sf (by rw [gm_ln_nw n1, gm_ln_sf, la]; decide), hu]
    · rw [gm_fv_sf (by rw [gm_ln_nw n2, gm_ln_sf, gm_ln_nw n1, gm_ln_sf, la]; decide), hw]
    · rw [gm_kd_sf, gm_kd_nw un2, gm_kd_sf, un1, gm_kd_nw1]; rfl
    · rw [gm_ln_sf, gm_ln_nw un2, gm_ln_sf, un1, gm_ln_nw1]; simp
    · rw [gm_kd_sf, wn2, gm_kd_nw1]; rfl
    · rw [gm_ln_sf, wn2, gm_ln_nw1]; simp
  clear e2
  obtain ⟨F', hF'⟩ : ∃ F' : Nat → Prop, F' = fun b => F b ∨ b = u ∨ b = w := ⟨_, rfl⟩
  have R2 : gx_R E h2 x ca K F' s1 := by
    have q : gx_R E h1 x ca K F' s1 := R1.wk (fun b z => by
      rw [hF'] at z
      rcases z with z | z | z
      · exact Or.inr z
      · left; omega
      · left; omega)
    have hFa' : F' a := by rw [hF']; exact Or.inl hFa
    have g : gx_ag h1 h2 x F' := ⟨by omega, fun b o => r2 b o.2.1 (fun z => o.2.2 (z ▸ hFa'))⟩
    have ro : ∀ i, i ≤ 6 → gm_rd h2 (x + i) = gm_rd h1 (x + i) := fun i hi => r2 _ (by omega) (by omega)
    have r0 := ro 0 (by decide)
    rw [Nat.add_zero] at r0
    refine q.own g ?_ ?_ (fun c _ => gv_fv (ro 1 (by decide))) ?_ (fun i _ => gv_fv (ro 3 (by decide))) (fun i _ => ⟨gv_fv (ro 5 (by decide)), gv_fv (ro 6 (by decide))⟩) rfl rfl
    · have z := q.1
      unfold gx_A at z ⊢
      simp only [gv_kd r0, gv_fv r0, gv_kd (ro 1 (by decide)), gv_ln (ro 1 (by decide)), gv_kd (ro 2 (by decide)), gv_ln (ro 2 (by decide)), gv_kd (ro 3 (by decide)), gv_ln (ro 3 (by decide)), gv_kd (ro 4 (by decide)), gv_fv (ro 4 (by decide)), gv_kd (ro 5 (by decide)), gv_ln (ro 5 (by decide)), gv_kd (ro 6 (by decide)), gv_ln (ro 6 (by decide))]
      obtain ⟨z1, z2, z3, z4, z5, z6, z7, z8, z9, z10, z11, z12, z13, z14, z15, z16, z17, z18, z19⟩ := z
      exact ⟨z1, z2, z3, z4, z5, z6, z7, z8, z9, z10, z11, z12, z13, z14, z15, z16, z17, z18, by omega⟩
    · have z := q.2.1
      unfold gx_B at z ⊢
      simp only [gv_fv r0, gv_fv (ro 2 (by decide))]
      exact z
    · have z := q.2.2.2.1
      unfold gx_M at z ⊢
      simp only [gv_fv r0, gv_fv (ro 4 (by decide))]
      exact z
  have st2 : gx_st h s x G h2 s1 := by
    have mv2 : gx_mv h1 h2 x G s1 := ⟨⟨by omega, fun b o => r2 b o.2.1 (fun z => o.2.2 (z ▸ hG))⟩, fun c => gv_fv (r2 _ (by omega) (by omega)), gv_fv (r2 _ (by omega) (by omega)), fun i _ => gv_fv (r2 _ (by omega) (by omega)), fun i _ => ⟨gv_fv (r2 _ (by omega) (by omega)), gv_fv (r2 _ (by omega) (by omega))⟩⟩
    refine ⟨mv1.trans mv2 le (fun _ z => Or.inr z), le, ?_⟩
    have m1 := na.1
    have m2 := na.2
    have p1 : gs_pl s1 = gs_pl s + 2 := by rw [es1]; rfl
    unfold gx_co
    omega
  have hF2 : ∀ b, F' b → b < h2.1 := by
    intro b z
    rw [hF'] at z
    rcases z with z | z | z
    · have := hF b z; have := mv.1.1; omega
    · omega
    · omega
  have hh1 : h.1 ≤ h1.1 := mv.1.1
  have P0 : gx_P E h x ca K F G s (fun (fs : List (Int32 × Int32)) h' v => v = none ∧ fs.length ≤ 8 ∧ ∃ u w, (h.1 ≤ u ∧ u < h'.1 ∧ h.1 ≤ w ∧ w < h'.1) ∧ gx_lp h h' a u w fs.length fs) (.ok ([], s)) = gx_P E h x ca K F G s (fun (fs : List (Int32 × Int32)) h' v => v = none ∧ fs.length ≤ 8 ∧ ∃ u w, (h.1 ≤ u ∧ u < h'.1 ∧ h.1 ≤ w ∧ w < h'.1) ∧ gx_lp h h' a u w fs.length fs) (.ok ([], s)) := rfl
  clear P0
  have loop : ∀ (m k : Nat) (fs : List (Int32 × Int32)) (sk : gs_S) (hk : gm_H) (w5 w6 : Value), k + m = n → fs.length = k → gx_R E hk x ca K F' sk → (∀ b, F' b → b < hk.1) → gx_st h s x G hk sk → gx_lp h hk a u w n fs →
      gm_W E d 99 28 [.ref x, .ref a, .int (nI dp), .int (nI n), .int (nI k), w5, w6] [] hk (gx_P E h x ca K F G s (fun fs h' v => v = none ∧ fs.length ≤ 8 ∧ ∃ u w, (h.1 ≤ u ∧ u < h'.1 ∧ h.1 ≤ w ∧ w < h'.1) ∧ gx_lp h h' a u w fs.length fs) (gs_b (gs_flds K rc m fs) (fun fs => if fl &&& 16 ≠ 0 ∧ 0 < nI n then gs_x (-5) else gs_r fs) sk)) := by
    intro m
    induction m with
    | zero =>
      intro k fs sk hk w5 w6 hkm hfs Rk hFk stk lp
      have hkm : k = n := by omega
      subst hkm
      have l1 := lp
      obtain ⟨q1, q2, q3, q4, q5, q6, q7, q8, q9, q10⟩ := l1
      have f3k : gm_fv hk a 3 = .int fl := (q2 3 (by decide) (by decide) (by decide)).trans f3
      simp only [r99_0, r99_0n, r99_1, r99_5, r99_6, r99_7, r99_8, r99_10, r99_13, r99_13n, r99_14, r99_19, r99_19a, r99_19n, r99_20, r99_20n, r99_21, r99_25, r99_26, r99_28, r99_30, r99_31, r99_34, r99_37, r99_37n, r99_41, r99_45, r99_47, r99_49, r99_52, r99_52n, r99_53, r99_58, r99_58a, r99_58n, r99_59, r99_59n, r99_63, r99_65, r99_65n, r99_66, r99_69, r99_71, r99_73, r99_74, r99_74n, r99_75, r99_78, r99_80, r99_80n, r99_81, r99_83, r99_83n, r99_84, r99_87, r99_89, r99_90, r99_92, r99_97, r99_98, r99_100, r99_102, r99_105, r99_105n, r99_106, r99_106n, r99_107, r99_108, r99_109, r99_116, r99_119, r99_119n, r99_120, r99_125, r99_125a, r99_125n, r99_126, r99_129, r99_132, r99_132n, r99_136, r99_139, r99_140, r99_143, r99_143n, r99_144, r99_149, r99_149a, r99_149n, r99_150, i32_10, reduceIte, gm_cmp1, gm_cmp3, gm_cmp4, gm_kd_sf, gm_ln_sf, gm_sf_1, gm_sf_2, gm_nw_1, gm_nw_2, gm_k_int, gm_k_ref, gm_k_null, gm_k_u, gm_k_long, and_true, true_and, true_or, or_true, or_false, false_or, and_self, or_self, if_true, if_false, List.map_nil, List.map_cons, List.sum_nil, List.sum_cons, Nat.zero_le, Option.toList_some, Option.toList_none, List.cons_append, List.nil_append, ne_eq, not_false_eq_true, not_true_eq_false, nI_1, nI_add, Value.category, Nat.reduceAdd, Nat.reduceMod, Nat.reduceLeDiff, Nat.reduceLT, Nat.reduceEqDiff, Nat.reducePow, Nat.le_refl, Nat.add_left_cancel_iff, Nat.add_eq_left, Nat.left_eq_add, Nat.add_zero, nI_leT (Nat.le_refl k) (show k < 2 ^ 31 by omega)]
      refine c99_133 (by simp) q1 (by omega) (x_isConstant (by omega) q1 f3k) (gx_kn ?_) gx_kx
      have Rf : gx_R E hk x ca K F sk := Rk.wk (fun b z => Or.inr (by rw [hF']; exact Or.inl z))
      have fin : gx_P E h x ca K F G s (fun (fs : List (Int32 × Int32)) h' v => v = none ∧ fs.length ≤ 8 ∧ ∃ u w, (h.1 ≤ u ∧ u < h'.1 ∧ h.1 ≤ w ∧ w < h'.1) ∧ gx_lp h h' a u w fs.length fs) (.ok (fs, sk)) (.inl none) hk :=
        ⟨fs, sk, rfl, ⟨rfl, by omega, u, w, ⟨by omega, hFk u (by rw [hF']; exact Or.inr (Or.inl rfl)), by omega, hFk w (by rw [hF']; exact Or.inr (Or.inr rfl))⟩, by rw [hfs]; exact lp⟩, Rf, stk.1, stk.2.1, stk.2.2⟩
      have eb : ∀ (f : List (Int32 × Int32) → gs_M (List (Int32 × Int32))), gs_b (gs_flds K rc 0 fs) f sk = f fs sk := fun f => rfl
      rw [eb]
      by_cases h16 : fl &&& 16 = 0
      · have : ¬ (fl &&& 16 ≠ 0 ∧ 0 < nI k) := fun z => z.1 h16
        rw [if_neg this]
        simp only [r99_0, r99_0n, r99_1, r99_5, r99_6, r99_7, r99_8, r99_10, r99_13, r99_13n, r99_14, r99_19, r99_19a, r99_19n, r99_20, r99_20n, r99_21, r99_25, r99_26, r99_28, r99_30, r99_31, r99_34, r99_37, r99_37n, r99_41, r99_45, r99_47, r99_49, r99_52, r99_52n, r99_53, r99_58, r99_58a, r99_58n, r99_59, r99_59n, r99_63, r99_65, r99_65n, r99_66, r99_69, r99_71, r99_73, r99_74, r99_74n, r99_75, r99_78, r99_80, r99_80n, r99_81, r99_83, r99_83n, r99_84, r99_87, r99_89, r99_90, r99_92, r99_97, r99_98, r99_100, r99_102, r99_105, r99_105n, r99_106, r99_106n, r99_107, r99_108, r99_109, r99_116, r99_119, r99_119n, r99_120, r99_125, r99_125a, r99_125n, r99_126, r99_129, r99_132, r99_132n, r99_136, r99_139, r99_140, r99_143, r99_143n, r99_144, r99_149, r99_149a, r99_149n, r99_150, i32_10, reduceIte, gm_cmp1, gm_cmp3, gm_cmp4, gm_kd_sf, gm_ln_sf, gm_sf_1, gm_sf_2, gm_nw_1, gm_nw_2, gm_k_int, gm_k_ref, gm_k_null, gm_k_u, gm_k_long, and_true, true_and, true_or, or_true, or_false, false_or, and_self, or_self, if_true, if_false, List.map_nil, List.map_cons, List.sum_nil, List.sum_cons, Nat.zero_le, Option.toList_some, Option.toList_none, List.cons_append, List.nil_append, ne_eq, not_false_eq_true, not_true_eq_false, nI_1, nI_add, Value.category, Nat.reduceAdd, Nat.reduceMod, Nat.reduceLeDiff, Nat.reduceLT, Nat.reduceEqDiff, Nat.reducePow, Nat.le_refl, Nat.add_left_cancel_iff, Nat.add_eq_left, Nat.left_eq_add, Nat.add_zero, h16]
        exact fin
      · by_cases hk0 : k = 0
        · subst hk0
          have : ¬ (fl &&& 16 ≠ 0 ∧ 0 < nI 0) := fun z => absurd z.2 (by decide)
          rw [if_neg this]
          have l0 : nI 0 ≤ 0 := by decide
          simp only [r99_0, r99_0n, r99_1, r99_5, r99_6, r99_7, r99_8, r99_10, r99_13, r99_13n, r99_14, r99_19, r99_19a, r99_19n, r99_20, r99_20n, r99_21, r99_25, r99_26, r99_28, r99_30, r99_31, r99_34, r99_37, r99_37n, r99_41, r99_45, r99_47, r99_49, r99_52, r99_52n, r99_53, r99_58, r99_58a, r99_58n, r99_59, r99_59n, r99_63, r99_65, r99_65n, r99_66, r99_69, r99_71, r99_73, r99_74, r99_74n, r99_75, r99_78, r99_80, r99_80n, r99_81, r99_83, r99_83n, r99_84, r99_87, r99_89, r99_90, r99_92, r99_97, r99_98, r99_100, r99_102, r99_105, r99_105n, r99_106, r99_106n, r99_107, r99_108, r99_109, r99_116, r99_119, r99_119n, r99_120, r99_125, r99_125a, r99_125n, r99_126, r99_129, r99_132, r99_132n, r99_136, r99_139, r99_140, r99_143, r99_143n, r99_144, r99_149, r99_149a, r99_149n, r99_150, i32_10, reduceIte, gm_cmp1, gm_cmp3, gm_cmp4, gm_kd_sf, gm_ln_sf, gm_sf_1, gm_sf_2, gm_nw_1, gm_nw_2, gm_k_int, gm_k_ref, gm_k_null, gm_k_u, gm_k_long, and_true, true_and, true_or, or_true, or_false, false_or, and_self, or_self, if_true, if_false, List.map_nil, List.map_cons, List.sum_nil, List.sum_cons, Nat.zero_le, Option.toList_some, Option.toList_none, List.cons_append, List.nil_append, ne_eq, not_false_eq_true, not_true_eq_false, nI_1, nI_add, Value.category, Nat.reduceAdd, Nat.reduceMod, Nat.reduceLeDiff, Nat.reduceLT, Nat.reduceEqDiff, Nat.reducePow, Nat.le_refl, Nat.add_left_cancel_iff, Nat.add_eq_left, Nat.left_eq_add, Nat.add_zero, h16, l0]
          exact fin
        · have kp : 0 < nI k := nI_lt (a := 0) (by omega) (by omega)
          have kp' : ¬ nI k ≤ 0 := nI_ge (a := 0) (by omega) (by omega)
          rw [if_pos (show fl &&& 16 ≠ 0 ∧ 0 < nI k from ⟨h16, kp⟩)]
          simp only [r99_0, r99_0n, r99_1, r99_5, r99_6, r99_7, r99_8, r99_10, r99_13, r99_13n, r99_14, r99_19, r99_19a, r99_19n, r99_20, r99_20n, r99_21, r99_25, r99_26, r99_28, r99_30, r99_31, r99_34, r99_37, r99_37n, r99_41, r99_45, r99_47, r99_49, r99_52, r99_52n, r99_53, r99_58, r99_58a, r99_58n, r99_59, r99_59n, r99_63, r99_65, r99_65n, r99_66, r99_69, r99_71, r99_73, r99_74, r99_74n, r99_75, r99_78, r99_80, r99_80n, r99_81, r99_83, r99_83n, r99_84, r99_87, r99_89, r99_90, r99_92, r99_97, r99_98, r99_100, r99_102, r99_105, r99_105n, r99_106, r99_106n, r99_107, r99_108, r99_109, r99_116, r99_119, r99_119n, r99_120, r99_125, r99_125a, r99_125n, r99_126, r99_129, r99_132, r99_132n, r99_136, r99_139, r99_140, r99_143, r99_143n, r99_144, r99_149, r99_149a, r99_149n, r99_150, i32_10, reduceIte, gm_cmp1, gm_cmp3, gm_cmp4, gm_kd_sf, gm_ln_sf, gm_sf_1, gm_sf_2, gm_nw_1, gm_nw_2, gm_k_int, gm_k_ref, gm_k_null, gm_k_u, gm_k_long, and_true, true_and, true_or, or_true, or_false, false_or, and_self, or_self, if_true, if_false, List.map_nil, List.map_cons, List.sum_nil, List.sum_cons, Nat.zero_le, Option.toList_some, Option.toList_none, List.cons_append, List.nil_append, ne_eq, not_false_eq_true, not_true_eq_false, nI_1, nI_add, Value.category, Nat.reduceAdd, Nat.reduceMod, Nat.reduceLeDiff, Nat.reduceLT, Nat.reduceEqDiff, Nat.reducePow, Nat.le_refl, Nat.add_left_cancel_iff, Nat.add_eq_left, Nat.left_eq_add, Nat.add_zero, h16, kp']
          exact c99_146 (by simp) Rf.1.1 (by omega) (x_fail Rf) gx_fn (fun _ _ q => q.frm stk)
    | succ m ih =>
      intro k fs sk hk w5 w6 hkm hfs Rk hFk stk lp
      obtain ⟨-, -, g⟩ := Rk.2.2.1.1.1
      obtain ⟨sa, sv, ea, -, -, ks, -⟩ := g 0 (by decide)
      have ea : E 2 = .ref sa := ea
      have hkn : k < n := by omega
      obtain ⟨res, hres⟩ : ∃ res, res = gs_b (gs_flds K rc (m + 1) fs) (fun fs => if fl &&& 16 ≠ 0 ∧ 0 < nI n then gs_x (-5) else gs_r fs) sk := ⟨_, rfl⟩
      rw [← hres]
      rw [r99_28]
      simp only [r99_0, r99_0n, r99_1, r99_5, r99_6, r99_7, r99_8, r99_10, r99_13, r99_13n, r99_14, r99_19, r99_19a, r99_19n, r99_20, r99_20n, r99_21, r99_25, r99_26, r99_30, r99_31, r99_34, r99_37, r99_37n, r99_41, r99_45, r99_47, r99_49, r99_52, r99_52n, r99_53, r99_58, r99_58a, r99_58n, r99_59, r99_59n, r99_63, r99_65, r99_65n, r99_66, r99_69, r99_71, r99_73, r99_74, r99_74n, r99_75, r99_78, r99_80, r99_80n, r99_81, r99_83, r99_83n, r99_84, r99_87, r99_89, r99_90, r99_92, r99_97, r99_98, r99_100, r99_102, r99_105, r99_105n, r99_106, r99_106n, r99_107, r99_108, r99_109, r99_116, r99_119, r99_119n, r99_120, r99_125, r99_125a, r99_125n, r99_126, r99_129, r99_132, r99_132n, r99_136, r99_139, r99_140, r99_143, r99_143n, r99_144, r99_149, r99_149a, r99_149n, r99_150, i32_10, reduceIte, gm_cmp1, gm_cmp3, gm_cmp4, gm_kd_sf, gm_ln_sf, gm_sf_1, gm_sf_2, gm_nw_1, gm_nw_2, gm_k_int, gm_k_ref, gm_k_null, gm_k_u, gm_k_long, and_true, true_and, true_or, or_true, or_false, false_or, and_self, or_self, if_true, if_false, List.map_nil, List.map_cons, List.sum_nil, List.sum_cons, Nat.zero_le, Option.toList_some, Option.toList_none, List.cons_append, List.nil_append, ne_eq, not_false_eq_true, not_true_eq_false, nI_1, nI_add, Value.category, Nat.reduceAdd, Nat.reduceMod, Nat.reduceLeDiff, Nat.reduceLT, Nat.reduceEqDiff, Nat.reducePow, Nat.le_refl, Nat.add_left_cancel_iff, Nat.add_eq_left, Nat.left_eq_add, Nat.add_zero, nI_leF hkn (show n < 2 ^ 31 by omega), ea]
      refine c99_38 (by simp [Value.category]) Rk.1.1 (by omega) (x_nextByte (G := fun _ => False) (by omega) Rk) (fun v h3 q => ?_) (fun _ _ q => q.er (fun f e => by rw [hres]; exact gs_b_er (gs_b_er e)) stk (fun _ z => z.elim))
      obtain ⟨b, s3, e3, ⟨rfl, na3⟩, R3, mv3, le3, co3⟩ := q
      have st3 := stk.trans mv3 le3 co3 (fun _ z => z.elim)
      obtain ⟨⟨bb, hbb, rfl⟩, es3, -⟩ := gs_u1_ok e3
      have hFw : F' w := by rw [hF']; exact Or.inr (Or.inr rfl)
      have hFu : F' u := by rw [hF']; exact Or.inr (Or.inl rfl)
      have hak := hFk a (by rw [hF']; exact Or.inl hFa)
      have huk := hFk u hFu
      have hwk := hFk w hFw
      have lp3 : gx_lp h h3 a u w n fs := lp.tr (mv3.1.2 a ⟨Or.inr hx, hak, fun z => z⟩) (mv3.1.2 u ⟨Or.inr (by omega), huk, fun z => z⟩) (mv3.1.2 w ⟨Or.inr (by omega), hwk, fun z => z⟩)
      obtain ⟨-, -, g3⟩ := R3.2.2.1.1.1
      obtain ⟨sa3, sv3, ea3, -, -, ks3, -⟩ := g3 0 (by decide)
      have ea3 : E 2 = .ref sa3 := ea3
      rw [ea] at ea3
      cases ea3
      simp only [r99_0, r99_0n, r99_1, r99_5, r99_6, r99_7, r99_8, r99_10, r99_13, r99_13n, r99_14, r99_19, r99_19a, r99_19n, r99_20, r99_20n, r99_21, r99_25, r99_26, r99_30, r99_31, r99_34, r99_37, r99_37n, r99_41, r99_45, r99_47, r99_49, r99_52, r99_52n, r99_53, r99_58, r99_58a, r99_58n, r99_59, r99_59n, r99_63, r99_65, r99_65n, r99_66, r99_69, r99_71, r99_73, r99_74, r99_74n, r99_75, r99_78, r99_80, r99_80n, r99_81, r99_83, r99_83n, r99_84, r99_87, r99_89, r99_90, r99_92, r99_97, r99_98, r99_100, r99_102, r99_105, r99_105n, r99_106, r99_106n, r99_107, r99_108, r99_109, r99_116, r99_119, r99_119n, r99_120, r99_125, r99_125a, r99_125n, r99_126, r99_129, r99_132, r99_132n, r99_136, r99_139, r99_140, r99_143, r99_143n, r99_144, r99_149, r99_149a, r99_149n, r99_150, i32_10, reduceIte, gm_cmp1, gm_cmp3, gm_cmp4, gm_kd_sf, gm_ln_sf, gm_sf_1, gm_sf_2, gm_nw_1, gm_nw_2, gm_k_int, gm_k_ref, gm_k_null, gm_k_u, gm_k_long, and_true, true_and, true_or, or_true, or_false, false_or, and_self, or_self, if_true, if_false, List.map_nil, List.map_cons, List.sum_nil, List.sum_cons, Nat.zero_le, Option.toList_some, Option.toList_none, List.cons_append, List.nil_append, ne_eq, not_false_eq_true, not_true_eq_false, nI_1, nI_add, Value.category, Nat.reduceAdd, Nat.reduceMod, Nat.reduceLeDiff, Nat.reduceLT, Nat.reduceEqDiff, Nat.reducePow, Nat.le_refl, Nat.add_left_cancel_iff, Nat.add_eq_left, Nat.left_eq_add, Nat.add_zero, i2c_b bb hbb]
      refine c99_42 (by simp) ks3 (by omega) (x_indexOf1 (by omega) hbb R3 ea ks3) (gx_kn ?_) gx_kx
      rcases gs_ty_of bb with ⟨ty0, ty1⟩ | ⟨t, ht8, ty0, ty1⟩
      · have m1 : ¬ (0 : Int32) ≤ -1 := by decide
        simp only [r99_0, r99_0n, r99_1, r99_5, r99_6, r99_7, r99_8, r99_10, r99_13, r99_13n, r99_14, r99_19, r99_19a, r99_19n, r99_20, r99_20n, r99_21, r99_25, r99_26, r99_30, r99_31, r99_34, r99_37, r99_37n, r99_41, r99_45, r99_47, r99_49, r99_52, r99_52n, r99_53, r99_58, r99_58a, r99_58n, r99_59, r99_59n, r99_63, r99_65, r99_65n, r99_66, r99_69, r99_71, r99_73, r99_74, r99_74n, r99_75, r99_78, r99_80, r99_80n, r99_81, r99_83, r99_83n, r99_84, r99_87, r99_89, r99_90, r99_92, r99_97, r99_98, r99_100, r99_102, r99_105, r99_105n, r99_106, r99_106n, r99_107, r99_108, r99_109, r99_116, r99_119, r99_119n, r99_120, r99_125, r99_125a, r99_125n, r99_126, r99_129, r99_132, r99_132n, r99_136, r99_139, r99_140, r99_143, r99_143n, r99_144, r99_149, r99_149a, r99_149n, r99_150, i32_10, reduceIte, gm_cmp1, gm_cmp3, gm_cmp4, gm_kd_sf, gm_ln_sf, gm_sf_1, gm_sf_2, gm_nw_1, gm_nw_2, gm_k_int, gm_k_ref, gm_k_null, gm_k_u, gm_k_long, and_true, true_and, true_or, or_true, or_false, false_or, and_self, or_self, if_true, if_false, List.map_nil, List.map_cons, List.sum_nil, List.sum_cons, Nat.zero_le, Option.toList_some, Option.toList_none, List.cons_append, List.nil_append, ne_eq, not_false_eq_true, not_true_eq_false, nI_1, nI_add, Value.category, Nat.reduceAdd, Nat.reduceMod, Nat.reduceLeDiff, Nat.reduceLT, Nat.reduceEqDiff, Nat.reducePow, Nat.le_refl, Nat.add_left_cancel_iff, Nat.add_eq_left, Nat.left_eq_add, Nat.add_zero, ty1, m1]
        refine c99_55 (by simp) R3.1.1 (by omega) (x_fail (G := G) (α := Unit) (val := fun _ _ _ => True) R3) gx_fn (fun _ _ q => q.er (fun f e => ?_) st3 (fun _ z => Or.inr z))
        cases e
        rw [hres]
        refine gs_b_er ?_
        show gs_b (gs_u1 K) _ sk = _
        rw [gs_b_ok e3]
        simp only [ty0]
        rfl
      · simp only [r99_0, r99_0n, r99_1, r99_5, r99_6, r99_7, r99_8, r99_10, r99_13, r99_13n, r99_14, r99_19, r99_19a, r99_19n, r99_20, r99_20n, r99_21, r99_25, r99_26, r99_30, r99_31, r99_34, r99_37, r99_37n, r99_41, r99_45, r99_47, r99_49, r99_52, r99_52n, r99_53, r99_58, r99_58a, r99_58n, r99_59, r99_59n, r99_63, r99_65, r99_65n, r99_66, r99_69, r99_71, r99_73, r99_74, r99_74n, r99_75, r99_78, r99_80, r99_80n, r99_81, r99_83, r99_83n, r99_84, r99_87, r99_89, r99_90, r99_92, r99_97, r99_98, r99_100, r99_102, r99_105, r99_105n, r99_106, r99_106n, r99_107, r99_108, r99_109, r99_116, r99_119, r99_119n, r99_120, r99_125, r99_125a, r99_125n, r99_126, r99_129, r99_132, r99_132n, r99_136, r99_139, r99_140, r99_143, r99_143n, r99_144, r99_149, r99_149a, r99_149n, r99_150, i32_10, reduceIte, gm_cmp1, gm_cmp3, gm_cmp4, gm_kd_sf, gm_ln_sf, gm_sf_1, gm_sf_2, gm_nw_1, gm_nw_2, gm_k_int, gm_k_ref, gm_k_null, gm_k_u, gm_k_long, and_true, true_and, true_or, or_true, or_false, false_or, and_self, or_self, if_true, if_false, List.map_nil, List.map_cons, List.sum_nil, List.sum_cons, Nat.zero_le, Option.toList_some, Option.toList_none, List.cons_append, List.nil_append, ne_eq, not_false_eq_true, not_true_eq_false, nI_1, nI_add, Value.category, Nat.reduceAdd, Nat.reduceMod, Nat.reduceLeDiff, Nat.reduceLT, Nat.reduceEqDiff, Nat.reducePow, Nat.le_refl, Nat.add_left_cancel_iff, Nat.add_eq_left, Nat.left_eq_add, Nat.add_zero, ty1, nI_pos' (show t < 2 ^ 31 by omega)]
        refine c99_60 (by simp) R3.1.1 (by omega) (x_passUtf (G := fun _ => False) (by omega) R3) (fun v h4 q => ?_) (fun _ _ q => q.er (fun f e => ?_) st3 (fun _ z => z.elim))
        rotate_left
        · rw [hres]
          refine gs_b_er ?_
          show gs_b (gs_u1 K) _ sk = _
          rw [gs_b_ok e3]
          simp only [ty0]
          exact gs_b_er e
        obtain ⟨nf, s4, e4, ⟨rfl, na4⟩, R4, mv4, le4, co4⟩ := q
        obtain ⟨-, u2, u3, -⟩ := gs_utf_ok e4 R3.2.2.2.1.2.1
        have st4 := st3.trans mv4 le4 co4 (fun _ z => z.elim)
        have hk3 : hk.1 ≤ h3.1 := mv3.1.1
        have h34 : h3.1 ≤ h4.1 := mv4.1.1
        have lp4 : gx_lp h h4 a u w n fs := lp3.tr (mv4.1.2 a ⟨Or.inr hx, by omega, fun z => z⟩) (mv4.1.2 u ⟨Or.inr (by omega), by omega, fun z => z⟩) (mv4.1.2 w ⟨Or.inr (by omega), by omega, fun z => z⟩)
        have l4 := lp4
        obtain ⟨q1, q2, q3, q4, q5, q6, q7, q8, q9, q10⟩ := l4
        have hn31 : n < 2147483648 := by omega
        have aw : a ≠ w := by omega
        have au : a ≠ u := by omega
        have uw : u ≠ w := by omega
        have xw : x ≠ w := by omega
        have R5 : gx_R E (gm_sf h4 w k (.int (nI t))) x ca K F' s4 := R4.out hFw (by omega)
        have A05 := R5.1.1
        simp only [r99_0, r99_0n, r99_1, r99_5, r99_6, r99_7, r99_8, r99_10, r99_13, r99_13n, r99_14, r99_19, r99_19a, r99_19n, r99_20, r99_20n, r99_21, r99_25, r99_26, r99_30, r99_31, r99_34, r99_37, r99_37n, r99_41, r99_45, r99_47, r99_49, r99_52, r99_52n, r99_53, r99_58, r99_58a, r99_58n, r99_59, r99_59n, r99_63, r99_65, r99_65n, r99_66, r99_69, r99_71, r99_73, r99_74, r99_74n, r99_75, r99_78, r99_80, r99_80n, r99_81, r99_83, r99_83n, r99_84, r99_87, r99_89, r99_90, r99_92, r99_97, r99_98, r99_100, r99_102, r99_105, r99_105n, r99_106, r99_106n, r99_107, r99_108, r99_109, r99_116, r99_119, r99_119n, r99_120, r99_125, r99_125a, r99_125n, r99_126, r99_129, r99_132, r99_132n, r99_136, r99_139, r99_140, r99_143, r99_143n, r99_144, r99_149, r99_149a, r99_149n, r99_150, i32_10, reduceIte, gm_cmp1, gm_cmp3, gm_cmp4, gm_kd_sf, gm_ln_sf, gm_sf_1, gm_sf_2, gm_nw_1, gm_nw_2, gm_k_int, gm_k_ref, gm_k_null, gm_k_u, gm_k_long, and_true, true_and, true_or, or_true, or_false, false_or, and_self, or_self, if_true, if_false, List.map_nil, List.map_cons, List.sum_nil, List.sum_cons, Nat.zero_le, Option.toList_some, Option.toList_none, List.cons_append, List.nil_append, ne_eq, not_false_eq_true, not_true_eq_false, nI_1, nI_add, Value.category, Nat.reduceAdd, Nat.reduceMod, Nat.reduceLeDiff, Nat.reduceLT, Nat.reduceEqDiff, Nat.reducePow, Nat.le_refl, Nat.add_left_cancel_iff, Nat.add_eq_left, Nat.left_eq_add, Nat.add_zero, q1, q5, q8, q9, hkn, hn31, gm_fv_sfa aw, q4, R4.1.1, gm_fv_sfa xw, R4.2.2.2.1.1, nI_sub u2]
        refine c99_94 (by simp [Value.category]) A05 (by omega) (x_letterFrom (f := 97) (m := 26) R5 (by omega)) (gx_kn ?_) gx_kx
        have k5u : gm_kd (gm_sf h4 w k (.int (nI t))) u = 100 := by rw [gm_kd_sf]; exact q6
        have l5u : gm_ln (gm_sf h4 w k (.int (nI t))) u = n := by rw [gm_ln_sf]; exact q7
        obtain ⟨h6, eh6⟩ : ∃ h6, h6 = gm_sf (gm_sf h4 w k (.int (nI t))) u k (.int (gs_let K nf (gs_pl s4 - nf) 97 26)) := ⟨_, rfl⟩
        have R6 : gx_R E h6 x ca K F' s4 := by rw [eh6]; exact R5.out hFu (by omega)
        have st6 : gx_st h s x G h6 s4 := by rw [eh6]; exact (st4.sf (Or.inl (by omega)) (Or.inr (by omega))).sf (Or.inl (by omega)) (Or.inr (by omega))
        have h61 : h6.1 = h4.1 := by rw [eh6]; simp only [gm_sf_1]
        have lp6 : gx_lp h h6 a u w n (fs ++ [(gs_let K nf (gs_pl s4 - nf) 97 26, nI t)]) := by
          rw [eh6]
          refine ⟨by simp only [gm_kd_sf]; exact q1, fun i i4 i5 i6 => by rw [gm_fv_sfa au, gm_fv_sfa aw]; exact q2 i i4 i5 i6, by rw [gm_fv_sfa au, gm_fv_sfa aw]; exact q3, by rw [gm_fv_sfa au, gm_fv_sfa aw]; exact q4, by rw [gm_fv_sfa au, gm_fv_sfa aw]; exact q5, by simp only [gm_kd_sf]; exact q6, by simp only [gm_ln_sf]; exact q7, by simp only [gm_kd_sf]; exact q8, by simp only [gm_ln_sf]; exact q9, fun j q hj => ?_⟩
          by_cases hjk : j < fs.length
          · rw [List.getElem?_append_left hjk] at hj
            rw [gm_fv_sfj (show j ≠ k by omega), gm_fv_sfj (show j ≠ k by omega), gm_fv_sfj (show j ≠ k by omega), gm_fv_sfj (show j ≠ k by omega)]
            exact q10 j q hj
          · have hjl := (List.getElem?_eq_some_iff.mp hj).1
            simp at hjl
            have hjk2 : j = fs.length := by omega
            subst hjk2
            simp at hj
            subst hj
            subst hfs
            refine ⟨gm_fv_sf (by rw [gm_ln_sf, q7]; exact hkn), ?_, nI_pos' (by omega), nI_lt (b := 8) ht8 (by decide)⟩
            rw [gm_fv_sfa (Ne.symm uw)]
            exact gm_fv_sf (by rw [q9]; exact hkn)
        have hF6 : ∀ b, F' b → b < h6.1 := fun b z => by have := hFk b z; omega
        simp only [r99_0, r99_0n, r99_1, r99_5, r99_6, r99_7, r99_8, r99_10, r99_13, r99_13n, r99_14, r99_19, r99_19a, r99_19n, r99_20, r99_20n, r99_21, r99_25, r99_26, r99_30, r99_31, r99_34, r99_37, r99_37n, r99_41, r99_45, r99_47, r99_49, r99_52, r99_52n, r99_53, r99_58, r99_58a, r99_58n, r99_59, r99_59n, r99_63, r99_65, r99_65n, r99_66, r99_69, r99_71, r99_73, r99_74, r99_74n, r99_75, r99_78, r99_80, r99_80n, r99_81, r99_83, r99_83n, r99_84, r99_87, r99_89, r99_90, r99_92, r99_97, r99_98, r99_100, r99_102, r99_105, r99_105n, r99_106, r99_106n, r99_107, r99_108, r99_109, r99_116, r99_119, r99_119n, r99_120, r99_125, r99_125a, r99_125n, r99_129, r99_132, r99_132n, r99_136, r99_139, r99_140, r99_143, r99_143n, r99_144, r99_149, r99_149a, r99_149n, r99_150, i32_10, reduceIte, gm_cmp1, gm_cmp3, gm_cmp4, gm_kd_sf, gm_ln_sf, gm_sf_1, gm_sf_2, gm_nw_1, gm_nw_2, gm_k_int, gm_k_ref, gm_k_null, gm_k_u, gm_k_long, and_true, true_and, true_or, or_true, or_false, false_or, and_self, or_self, if_true, if_false, List.map_nil, List.map_cons, List.sum_nil, List.sum_cons, Nat.zero_le, Option.toList_some, Option.toList_none, List.cons_append, List.nil_append, ne_eq, not_false_eq_true, not_true_eq_false, nI_1, nI_add, Value.category, Nat.reduceAdd, Nat.reduceMod, Nat.reduceLeDiff, Nat.reduceLT, Nat.reduceEqDiff, Nat.reducePow, Nat.le_refl, Nat.add_left_cancel_iff, Nat.add_eq_left, Nat.left_eq_add, Nat.add_zero, k5u, l5u, hkn, hn31]
        rw [← eh6]
        by_cases ht6 : t < 6
        · have t6 : nI t < 6 := nI_lt (b := 6) ht6 (by decide)
          have er : res = gs_b (gs_flds K rc m (fs ++ [(gs_let K nf (gs_pl s4 - nf) 97 26, nI t)])) (fun fs => if fl &&& 16 ≠ 0 ∧ 0 < nI n then gs_x (-5) else gs_r fs) s4 := by
            rw [hres]
            have : gs_flds K rc (m + 1) fs sk = gs_flds K rc m (fs ++ [(gs_let K nf (gs_pl s4 - nf) 97 26, nI t)]) s4 := by
              show gs_b (gs_u1 K) _ sk = _
              rw [gs_b_ok e3]
              simp only [ty0]
              rw [gs_b_ok e4, gs_b_ok (m := gs_g) rfl, if_pos ht6]
            unfold gs_b
            rw [this]
          simp only [r99_0, r99_0n, r99_1, r99_5, r99_6, r99_7, r99_8, r99_10, r99_13, r99_13n, r99_14, r99_19, r99_19a, r99_19n, r99_20, r99_20n, r99_21, r99_25, r99_26, r99_30, r99_31, r99_34, r99_37, r99_37n, r99_41, r99_45, r99_47, r99_49, r99_52, r99_52n, r99_53, r99_58, r99_58a, r99_58n, r99_59, r99_59n, r99_63, r99_65, r99_65n, r99_66, r99_69, r99_71, r99_73, r99_74, r99_74n, r99_75, r99_78, r99_80, r99_80n, r99_81, r99_83, r99_83n, r99_84, r99_87, r99_89, r99_90, r99_92, r99_97, r99_98, r99_100, r99_102, r99_105, r99_105n, r99_106, r99_106n, r99_107, r99_108, r99_109, r99_116, r99_119, r99_119n, r99_120, r99_125, r99_125a, r99_125n, r99_126, r99_129, r99_132, r99_132n, r99_136, r99_139, r99_140, r99_143, r99_143n, r99_144, r99_149, r99_149a, r99_149n, r99_150, i32_10, reduceIte, gm_cmp1, gm_cmp3, gm_cmp4, gm_kd_sf, gm_ln_sf, gm_sf_1, gm_sf_2, gm_nw_1, gm_nw_2, gm_k_int, gm_k_ref, gm_k_null, gm_k_u, gm_k_long, and_true, true_and, true_or, or_true, or_false, false_or, and_self, or_self, if_true, if_false, List.map_nil, List.map_cons, List.sum_nil, List.sum_cons, Nat.zero_le, Option.toList_some, Option.toList_none, List.cons_append, List.nil_append, ne_eq, not_false_eq_true, not_true_eq_false, nI_1, nI_add, Value.category, Nat.reduceAdd, Nat.reduceMod, Nat.reduceLeDiff, Nat.reduceLT, Nat.reduceEqDiff, Nat.reducePow, Nat.le_refl, Nat.add_left_cancel_iff, Nat.add_eq_left, Nat.left_eq_add, Nat.add_zero, t6]
          rw [er]
          exact ih (k + 1) _ s4 h6 _ _ (by omega) (by simp [hfs]) R6 hF6 st6 lp6
        · have t6 : ¬ nI t < 6 := nI_nlt (b := 6) (by omega) (by omega)
          have er : ∀ f : List (Int32 × Int32) → gs_M (List (Int32 × Int32)), gs_b (gs_flds K rc (m + 1) fs) f sk = gs_b (gs_b rc fun v => fun s' => if gs_sort s' v = 1 then gs_flds K rc m (fs ++ [(gs_let K nf (gs_pl s4 - nf) 97 26, nI t)]) s' else .error (-4)) f s4 := by
            intro f
            have : gs_flds K rc (m + 1) fs sk = gs_b rc (fun v => fun s' => if gs_sort s' v = 1 then gs_flds K rc m (fs ++ [(gs_let K nf (gs_pl s4 - nf) 97 26, nI t)]) s' else .error (-4)) s4 := by
              show gs_b (gs_u1 K) _ sk = _
              rw [gs_b_ok e3]
              simp only [ty0]
              rw [gs_b_ok e4, gs_b_ok (m := gs_g) rfl, if_neg ht6]
            unfold gs_b
            rw [this]
            rfl
          rw [er] at hres
          simp only [r99_0, r99_0n, r99_1, r99_5, r99_6, r99_7, r99_8, r99_10, r99_13, r99_13n, r99_14, r99_19, r99_19a, r99_19n, r99_20, r99_20n, r99_21, r99_25, r99_26, r99_30, r99_31, r99_34, r99_37, r99_37n, r99_41, r99_45, r99_47, r99_49, r99_52, r99_52n, r99_53, r99_58, r99_58a, r99_58n, r99_59, r99_59n, r99_63, r99_65, r99_65n, r99_66, r99_69, r99_71, r99_73, r99_74, r99_74n, r99_75, r99_78, r99_80, r99_80n, r99_81, r99_83, r99_83n, r99_84, r99_87, r99_89, r99_90, r99_92, r99_97, r99_98, r99_100, r99_102, r99_105, r99_105n, r99_106, r99_106n, r99_107, r99_108, r99_109, r99_116, r99_119, r99_119n, r99_120, r99_125, r99_125a, r99_125n, r99_126, r99_129, r99_132, r99_132n, r99_136, r99_139, r99_140, r99_143, r99_143n, r99_144, r99_149, r99_149a, r99_149n, r99_150, i32_10, reduceIte, gm_cmp1, gm_cmp3, gm_cmp4, gm_kd_sf, gm_ln_sf, gm_sf_1, gm_sf_2, gm_nw_1, gm_nw_2, gm_k_int, gm_k_ref, gm_k_null, gm_k_u, gm_k_long, and_true, true_and, true_or, or_true, or_false, false_or, and_self, or_self, if_true, if_false, List.map_nil, List.map_cons, List.sum_nil, List.sum_cons, Nat.zero_le, Option.toList_some, Option.toList_none, List.cons_append, List.nil_append, ne_eq, not_false_eq_true, not_true_eq_false, nI_1, nI_add, Value.category, Nat.reduceAdd, Nat.reduceMod, Nat.reduceLeDiff, Nat.reduceLT, Nat.reduceEqDiff, Nat.reducePow, Nat.le_refl, Nat.add_left_cancel_iff, Nat.add_eq_left, Nat.left_eq_add, Nat.add_zero, t6]
          refine c99_110 (by simp [Value.category]) R6.1.1 (by omega) (C (d - 1) h6 s4 F' (fun _ => False) (by omega) R6 hF6) (fun v h7 q => ?_) (fun _ _ q => q.er (fun f e => by rw [hres]; exact gs_b_er (gs_b_er e)) st6 (fun _ z => z.elim))
          obtain ⟨v, s7, e7, rfl, R7, mv7, le7, co7⟩ := q
          have st7 := st6.trans mv7 le7 co7 (fun _ z => z.elim)
          have h67 : h6.1 ≤ h7.1 := mv7.1.1
          have lp7 := lp6.tr (mv7.1.2 a ⟨Or.inr hx, by omega, fun z => z⟩) (mv7.1.2 u ⟨Or.inr (by omega), by omega, fun z => z⟩) (mv7.1.2 w ⟨Or.inr (by omega), by omega, fun z => z⟩)
          simp only [i32_10, reduceIte, gm_cmp1, gm_cmp3, gm_cmp4, gm_kd_sf, gm_ln_sf, gm_sf_1, gm_sf_2, gm_nw_1, gm_nw_2, gm_k_int, gm_k_ref, gm_k_null, gm_k_u, gm_k_long, and_true, true_and, true_or, or_true, or_false, false_or, and_self, or_self, if_true, if_false, List.map_nil, List.map_cons, List.sum_nil, List.sum_cons, Nat.zero_le, Option.toList_some, Option.toList_none, List.cons_append, List.nil_append, ne_eq, not_false_eq_true, not_true_eq_false, nI_1, nI_add, Value.category, Nat.reduceAdd, Nat.reduceMod, Nat.reduceLeDiff, Nat.reduceLT, Nat.reduceEqDiff, Nat.reducePow, Nat.le_refl, Nat.add_left_cancel_iff, Nat.add_eq_left, Nat.left_eq_add, Nat.add_zero]
          refine c99_113 (by simp) R7.1.1 (by omega) (x_isText (by omega) R7) (gx_kn ?_) gx_kx
          by_cases hv : gs_sort s7 v = 1
          · have er2 : res = gs_b (gs_flds K rc m (fs ++ [(gs_let K nf (gs_pl s4 - nf) 97 26, nI t)])) (fun fs => if fl &&& 16 ≠ 0 ∧ 0 < nI n then gs_x (-5) else gs_r fs) s7 := by
              rw [hres]
              exact gs_b_cg (by rw [gs_b_ok e7]; simp only [hv, if_true])
            simp only [r99_0, r99_0n, r99_1, r99_5, r99_6, r99_7, r99_8, r99_10, r99_13, r99_13n, r99_14, r99_19, r99_19a, r99_19n, r99_20, r99_20n, r99_21, r99_25, r99_26, r99_30, r99_31, r99_34, r99_37, r99_37n, r99_41, r99_45, r99_47, r99_49, r99_52, r99_52n, r99_53, r99_58, r99_58a, r99_58n, r99_59, r99_59n, r99_63, r99_65, r99_65n, r99_66, r99_69, r99_71, r99_73, r99_74, r99_74n, r99_75, r99_78, r99_80, r99_80n, r99_81, r99_83, r99_83n, r99_84, r99_87, r99_89, r99_90, r99_92, r99_97, r99_98, r99_100, r99_102, r99_105, r99_105n, r99_106, r99_106n, r99_107, r99_108, r99_109, r99_116, r99_119, r99_119n, r99_120, r99_125, r99_125a, r99_125n, r99_126, r99_129, r99_132, r99_132n, r99_136, r99_139, r99_140, r99_143, r99_143n, r99_144, r99_149, r99_149a, r99_149n, r99_150, i32_10, reduceIte, gm_cmp1, gm_cmp3, gm_cmp4, gm_kd_sf, gm_ln_sf, gm_sf_1, gm_sf_2, gm_nw_1, gm_nw_2, gm_k_int, gm_k_ref, gm_k_null, gm_k_u, gm_k_long, and_true, true_and, true_or, or_true, or_false, false_or, and_self, or_self, if_true, if_false, List.map_nil, List.map_cons, List.sum_nil, List.sum_cons, Nat.zero_le, Option.toList_some, Option.toList_none, List.cons_append, List.nil_append, ne_eq, not_false_eq_true, not_true_eq_false, nI_1, nI_add, Value.category, Nat.reduceAdd, Nat.reduceMod, Nat.reduceLeDiff, Nat.reduceLT, Nat.reduceEqDiff, Nat.reducePow, Nat.le_refl, Nat.add_left_cancel_iff, Nat.add_eq_left, Nat.left_eq_add, Nat.add_zero, hv]
            rw [er2]
            exact ih (k + 1) _ s7 h7 _ _ (by omega) (by simp [hfs]) R7 (fun b z => by have := hF6 b z; omega) st7 lp7
          · simp only [r99_0, r99_0n, r99_1, r99_5, r99_6, r99_7, r99_8, r99_10, r99_13, r99_13n, r99_14, r99_19, r99_19a, r99_19n, r99_20, r99_20n, r99_21, r99_25, r99_26, r99_30, r99_31, r99_34, r99_37, r99_37n, r99_41, r99_45, r99_47, r99_49, r99_52, r99_52n, r99_53, r99_58, r99_58a, r99_58n, r99_59, r99_59n, r99_63, r99_65, r99_65n, r99_66, r99_69, r99_71, r99_73, r99_74, r99_74n, r99_75, r99_78, r99_80, r99_80n, r99_81, r99_83, r99_83n, r99_84, r99_87, r99_89, r99_90, r99_92, r99_97, r99_98, r99_100, r99_102, r99_105, r99_105n, r99_106, r99_106n, r99_107, r99_108, r99_109, r99_116, r99_119, r99_119n, r99_120, r99_125, r99_125a, r99_125n, r99_126, r99_129, r99_132, r99_132n, r99_136, r99_139, r99_140, r99_143, r99_143n, r99_144, r99_149, r99_149a, r99_149n, r99_150, i32_10, reduceIte, gm_cmp1, gm_cmp3, gm_cmp4, gm_kd_sf, gm_ln_sf, gm_sf_1, gm_sf_2, gm_nw_1, gm_nw_2, gm_k_int, gm_k_ref, gm_k_null, gm_k_u, gm_k_long, and_true, true_and, true_or, or_true, or_false, false_or, and_self, or_self, if_true, if_false, List.map_nil, List.map_cons, List.sum_nil, List.sum_cons, Nat.zero_le, Option.toList_some, Option.toList_none, List.cons_append, List.nil_append, ne_eq, not_false_eq_true, not_true_eq_false, nI_1, nI_add, Value.category, Nat.reduceAdd, Nat.reduceMod, Nat.reduceLeDiff, Nat.reduceLT, Nat.reduceEqDiff, Nat.reducePow, Nat.le_refl, Nat.add_left_cancel_iff, Nat.add_eq_left, Nat.left_eq_add, Nat.add_zero, hv]
            refine c99_122 (by simp) R7.1.1 (by omega) (x_fail (G := G) (α := Unit) (val := fun _ _ _ => True) R7) gx_fn (fun _ _ q => q.er (fun f e => ?_) st7 (fun _ z => Or.inr z))
            cases e
            rw [hres]
            refine gs_b_er ?_
            rw [gs_b_ok e7]
            simp only [hv, if_false]
  simp only [r99_0, r99_0n, r99_1, r99_5, r99_6, r99_7, r99_8, r99_10, r99_13, r99_13n, r99_14, r99_19, r99_19a, r99_19n, r99_20, r99_20n, r99_21, r99_25, r99_26, r99_30, r99_31, r99_34, r99_37, r99_37n, r99_41, r99_45, r99_47, r99_49, r99_52, r99_52n, r99_53, r99_58, r99_58a, r99_58n, r99_59, r99_59n, r99_63, r99_65, r99_65n, r99_66, r99_69, r99_71, r99_73, r99_74, r99_74n, r99_75, r99_78, r99_80, r99_80n, r99_81, r99_83, r99_83n, r99_84, r99_87, r99_89, r99_90, r99_92, r99_97, r99_98, r99_100, r99_102, r99_105, r99_105n, r99_106, r99_106n, r99_107, r99_108, r99_109, r99_116, r99_119, r99_119n, r99_120, r99_125, r99_125a, r99_125n, r99_126, r99_129, r99_132, r99_132n, r99_136, r99_139, r99_140, r99_143, r99_143n, r99_144, r99_149, r99_149a, r99_149n, r99_150, i32_10, reduceIte, gm_cmp1, gm_cmp3, gm_cmp4, gm_kd_sf, gm_ln_sf, gm_sf_1, gm_sf_2, gm_nw_1, gm_nw_2, gm_k_int, gm_k_ref, gm_k_null, gm_k_u, gm_k_long, and_true, true_and, true_or, or_true, or_false, false_or, and_self, or_self, if_true, if_false, List.map_nil, List.map_cons, List.sum_nil, List.sum_cons, Nat.zero_le, Option.toList_some, Option.toList_none, List.cons_append, List.nil_append, ne_eq, not_false_eq_true, not_true_eq_false, nI_1, nI_add, Value.category, Nat.reduceAdd, Nat.reduceMod, Nat.reduceLeDiff, Nat.reduceLT, Nat.reduceEqDiff, Nat.reducePow, Nat.le_refl, Nat.add_left_cancel_iff, Nat.add_eq_left, Nat.left_eq_add, Nat.add_zero]
  exact loop n 0 [] s1 h2 gm_u gm_u (by omega) rfl R2 hF2 st2 lp2
end Y3
