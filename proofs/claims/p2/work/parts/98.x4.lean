/-! THE CLASS, 4: references, texts, questions about objects. -/
section X4
variable {E : Nat → Value} {d x : Nat} {h : gm_H} {ca : Nat → Nat} {K : gs_K} {F G : Nat → Prop} {s : gs_S}
theorem gs_ent_ok {e : Nat} {s1 : gs_S} (w : gs_ent K s = .ok (e, s1)) (hf : gs_f1 s ≤ (gs_hs s).length) (hs : (gs_hs s).length ≤ 234) : e < (gs_hs s1).length ∧ s1 = gs_p (gs_pl s + 4) s := by
  unfold gs_ent gs_u4 gs_b at w
  unfold gs_nxt at w
  by_cases hc : gs_n K - gs_pl s < 4
  · simp [hc] at w
  · simp only [hc, if_false, gs_r] at w
    split at w
    · cases w
    · rename_i h1
      split at w
      · cases w
      · rename_i h2
        cases w
        refine ⟨?_, rfl⟩
        obtain ⟨m, hm, e⟩ := nI_of h1
        rw [e] at h2 ⊢
        rw [nI_clamp hm]
        have e2 : gs_size (gs_p (gs_pl s + 4) s) = gs_size s := rfl
        have e3 : gs_hs (gs_p (gs_pl s + 4) s) = gs_hs s := rfl
        have e4 : gs_f1 (gs_p (gs_pl s + 4) s) = gs_f1 s := rfl
        rw [e2, nI_leI (by unfold gs_size; omega) hm] at h2
        rw [e3, e4]
        unfold gs_size at h2
        omega
theorem x_readReference (hd : 4 ≤ d) (R : gx_R E h x ca K F s) : gm_Ca E d 84 [.ref x] h (gx_P E h x ca K F G s (fun a h' v => v = some (.int a) ∧ gx_nal h h') (gs_ref K s)) := by
  show gm_W E d 84 0 [.ref x, gm_u] [] h _
  obtain ⟨A0, -, -, -, A10, -, -, -, -, -, -, A4, A40, -⟩ := R.1
  obtain ⟨-, -, -, -, z5, z6, z7, z8, -⟩ := R.2.2.2.1
  simp only [r84_0, r84_0n, r84_1, r84_4, r84_7, r84_7n, r84_11, r84_12, r84_13, r84_14, r84_15, r84_18, r84_18n, r84_19, r84_24, r84_27, r84_28, i32_10, reduceIte, gm_cmp1, gm_cmp3, gm_cmp4, gm_kd_sf, gm_ln_sf, gm_sf_1, gm_sf_2, gm_nw_1, gm_nw_2, gm_k_int, gm_k_ref, gm_k_null, gm_k_u, gm_k_long, and_true, true_and, true_or, or_true, or_false, false_or, and_self, or_self, if_true, if_false, List.map_nil, List.map_cons, List.sum_nil, List.sum_cons, Nat.zero_le, Option.toList_some, Option.toList_none, List.cons_append, List.nil_append, ne_eq, not_false_eq_true, not_true_eq_false, nI_1, nI_add, Value.category, Nat.reduceAdd, Nat.reduceMod, Nat.reduceLeDiff, Nat.reduceLT, Nat.reduceEqDiff, Nat.reducePow, Nat.le_refl, Nat.add_left_cancel_iff, Nat.add_eq_left, Nat.left_eq_add, Nat.add_zero, A0, A10, A4, A40]
  refine c84_8 (by simp [Value.category]) A0 (by omega) (x_nextEntry (by omega) R) (fun v h1 q => ?_) (fun _ _ q => q.ber)
  obtain ⟨e, s1, w, ⟨rfl, na⟩, R1, mv, le, co⟩ := q
  refine gm_W.mono ?_ (fun r h' q => gx_P.bnd q w mv le co)
  obtain ⟨he, -⟩ := gs_ent_ok w z7 z8
  obtain ⟨A0, -, -, -, A10, -, -, -, -, -, -, A4, A40, A41, A5, A5l, -⟩ := R1.1
  obtain ⟨-, -, -, -, z5, z6, z7, z8, -⟩ := R1.2.2.2.1
  obtain ⟨H1, H2⟩ := R1.2.2.2.2.2.1 e _ (List.getElem?_eq_getElem he)
  have he2 : e < 234 := by omega
  have eg : (gs_hs s1).getD e (-1, []) = (gs_hs s1)[e] := by simp [List.getD, he]
  simp only [r84_0, r84_0n, r84_1, r84_4, r84_7, r84_7n, r84_11, r84_12, r84_13, r84_14, r84_15, r84_18, r84_18n, r84_19, r84_24, r84_27, r84_28, i32_10, reduceIte, gm_cmp1, gm_cmp3, gm_cmp4, gm_kd_sf, gm_ln_sf, gm_sf_1, gm_sf_2, gm_nw_1, gm_nw_2, gm_k_int, gm_k_ref, gm_k_null, gm_k_u, gm_k_long, and_true, true_and, true_or, or_true, or_false, false_or, and_self, or_self, if_true, if_false, List.map_nil, List.map_cons, List.sum_nil, List.sum_cons, Nat.zero_le, Option.toList_some, Option.toList_none, List.cons_append, List.nil_append, ne_eq, not_false_eq_true, not_true_eq_false, nI_1, nI_add, Value.category, Nat.reduceAdd, Nat.reduceMod, Nat.reduceLeDiff, Nat.reduceLT, Nat.reduceEqDiff, Nat.reducePow, Nat.le_refl, Nat.add_left_cancel_iff, Nat.add_eq_left, Nat.left_eq_add, Nat.add_zero, A5, A5l, he2, H1, eg]
  by_cases hv : (gs_hs s1)[e].1 = -1
  · simp only [hv, if_true]
    exact c84_21 (by simp) A0 (by omega) (x_fail R1) gx_fn (fun _ _ q => q)
  · simp only [hv, if_false]
    exact ⟨_, s1, rfl, ⟨rfl, na⟩, R1, gx_mv.refl, gx_le.refl, gx_co.refl⟩
theorem gs_nxt_ok {k : Nat} {v : Int64} {s1 : gs_S} (w : gs_nxt K k s = .ok (v, s1)) : gs_pl s + k ≤ gs_n K ∨ gs_n K < gs_pl s ∧ k = 0 := by
  unfold gs_nxt at w
  split at w
  · cases w
  · omega
theorem gs_nxt_eq {k : Nat} {v : Int64} {s1 : gs_S} (w : gs_nxt K k s = .ok (v, s1)) : v = gs_num K (gs_pl s) k ∧ s1 = gs_p (gs_pl s + k) s := by
  unfold gs_nxt at w
  split at w
  · cases w
  · cases w; exact ⟨rfl, rfl⟩
theorem gs_sgn_ok : ∀ (k : Nat) {s s1 : gs_S} {u : Unit}, gs_sgn K k s = .ok (u, s1) → s1 = gs_p (gs_pl s + k) s ∧ (gs_pl s ≤ gs_n K → gs_pl s + k ≤ gs_n K)
  | 0, s, s1, u, w => by
    cases w
    exact ⟨rfl, fun z => z⟩
  | k + 1, s, s1, u, w => by
    unfold gs_sgn at w
    split at w
    · cases w
    · split at w
      · cases w
      · obtain ⟨e1, e2⟩ := gs_sgn_ok k w
        have e3 : gs_pl (gs_p (gs_pl s + 1) s) = gs_pl s + 1 := rfl
        rw [e3] at e1 e2
        refine ⟨?_, fun _ => by have := e2 (by omega); omega⟩
        rw [e1]
        show (_, s.2) = (_, s.2)
        rw [Nat.add_assoc, Nat.add_comm 1 k]
theorem gs_utf_ok {a : Nat} {s1 : gs_S} (w : gs_utf K s = .ok (a, s1)) (hp : gs_pl s ≤ gs_n K) : a = gs_pl s + 2 ∧ a ≤ gs_pl s1 ∧ gs_pl s1 ≤ gs_n K ∧ s1 = gs_p (gs_pl s1) s := by
  unfold gs_utf gs_b at w
  cases e : gs_nxt K 2 s with
  | error f => rw [e] at w; cases w
  | ok q =>
    obtain ⟨v, s2⟩ := q
    rw [e] at w
    obtain ⟨e1, rfl⟩ := gs_nxt_eq e
    have e0 := gs_nxt_ok e
    dsimp only [gs_g] at w
    cases e2 : gs_sgn K v.toInt32.toNatClampNeg (gs_p (gs_pl s + 2) s) with
    | error f => rw [e2] at w; cases w
    | ok q =>
      obtain ⟨u, s3⟩ := q
      rw [e2] at w
      cases w
      obtain ⟨e3, e4⟩ := gs_sgn_ok _ e2
      have e5 : gs_pl (gs_p (gs_pl s + 2) s) = gs_pl s + 2 := rfl
      rw [e5] at e3 e4
      have e6 := e4 (by omega)
      rw [e3]
      exact ⟨rfl, by show gs_pl s + 2 ≤ gs_pl s + 2 + _; omega, by show gs_pl s + 2 + _ ≤ _; omega, rfl⟩
theorem gs_addE_ok {v : Int32} {e : Nat} {s1 : gs_S} (w : gs_addE v s = .ok (e, s1)) : e = (gs_hs s).length ∧ s1 = (s.1, s.2.1, gs_hs s ++ [(v, [])], gs_f1 s) := by
  unfold gs_addE at w
  split at w
  · cases w
  · cases w; exact ⟨rfl, rfl⟩
theorem gs_addT_ok {o : gs_O} {e : Nat} {s1 : gs_S} (w : gs_addT o s = .ok (e, s1)) : e = (gs_hp s).length ∧ s1 = (s.1, gs_hp s ++ [o], s.2.2) := by
  unfold gs_addT at w
  split at w
  · cases w
  · cases w; exact ⟨rfl, rfl⟩
theorem x_readText (hd : 3 ≤ d) (R : gx_R E h x ca K F s) (hF : ∀ a, F a → a < h.1) : gm_Ca E d 85 [.ref x] h (gx_P E h x ca K F G s (fun a _ v => v = some (.int a)) (gs_text K s)) := by
  show gm_W E d 85 0 [.ref x, gm_u, gm_u, gm_u, gm_u] [] h _
  simp only [r85_0, r85_0n, r85_1, r85_5, r85_6, r85_6n, r85_10, r85_11, r85_14, r85_14i, r85_15, r85_16, r85_17, r85_17n, r85_18, r85_21, r85_22, r85_26, r85_26n, r85_27, r85_28, r85_30, r85_32, r85_32n, r85_33, r85_36, r85_37, r85_40, r85_40n, r85_41, r85_44, r85_46, r85_46n, r85_47, r85_50, r85_51, r85_53, r85_54, r85_55, r85_56, r85_57, r85_60, r85_63, r85_63n, r85_64, r85_67, r85_70, r85_71, r85_71n, r85_72, r85_72n, r85_76, r85_77, r85_77n, r85_78, r85_81, r85_84, r85_85, r85_86, i32_10, reduceIte, gm_cmp1, gm_cmp3, gm_cmp4, gm_kd_sf, gm_ln_sf, gm_sf_1, gm_sf_2, gm_nw_1, gm_nw_2, gm_k_int, gm_k_ref, gm_k_null, gm_k_u, gm_k_long, and_true, true_and, true_or, or_true, or_false, false_or, and_self, or_self, if_true, if_false, List.map_nil, List.map_cons, List.sum_nil, List.sum_cons, Nat.zero_le, Option.toList_some, Option.toList_none, List.cons_append, List.nil_append, ne_eq, not_false_eq_true, not_true_eq_false, nI_1, nI_add, Value.category, Nat.reduceAdd, Nat.reduceMod, Nat.reduceLeDiff, Nat.reduceLT, Nat.reduceEqDiff, Nat.reducePow, Nat.le_refl, Nat.add_left_cancel_iff, Nat.add_eq_left, Nat.left_eq_add, Nat.add_zero]
  refine c85_2 (by simp) R.1.1 (by omega) (x_addEntry (by omega) R) (fun v h1 q => ?_) (fun _ _ q => q.ber)
  obtain ⟨e, s1, w, ⟨rfl, na⟩, R1, mv, le, co⟩ := q
  have st1 : gx_st h s x G h1 s1 := ⟨mv, le, co⟩
  unfold gs_text
  rw [gs_b_ok w]
  obtain ⟨rfl, es1⟩ := gs_addE_ok w
  simp only [r85_0, r85_0n, r85_1, r85_5, r85_6, r85_6n, r85_10, r85_11, r85_14, r85_14i, r85_15, r85_16, r85_17, r85_17n, r85_18, r85_21, r85_22, r85_26, r85_26n, r85_27, r85_28, r85_30, r85_32, r85_32n, r85_33, r85_36, r85_37, r85_40, r85_40n, r85_41, r85_44, r85_46, r85_46n, r85_47, r85_50, r85_51, r85_53, r85_54, r85_55, r85_56, r85_57, r85_60, r85_63, r85_63n, r85_64, r85_67, r85_70, r85_71, r85_71n, r85_72, r85_72n, r85_76, r85_77, r85_77n, r85_78, r85_81, r85_84, r85_85, r85_86, i32_10, reduceIte, gm_cmp1, gm_cmp3, gm_cmp4, gm_kd_sf, gm_ln_sf, gm_sf_1, gm_sf_2, gm_nw_1, gm_nw_2, gm_k_int, gm_k_ref, gm_k_null, gm_k_u, gm_k_long, and_true, true_and, true_or, or_true, or_false, false_or, and_self, or_self, if_true, if_false, List.map_nil, List.map_cons, List.sum_nil, List.sum_cons, Nat.zero_le, Option.toList_some, Option.toList_none, List.cons_append, List.nil_append, ne_eq, not_false_eq_true, not_true_eq_false, nI_1, nI_add, Value.category, Nat.reduceAdd, Nat.reduceMod, Nat.reduceLeDiff, Nat.reduceLT, Nat.reduceEqDiff, Nat.reducePow, Nat.le_refl, Nat.add_left_cancel_iff, Nat.add_eq_left, Nat.left_eq_add, Nat.add_zero]
  refine c85_7 (by simp) R1.1.1 (by omega) (x_passUtf (by omega) R1) (fun v h2 q => ?_) (fun _ _ q => q.ber.frm st1)
  obtain ⟨a, s2, w2, ⟨rfl, na2⟩, R2, mv2, le2, co2⟩ := q
  have st2 := st1.trans mv2 le2 co2 (fun _ z => Or.inr z)
  rw [gs_b_ok w2, gs_b_ok (m := gs_g) rfl]
  obtain ⟨u1, u2, u3, u4⟩ := gs_utf_ok w2 R1.2.2.2.1.2.1
  have e2 : gs_hs s2 = gs_hs s1 := by rw [u4]; rfl
  have hl : (gs_hs s).length < (gs_hs s2).length := by rw [e2, es1]; simp [gs_hs]
  have h2F : ∀ a, F a → a < h2.1 := fun a z => Nat.lt_of_lt_of_le (hF a z) st2.1.1.1
  have hn7 := R2.2.1.2.2.2.2.2.1
  have ht2 := R2.top
  obtain ⟨n, hn⟩ : ∃ n, n = gs_pl s2 - a := ⟨_, rfl⟩
  have hn1 : n < 1000 := by omega
  rw [← hn]
  have Rn : gx_R E (gm_nw h2 (4, [.int 0, .null, .null, .int 0, .int 0]) 5) x ca K F s2 := R2.new
  simp only [r85_0, r85_0n, r85_1, r85_5, r85_6, r85_6n, r85_10, r85_11, r85_14, r85_14i, r85_15, r85_16, r85_17, r85_17n, r85_18, r85_21, r85_22, r85_26, r85_26n, r85_27, r85_28, r85_30, r85_32, r85_32n, r85_33, r85_36, r85_37, r85_40, r85_40n, r85_41, r85_44, r85_46, r85_46n, r85_47, r85_50, r85_51, r85_53, r85_54, r85_55, r85_56, r85_57, r85_60, r85_63, r85_63n, r85_64, r85_67, r85_70, r85_71, r85_71n, r85_72, r85_72n, r85_76, r85_77, r85_77n, r85_78, r85_81, r85_84, r85_85, r85_86, i32_10, reduceIte, gm_cmp1, gm_cmp3, gm_cmp4, gm_kd_sf, gm_ln_sf, gm_sf_1, gm_sf_2, gm_nw_1, gm_nw_2, gm_k_int, gm_k_ref, gm_k_null, gm_k_u, gm_k_long, and_true, true_and, true_or, or_true, or_false, false_or, and_self, or_self, if_true, if_false, List.map_nil, List.map_cons, List.sum_nil, List.sum_cons, Nat.zero_le, Option.toList_some, Option.toList_none, List.cons_append, List.nil_append, ne_eq, not_false_eq_true, not_true_eq_false, nI_1, nI_add, Value.category, Nat.reduceAdd, Nat.reduceMod, Nat.reduceLeDiff, Nat.reduceLT, Nat.reduceEqDiff, Nat.reducePow, Nat.le_refl, Nat.add_left_cancel_iff, Nat.add_eq_left, Nat.left_eq_add, Nat.add_zero, Rn.1.1, Rn.2.2.2.1.1, nI_sub u2, ← hn]
  refine c85_23 (by simp [Value.category]) (by simp [gm_en1]) (by omega) (x_Thing (h := h2) (ca := ca) (o := none) hn1) (gx_kn ?_) gx_kx
  generalize h3e : gx_mk (gx_n1 h2) h2.1 1 (gx_ow ca none) n = h3
  have r3 : ∀ b, b < h2.1 → gm_rd h3 b = gm_rd h2 b := by rw [← h3e]; exact gx_mk_rd
  have t3 : gx_th h3 ca (1, none, List.replicate n 0, 0, 0) h2.1 := by rw [← h3e]; exact gx_mk_th hn1
  have c3 : h3.1 = h2.1 + 2 ∧ h3.2.1 = h2.2.1 + 5 + n := by rw [← h3e]; exact gx_mk_1
  clear h3e
  have loop : ∀ (m k : Nat) (hk : gm_H), k + m = n → hk.1 = h3.1 ∧ hk.2.1 = h3.2.1 → (∀ b, b ≠ h2.1 + 1 → gm_rd hk b = gm_rd h3 b) → gm_kd hk (h2.1 + 1) = 101 → gm_ln hk (h2.1 + 1) = n → (∀ j, j < k → gm_fv hk (h2.1 + 1) j = .long (gs_sb K (a + j)).toInt64) →
      gm_W E d 85 30 [.ref x, .int (nI (gs_hs s).length), .int (nI a), .ref h2.1, .int (nI k)] [] hk (gx_P E h x ca K F G s (fun a _ v => v = some (.int a)) (gs_b (gs_addT (1, none, (List.range n).map (fun k => (gs_sb K (a + k)).toInt64), 0, 0)) (fun o => gs_b (gs_setE (gs_hs s).length (nI o)) fun _ => gs_r (nI o)) s2)) := by
    intro m
    induction m with
    | zero =>
      intro k hk e1 e2 e3 e4 e5 e6
      have e1 : k = n := by omega
      subst e1
      have rk : ∀ b, b < h2.1 → gm_rd hk b = gm_rd h2 b := fun b hb => (e3 b (by omega)).trans (r3 b hb)
      have Rk : gx_R E hk x ca K F s2 := R2.far (by omega) rk
      have tk : gx_th hk ca (1, none, (List.range k).map (fun k => (gs_sb K (a + k)).toInt64), 0, 0) h2.1 := by
        have et := e3 h2.1 (by omega)
        obtain ⟨q1, q2, q3, q4, q5, q6, -⟩ := t3
        refine ⟨(gv_kd et).trans q1, (gv_fv et).trans q2, (gv_fv et).trans q3, (gv_fv et).trans q4, (gv_fv et).trans q5, (gv_fv et).trans q6, e4, by simpa using e5, by simpa using hn1, fun j v hj => ?_⟩
        have hjk : j < k := by have := (List.getElem?_eq_some_iff.mp hj).1; simpa using this
        simp [List.getElem?_range hjk] at hj
        rw [e6 j hjk, hj]
      have stk : gx_mv h hk x G s := st2.1.trans (G1 := G) (gx_mv.far ht2 (by omega) rk) st2.2.1 (fun _ z => Or.inr z)
      have hok : gx_ok hk x F h2.1 ∧ gx_ok hk x F (h2.1 + 1) := ⟨⟨Or.inr ht2, by omega, fun z => by have := h2F _ z; omega⟩, ⟨Or.inr (by omega), by omega, fun z => by have := h2F _ z; omega⟩⟩
      have hbt : ∀ i u, i < (gs_hp s2).length → gm_fv hk (x + 3) i = .ref u → u + 1 < h2.1 := by
        intro i u hi hu
        obtain ⟨ta, T⟩ := R2.2.2.2.2.1
        obtain ⟨b1, b2, -⟩ := T.2 i _ (List.getElem?_eq_getElem hi)
        rw [gv_fv (rk (x + 3) (by omega)), b1] at hu
        cases hu
        exact b2.2.2.1
      obtain ⟨A0, -, -, -, A10, -, -, -, -, -, -, A4, A40, -⟩ := Rk.1
      have kt := tk.1
      have ft := tk.2.2.2.1
      simp only [r85_0, r85_0n, r85_1, r85_5, r85_6, r85_6n, r85_10, r85_11, r85_14, r85_14i, r85_15, r85_16, r85_17, r85_17n, r85_18, r85_21, r85_22, r85_26, r85_26n, r85_27, r85_28, r85_30, r85_32, r85_32n, r85_33, r85_36, r85_37, r85_40, r85_40n, r85_41, r85_44, r85_46, r85_46n, r85_47, r85_50, r85_51, r85_53, r85_54, r85_55, r85_56, r85_57, r85_60, r85_63, r85_63n, r85_64, r85_67, r85_70, r85_71, r85_71n, r85_72, r85_72n, r85_76, r85_77, r85_77n, r85_78, r85_81, r85_84, r85_85, r85_86, i32_10, reduceIte, gm_cmp1, gm_cmp3, gm_cmp4, gm_kd_sf, gm_ln_sf, gm_sf_1, gm_sf_2, gm_nw_1, gm_nw_2, gm_k_int, gm_k_ref, gm_k_null, gm_k_u, gm_k_long, and_true, true_and, true_or, or_true, or_false, false_or, and_self, or_self, if_true, if_false, List.map_nil, List.map_cons, List.sum_nil, List.sum_cons, Nat.zero_le, Option.toList_some, Option.toList_none, List.cons_append, List.nil_append, ne_eq, not_false_eq_true, not_true_eq_false, nI_1, nI_add, Value.category, Nat.reduceAdd, Nat.reduceMod, Nat.reduceLeDiff, Nat.reduceLT, Nat.reduceEqDiff, Nat.reducePow, Nat.le_refl, Nat.add_left_cancel_iff, Nat.add_eq_left, Nat.left_eq_add, Nat.add_zero, kt, ft, e4, e5, nI_leT (Nat.le_refl k) (show k < 2 ^ 31 by omega), A0, A10, A4, A40]
      refine c85_73 (by simp [Value.category]) (by simp [gm_en1]) A0 (by omega) (x_addThing (G := G) (by omega) Rk (fun c e => by cases e) tk hok hbt) (fun v h4 q => ?_) (fun v h4 q => ?_)
      · obtain ⟨o, s4, w4, ⟨⟨rfl, na4⟩, -⟩, R4, mv4, le4, co4⟩ := q
        rw [gs_b_ok w4]
        obtain ⟨rfl, es4⟩ := gs_addT_ok w4
        obtain ⟨A0, -, -, -, A10, -, -, -, -, -, -, A4, A40, -, A5, A5l, -⟩ := R4.1
        have hs4 : gs_hs s4 = gs_hs s2 := by rw [es4]; rfl
        have hl4 : (gs_hs s).length < (gs_hs s4).length := by rw [hs4]; exact hl
        have h234 := R4.2.2.2.1.2.2.2.2.2.2.2.1
        have he2 : (gs_hs s).length < 234 := by omega
        have n05 : x ≠ x + 5 := by omega
        have n45 : x + 4 ≠ x + 5 := by omega
        have e55 : gm_fv (gm_sf h4 (x + 5) (gs_hs s).length (.int (nI (gs_hp s2).length))) (x + 5) (gs_hs s).length = .int (nI (gs_hp s2).length) := gm_fv_sf (by omega)
        simp only [r85_0, r85_0n, r85_1, r85_5, r85_6, r85_6n, r85_10, r85_11, r85_14, r85_14i, r85_15, r85_16, r85_17, r85_17n, r85_18, r85_21, r85_22, r85_26, r85_26n, r85_27, r85_28, r85_30, r85_32, r85_32n, r85_33, r85_36, r85_37, r85_40, r85_40n, r85_41, r85_44, r85_46, r85_46n, r85_47, r85_50, r85_51, r85_53, r85_54, r85_55, r85_56, r85_57, r85_60, r85_63, r85_63n, r85_64, r85_67, r85_70, r85_71, r85_71n, r85_72, r85_72n, r85_76, r85_77, r85_77n, r85_78, r85_81, r85_84, r85_85, r85_86, i32_10, reduceIte, gm_cmp1, gm_cmp3, gm_cmp4, gm_kd_sf, gm_ln_sf, gm_sf_1, gm_sf_2, gm_nw_1, gm_nw_2, gm_k_int, gm_k_ref, gm_k_null, gm_k_u, gm_k_long, and_true, true_and, true_or, or_true, or_false, false_or, and_self, or_self, if_true, if_false, List.map_nil, List.map_cons, List.sum_nil, List.sum_cons, Nat.zero_le, Option.toList_some, Option.toList_none, List.cons_append, List.nil_append, ne_eq, not_false_eq_true, not_true_eq_false, nI_1, nI_add, Value.category, Nat.reduceAdd, Nat.reduceMod, Nat.reduceLeDiff, Nat.reduceLT, Nat.reduceEqDiff, Nat.reducePow, Nat.le_refl, Nat.add_left_cancel_iff, Nat.add_eq_left, Nat.left_eq_add, Nat.add_zero, A5, A5l, he2, gm_fv_sfa n05, gm_fv_sfa n45, A0, A10, A4, A40, e55]
        refine ⟨_, _, rfl, rfl, R4.setE hl4, (stk.trans mv4 st2.2.1 (fun _ z => Or.inr z)).tr (gx_mv.obj (Nat.le_refl _)), ?_, ?_⟩
        · refine st2.2.1.trans (le4.trans ⟨Nat.le_refl _, ?_⟩)
          simp [gs_hs]
        · have hp4 : gs_pl s4 = gs_pl s2 := by rw [es4]; rfl
          have p1 : gs_pl s1 = gs_pl s := by rw [es1]; rfl
          have m1 := (na.trans na2).1
          have m2 := (na.trans na2).2
          have m3 := na4.1
          have m4 := na4.2
          unfold gx_co
          simp only [gm_sf_1, gm_sf_2]
          show h4.1 + gs_pl s ≤ h.1 + gs_pl s4 ∧ h4.2.1 + 8 * gs_pl s ≤ h.2.1 + 8 * gs_pl s4
          omega
      · obtain ⟨f, w4, E4, mv4, cx4⟩ := q
        refine ⟨f, gs_b_er w4, E4, stk.trans mv4 st2.2.1 (fun _ z => Or.inr z), ?_⟩
        have m1 := (na.trans na2).1
        have m2 := (na.trans na2).2
        have p1 : gs_pl s1 = gs_pl s := by rw [es1]; rfl
        have m3 := cx4.1
        have m4 := cx4.2
        unfold gx_cx
        omega
    | succ m ih =>
      intro k hk e1 e2 e3 e4 e5 e6
      have rk : ∀ b, b < h2.1 → gm_rd hk b = gm_rd h2 b := fun b hb => (e3 b (by omega)).trans (r3 b hb)
      have Rk : gx_R E hk x ca K F s2 := R2.far (by omega) rk
      have et := e3 h2.1 (by omega)
      have kt := (gv_kd et).trans t3.1
      have ft := (gv_fv (j := 2) et).trans t3.2.2.2.1
      obtain ⟨A0, -, A5, -, A10, -, -, A2, A2l, -⟩ := Rk.1
      have hak : a + k < gs_n K := by omega
      have hak7 : a + k < 700 := by omega
      have hkn : k < n := by omega
      have hn31 : n < 2147483648 := by omega
      have B8 := Rk.2.1.2.2.2.2.2.2 _ hak
      rw [r85_30]
      simp only [r85_0, r85_0n, r85_1, r85_5, r85_6, r85_6n, r85_10, r85_11, r85_14, r85_14i, r85_15, r85_16, r85_17, r85_17n, r85_18, r85_21, r85_22, r85_26, r85_26n, r85_27, r85_28, r85_32, r85_32n, r85_33, r85_36, r85_37, r85_40, r85_40n, r85_41, r85_44, r85_46, r85_46n, r85_47, r85_50, r85_51, r85_53, r85_54, r85_55, r85_56, r85_57, r85_60, r85_63, r85_63n, r85_64, r85_67, r85_70, r85_71, r85_71n, r85_72, r85_72n, r85_76, r85_77, r85_77n, r85_78, r85_81, r85_84, r85_85, r85_86, i32_10, reduceIte, gm_cmp1, gm_cmp3, gm_cmp4, gm_kd_sf, gm_ln_sf, gm_sf_1, gm_sf_2, gm_nw_1, gm_nw_2, gm_k_int, gm_k_ref, gm_k_null, gm_k_u, gm_k_long, and_true, true_and, true_or, or_true, or_false, false_or, and_self, or_self, if_true, if_false, List.map_nil, List.map_cons, List.sum_nil, List.sum_cons, Nat.zero_le, Option.toList_some, Option.toList_none, List.cons_append, List.nil_append, ne_eq, not_false_eq_true, not_true_eq_false, nI_1, nI_add, Value.category, Nat.reduceAdd, Nat.reduceMod, Nat.reduceLeDiff, Nat.reduceLT, Nat.reduceEqDiff, Nat.reducePow, Nat.le_refl, Nat.add_left_cancel_iff, Nat.add_eq_left, Nat.left_eq_add, Nat.add_zero, kt, ft, e4, e5, nI_leF hkn (show n < 2 ^ 31 by omega), A0, A5, A2, A2l, hak7, B8, hkn, hn31]
      refine ih (k + 1) _ (by omega) ⟨by simp only [gm_sf_1]; exact e2.1, by simp only [gm_sf_2]; exact e2.2⟩ (fun b hb => by rw [gm_rd_sfn hb]; exact e3 b hb) (by simp only [gm_kd_sf]; exact e4) (by simp only [gm_ln_sf]; exact e5) (fun j hj => ?_)
      by_cases hjk : j = k
      · subst hjk
        exact gm_fv_sf (by omega)
      · rw [gm_fv_sfj hjk]
        exact e6 j (by omega)
  simp only [r85_0, r85_0n, r85_1, r85_5, r85_6, r85_6n, r85_10, r85_11, r85_14, r85_14i, r85_15, r85_16, r85_17, r85_17n, r85_18, r85_21, r85_22, r85_26, r85_26n, r85_27, r85_28, r85_32, r85_32n, r85_33, r85_36, r85_37, r85_40, r85_40n, r85_41, r85_44, r85_46, r85_46n, r85_47, r85_50, r85_51, r85_53, r85_54, r85_55, r85_56, r85_57, r85_60, r85_63, r85_63n, r85_64, r85_67, r85_70, r85_71, r85_71n, r85_72, r85_72n, r85_76, r85_77, r85_77n, r85_78, r85_81, r85_84, r85_85, r85_86, i32_10, reduceIte, gm_cmp1, gm_cmp3, gm_cmp4, gm_kd_sf, gm_ln_sf, gm_sf_1, gm_sf_2, gm_nw_1, gm_nw_2, gm_k_int, gm_k_ref, gm_k_null, gm_k_u, gm_k_long, and_true, true_and, true_or, or_true, or_false, false_or, and_self, or_self, if_true, if_false, List.map_nil, List.map_cons, List.sum_nil, List.sum_cons, Nat.zero_le, Option.toList_some, Option.toList_none, List.cons_append, List.nil_append, ne_eq, not_false_eq_true, not_true_eq_false, nI_1, nI_add, Value.category, Nat.reduceAdd, Nat.reduceMod, Nat.reduceLeDiff, Nat.reduceLT, Nat.reduceEqDiff, Nat.reducePow, Nat.le_refl, Nat.add_left_cancel_iff, Nat.add_eq_left, Nat.left_eq_add, Nat.add_zero]
  have t3' := t3
  obtain ⟨q1, q2, q3, q4, q5, q6, q7, q8, q9, q10⟩ := t3'
  exact loop n 0 h3 (by omega) ⟨rfl, rfl⟩ (fun _ _ => rfl) q7 (by simpa using q8) (fun j hj => by omega)
end X4
