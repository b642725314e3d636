/-! THE CLASS, 8: its Strings. -/
section X8
variable {E : Nat → Value} {d x : Nat} {h : gm_H} {ca : Nat → Nat} {K : gs_K} {F G : Nat → Prop} {s : gs_S}
theorem nb0 : narrow .byte (.int 0) = .int 0 := rfl
theorem i32_sh0 {v : Int32} : v >>> ((0 : Int32) &&& 31) = v := by
  have : ((0 : Int32) &&& 31) = 0 := by decide
  rw [this]
  simp
theorem x_max (u v : Int32) : gm_Ca E d 124 [.int u, .int v] h (gx_v (some (.int (if u < v then v else u))) h) := by
  show gm_W E d 124 0 [.int u, .int v] [] h _
  simp only [r124_0, r124_1, r124_2, r124_5, r124_6, r124_9, r124_10, i32_10, reduceIte, gm_cmp1, gm_cmp3, gm_cmp4, gm_kd_sf, gm_ln_sf, gm_sf_1, gm_sf_2, gm_nw_1, gm_nw_2, gm_k_int, gm_k_ref, gm_k_null, gm_k_u, gm_k_long, and_true, true_and, true_or, or_true, or_false, false_or, and_self, or_self, if_true, if_false, List.map_nil, List.map_cons, List.sum_nil, List.sum_cons, Nat.zero_le, Option.toList_some, Option.toList_none, List.cons_append, List.nil_append, ne_eq, not_false_eq_true, not_true_eq_false, nI_1, nI_add, Value.category, Nat.reduceAdd, Nat.reduceMod, Nat.reduceLeDiff, Nat.reduceLT, Nat.reduceEqDiff, Nat.reducePow, Nat.le_refl, Nat.add_left_cancel_iff, Nat.add_eq_left, Nat.left_eq_add, Nat.add_zero]
  by_cases h1 : u < v <;> simp [h1, gx_v]
theorem x_min (u v : Int32) : gm_Ca E d 125 [.int u, .int v] h (gx_v (some (.int (if v < u then v else u))) h) := by
  show gm_W E d 125 0 [.int u, .int v] [] h _
  simp only [r125_0, r125_1, r125_2, r125_5, r125_6, r125_9, r125_10, i32_10, reduceIte, gm_cmp1, gm_cmp3, gm_cmp4, gm_kd_sf, gm_ln_sf, gm_sf_1, gm_sf_2, gm_nw_1, gm_nw_2, gm_k_int, gm_k_ref, gm_k_null, gm_k_u, gm_k_long, and_true, true_and, true_or, or_true, or_false, false_or, and_self, or_self, if_true, if_false, List.map_nil, List.map_cons, List.sum_nil, List.sum_cons, Nat.zero_le, Option.toList_some, Option.toList_none, List.cons_append, List.nil_append, ne_eq, not_false_eq_true, not_true_eq_false, nI_1, nI_add, Value.category, Nat.reduceAdd, Nat.reduceMod, Nat.reduceLeDiff, Nat.reduceLT, Nat.reduceEqDiff, Nat.reducePow, Nat.le_refl, Nat.add_left_cancel_iff, Nat.add_eq_left, Nat.left_eq_add, Nat.add_zero]
  by_cases h1 : v < u <;> simp [h1, gx_v]
theorem x_coder {a : Nat} (h5 : E 5 = .int 1) (k : gm_kd h a = 6) (l : gm_ln h a = 2) (f : gm_fv h a 1 = .int 0) : gm_Ca E d 130 [.ref a] h (gx_v (some (.int 0)) h) := by
  show gm_W E d 130 0 [.ref a] [] h _
  have l1 : 1 < 2 := by decide
  simp only [r130_0, r130_3, r130_6, r130_6n, r130_7, r130_10, r130_13, r130_14, i32_10, reduceIte, gm_cmp1, gm_cmp3, gm_cmp4, gm_kd_sf, gm_ln_sf, gm_sf_1, gm_sf_2, gm_nw_1, gm_nw_2, gm_k_int, gm_k_ref, gm_k_null, gm_k_u, gm_k_long, and_true, true_and, true_or, or_true, or_false, false_or, and_self, or_self, if_true, if_false, List.map_nil, List.map_cons, List.sum_nil, List.sum_cons, Nat.zero_le, Option.toList_some, Option.toList_none, List.cons_append, List.nil_append, ne_eq, not_false_eq_true, not_true_eq_false, nI_1, nI_add, Value.category, Nat.reduceAdd, Nat.reduceMod, Nat.reduceLeDiff, Nat.reduceLT, Nat.reduceEqDiff, Nat.reducePow, Nat.le_refl, Nat.add_left_cancel_iff, Nat.add_eq_left, Nat.left_eq_add, Nat.add_zero, h5, k, l, f, l1]
  refine (r130_14 nb0).mpr ?_
  exact ⟨rfl, rfl⟩
theorem x_isLatin1 {a : Nat} (h5 : E 5 = .int 1) (k : gm_kd h a = 6) (l : gm_ln h a = 2) (f : gm_fv h a 1 = .int 0) : gm_Ca E d 131 [.ref a] h (gx_v (some (.int 1)) h) := by
  show gm_W E d 131 0 [.ref a] [] h _
  have l1 : 1 < 2 := by decide
  simp only [r131_0, r131_3, r131_6, r131_6n, r131_7, r131_10, r131_13, r131_14, r131_17, r131_18, i32_10, reduceIte, gm_cmp1, gm_cmp3, gm_cmp4, gm_kd_sf, gm_ln_sf, gm_sf_1, gm_sf_2, gm_nw_1, gm_nw_2, gm_k_int, gm_k_ref, gm_k_null, gm_k_u, gm_k_long, and_true, true_and, true_or, or_true, or_false, false_or, and_self, or_self, if_true, if_false, List.map_nil, List.map_cons, List.sum_nil, List.sum_cons, Nat.zero_le, Option.toList_some, Option.toList_none, List.cons_append, List.nil_append, ne_eq, not_false_eq_true, not_true_eq_false, nI_1, nI_add, Value.category, Nat.reduceAdd, Nat.reduceMod, Nat.reduceLeDiff, Nat.reduceLT, Nat.reduceEqDiff, Nat.reducePow, Nat.le_refl, Nat.add_left_cancel_iff, Nat.add_eq_left, Nat.left_eq_add, Nat.add_zero, h5, k, l, f, l1]
  exact ⟨rfl, rfl⟩
theorem x_length {i a v : Nat} (hd : 1 ≤ d) (h5 : E 5 = .int 1) (k : gm_kd h a = 6) (l : gm_ln h a = 2) (f0 : gm_fv h a 0 = .ref v) (f : gm_fv h a 1 = .int 0) (kv : gm_kd h v = 302) (lv : gm_ln h v = (gx_str i).length) : gm_Ca E d 126 [.ref a] h (gx_v (some (.int (nI (gx_str i).length))) h) := by
  show gm_W E d 126 0 [.ref a] [] h _
  have l0 : 0 < 2 := by decide
  simp only [r126_0, r126_0n, r126_1, r126_4, r126_5, r126_5n, r126_9, r126_10, i32_10, reduceIte, gm_cmp1, gm_cmp3, gm_cmp4, gm_kd_sf, gm_ln_sf, gm_sf_1, gm_sf_2, gm_nw_1, gm_nw_2, gm_k_int, gm_k_ref, gm_k_null, gm_k_u, gm_k_long, and_true, true_and, true_or, or_true, or_false, false_or, and_self, or_self, if_true, if_false, List.map_nil, List.map_cons, List.sum_nil, List.sum_cons, Nat.zero_le, Option.toList_some, Option.toList_none, List.cons_append, List.nil_append, ne_eq, not_false_eq_true, not_true_eq_false, nI_1, nI_add, Value.category, Nat.reduceAdd, Nat.reduceMod, Nat.reduceLeDiff, Nat.reduceLT, Nat.reduceEqDiff, Nat.reducePow, Nat.le_refl, Nat.add_left_cancel_iff, Nat.add_eq_left, Nat.left_eq_add, Nat.add_zero, k, l, l0, f0, kv, lv]
  refine c126_6 (by simp [Value.category]) k hd (x_coder h5 k l f) (gx_kn ?_) gx_kx
  simp only [r126_0, r126_0n, r126_1, r126_4, r126_5, r126_5n, r126_9, r126_10, i32_10, reduceIte, gm_cmp1, gm_cmp3, gm_cmp4, gm_kd_sf, gm_ln_sf, gm_sf_1, gm_sf_2, gm_nw_1, gm_nw_2, gm_k_int, gm_k_ref, gm_k_null, gm_k_u, gm_k_long, and_true, true_and, true_or, or_true, or_false, false_or, and_self, or_self, if_true, if_false, List.map_nil, List.map_cons, List.sum_nil, List.sum_cons, Nat.zero_le, Option.toList_some, Option.toList_none, List.cons_append, List.nil_append, ne_eq, not_false_eq_true, not_true_eq_false, nI_1, nI_add, Value.category, Nat.reduceAdd, Nat.reduceMod, Nat.reduceLeDiff, Nat.reduceLT, Nat.reduceEqDiff, Nat.reducePow, Nat.le_refl, Nat.add_left_cancel_iff, Nat.add_eq_left, Nat.left_eq_add, Nat.add_zero, i32_sh0]
  exact ⟨rfl, rfl⟩
theorem x_checkP {j n : Nat} {w : Value} (hw : w = .null ∨ ∃ z : Nat, w = .ref z) (hj : j < n) (hn : n < 2 ^ 31) : gm_Ca E d 137 [.int (nI j), .int (nI n), w] h (gx_v (some (.int (nI j))) h) := by
  have e : gm_en [.int (nI j), .int (nI n), w] (gm_mL 137) = [.int (nI j), .int (nI n), w] := by
    rcases hw with rfl | ⟨z, rfl⟩ <;> rfl
  unfold gm_Ca
  rw [e]
  simp only [r137_0, r137_1, r137_4, r137_5, r137_6, r137_9, r137_9n, r137_10, r137_11, r137_16, r137_17, i32_10, reduceIte, gm_cmp1, gm_cmp3, gm_cmp4, gm_kd_sf, gm_ln_sf, gm_sf_1, gm_sf_2, gm_nw_1, gm_nw_2, gm_k_int, gm_k_ref, gm_k_null, gm_k_u, gm_k_long, and_true, true_and, true_or, or_true, or_false, false_or, and_self, or_self, if_true, if_false, List.map_nil, List.map_cons, List.sum_nil, List.sum_cons, Nat.zero_le, Option.toList_some, Option.toList_none, List.cons_append, List.nil_append, ne_eq, not_false_eq_true, not_true_eq_false, nI_1, nI_add, Value.category, Nat.reduceAdd, Nat.reduceMod, Nat.reduceLeDiff, Nat.reduceLT, Nat.reduceEqDiff, Nat.reducePow, Nat.le_refl, Nat.add_left_cancel_iff, Nat.add_eq_left, Nat.left_eq_add, Nat.add_zero, nI_pos (show j < 2 ^ 31 by omega), nI_ltT hj hn]
  exact ⟨rfl, rfl⟩
theorem x_checkS {j n : Nat} (hd : 1 ≤ d) (h1 : E 1 = .null ∨ ∃ z : Nat, E 1 = .ref z) (hj : j < n) (hn : n < 2 ^ 31) : gm_Ca E d 132 [.int (nI j), .int (nI n)] h (gx_v none h) := by
  show gm_W E d 132 0 [.int (nI j), .int (nI n)] [] h _
  simp only [r132_0, r132_1, r132_2, r132_8, r132_8a, r132_8n, r132_9, i32_10, reduceIte, gm_cmp1, gm_cmp3, gm_cmp4, gm_kd_sf, gm_ln_sf, gm_sf_1, gm_sf_2, gm_nw_1, gm_nw_2, gm_k_int, gm_k_ref, gm_k_null, gm_k_u, gm_k_long, and_true, true_and, true_or, or_true, or_false, false_or, and_self, or_self, if_true, if_false, List.map_nil, List.map_cons, List.sum_nil, List.sum_cons, Nat.zero_le, Option.toList_some, Option.toList_none, List.cons_append, List.nil_append, ne_eq, not_false_eq_true, not_true_eq_false, nI_1, nI_add, Value.category, Nat.reduceAdd, Nat.reduceMod, Nat.reduceLeDiff, Nat.reduceLT, Nat.reduceEqDiff, Nat.reducePow, Nat.le_refl, Nat.add_left_cancel_iff, Nat.add_eq_left, Nat.left_eq_add, Nat.add_zero]
  refine c132_5 (by simp) (by rcases h1 with e | ⟨z, e⟩ <;> rw [e] <;> simp [gm_en1]) hd (x_checkP h1 hj hn) (gx_kn ?_) gx_kx
  simp only [r132_0, r132_1, r132_2, r132_8, r132_8a, r132_8n, r132_9, i32_10, reduceIte, gm_cmp1, gm_cmp3, gm_cmp4, gm_kd_sf, gm_ln_sf, gm_sf_1, gm_sf_2, gm_nw_1, gm_nw_2, gm_k_int, gm_k_ref, gm_k_null, gm_k_u, gm_k_long, and_true, true_and, true_or, or_true, or_false, false_or, and_self, or_self, if_true, if_false, List.map_nil, List.map_cons, List.sum_nil, List.sum_cons, Nat.zero_le, Option.toList_some, Option.toList_none, List.cons_append, List.nil_append, ne_eq, not_false_eq_true, not_true_eq_false, nI_1, nI_add, Value.category, Nat.reduceAdd, Nat.reduceMod, Nat.reduceLeDiff, Nat.reduceLT, Nat.reduceEqDiff, Nat.reducePow, Nat.le_refl, Nat.add_left_cancel_iff, Nat.add_eq_left, Nat.left_eq_add, Nat.add_zero]
  exact ⟨rfl, rfl⟩
theorem ch_ok : ∀ i, i < 3 → ∀ j, j < (gx_str i).length → (((gx_str i).getD j 0 &&& 255).toUInt32 % 65536).toInt32 = (gx_str i).getD j 0 ∧ narrow .char (.int ((gx_str i).getD j 0)) = .int ((gx_str i).getD j 0) := by decide +kernel
theorem x_charAtL {i j v : Nat} (hd : 2 ≤ d) (hi : i < 3) (h1 : E 1 = .null ∨ ∃ z : Nat, E 1 = .ref z) (kv : gm_kd h v = 302) (lv : gm_ln h v = (gx_str i).length) (hj : j < (gx_str i).length) (fv : gm_fv h v j = .int ((gx_str i).getD j 0)) : gm_Ca E d 133 [.ref v, .int (nI j)] h (gx_v (some (.int ((gx_str i).getD j 0))) h) := by
  show gm_W E d 133 0 [.ref v, .int (nI j)] [] h _
  have ll : (gx_str i).length < 2 ^ 31 := by
    rcases (show i = 0 ∨ i = 1 ∨ i = 2 by omega) with rfl | rfl | rfl <;> decide
  have ll2 : (gx_str i).length < 2147483648 := ll
  simp only [r133_0, r133_1, r133_1n, r133_2, r133_6, r133_6n, r133_7, r133_8, r133_9, r133_12, r133_13, r133_14, i32_10, reduceIte, gm_cmp1, gm_cmp3, gm_cmp4, gm_kd_sf, gm_ln_sf, gm_sf_1, gm_sf_2, gm_nw_1, gm_nw_2, gm_k_int, gm_k_ref, gm_k_null, gm_k_u, gm_k_long, and_true, true_and, true_or, or_true, or_false, false_or, and_self, or_self, if_true, if_false, List.map_nil, List.map_cons, List.sum_nil, List.sum_cons, Nat.zero_le, Option.toList_some, Option.toList_none, List.cons_append, List.nil_append, ne_eq, not_false_eq_true, not_true_eq_false, nI_1, nI_add, Value.category, Nat.reduceAdd, Nat.reduceMod, Nat.reduceLeDiff, Nat.reduceLT, Nat.reduceEqDiff, Nat.reducePow, Nat.le_refl, Nat.add_left_cancel_iff, Nat.add_eq_left, Nat.left_eq_add, Nat.add_zero, kv, lv]
  refine c133_3 (by simp) (by omega) (x_checkS (by omega) h1 hj ll) (gx_kn ?_) gx_kx
  obtain ⟨e1, e2⟩ := ch_ok i hi j hj
  simp only [r133_0, r133_1, r133_1n, r133_2, r133_6, r133_6n, r133_7, r133_8, r133_9, r133_12, r133_13, r133_14, i32_10, reduceIte, gm_cmp1, gm_cmp3, gm_cmp4, gm_kd_sf, gm_ln_sf, gm_sf_1, gm_sf_2, gm_nw_1, gm_nw_2, gm_k_int, gm_k_ref, gm_k_null, gm_k_u, gm_k_long, and_true, true_and, true_or, or_true, or_false, false_or, and_self, or_self, if_true, if_false, List.map_nil, List.map_cons, List.sum_nil, List.sum_cons, Nat.zero_le, Option.toList_some, Option.toList_none, List.cons_append, List.nil_append, ne_eq, not_false_eq_true, not_true_eq_false, nI_1, nI_add, Value.category, Nat.reduceAdd, Nat.reduceMod, Nat.reduceLeDiff, Nat.reduceLT, Nat.reduceEqDiff, Nat.reducePow, Nat.le_refl, Nat.add_left_cancel_iff, Nat.add_eq_left, Nat.left_eq_add, Nat.add_zero, kv, lv, hj, ll2, fv, e1]
  refine (r133_14 e2).mpr ?_
  exact ⟨rfl, rfl⟩
theorem x_charAt {i j a v : Nat} (hd : 3 ≤ d) (hi : i < 3) (h5 : E 5 = .int 1) (h1 : E 1 = .null ∨ ∃ z : Nat, E 1 = .ref z) (k : gm_kd h a = 6) (l : gm_ln h a = 2) (f0 : gm_fv h a 0 = .ref v) (f : gm_fv h a 1 = .int 0) (kv : gm_kd h v = 302) (lv : gm_ln h v = (gx_str i).length) (hj : j < (gx_str i).length) (fv : gm_fv h v j = .int ((gx_str i).getD j 0)) : gm_Ca E d 127 [.ref a, .int (nI j)] h (gx_v (some (.int ((gx_str i).getD j 0))) h) := by
  show gm_W E d 127 0 [.ref a, .int (nI j)] [] h _
  have l0 : 0 < 2 := by decide
  simp only [r127_0, r127_0n, r127_4, r127_7, r127_7n, r127_8, r127_11, r127_15, r127_16, r127_16n, r127_17, r127_20, r127_24, i32_10, reduceIte, gm_cmp1, gm_cmp3, gm_cmp4, gm_kd_sf, gm_ln_sf, gm_sf_1, gm_sf_2, gm_nw_1, gm_nw_2, gm_k_int, gm_k_ref, gm_k_null, gm_k_u, gm_k_long, and_true, true_and, true_or, or_true, or_false, false_or, and_self, or_self, if_true, if_false, List.map_nil, List.map_cons, List.sum_nil, List.sum_cons, Nat.zero_le, Option.toList_some, Option.toList_none, List.cons_append, List.nil_append, ne_eq, not_false_eq_true, not_true_eq_false, nI_1, nI_add, Value.category, Nat.reduceAdd, Nat.reduceMod, Nat.reduceLeDiff, Nat.reduceLT, Nat.reduceEqDiff, Nat.reducePow, Nat.le_refl, Nat.add_left_cancel_iff, Nat.add_eq_left, Nat.left_eq_add, Nat.add_zero]
  refine c127_1 (by simp) k (by omega) (x_isLatin1 h5 k l f) (gx_kn ?_) gx_kx
  simp only [r127_0, r127_0n, r127_4, r127_7, r127_7n, r127_8, r127_11, r127_15, r127_16, r127_16n, r127_17, r127_20, r127_24, i32_10, reduceIte, gm_cmp1, gm_cmp3, gm_cmp4, gm_kd_sf, gm_ln_sf, gm_sf_1, gm_sf_2, gm_nw_1, gm_nw_2, gm_k_int, gm_k_ref, gm_k_null, gm_k_u, gm_k_long, and_true, true_and, true_or, or_true, or_false, false_or, and_self, or_self, if_true, if_false, List.map_nil, List.map_cons, List.sum_nil, List.sum_cons, Nat.zero_le, Option.toList_some, Option.toList_none, List.cons_append, List.nil_append, ne_eq, not_false_eq_true, not_true_eq_false, nI_1, nI_add, Value.category, Nat.reduceAdd, Nat.reduceMod, Nat.reduceLeDiff, Nat.reduceLT, Nat.reduceEqDiff, Nat.reducePow, Nat.le_refl, Nat.add_left_cancel_iff, Nat.add_eq_left, Nat.left_eq_add, Nat.add_zero, k, l, l0, f0]
  refine c127_12 (by simp) (by simp [gm_en1]) (by omega) (x_charAtL (by omega) hi h1 kv lv hj fv) (gx_kn ?_) gx_kx
  simp only [i32_10, reduceIte, gm_cmp1, gm_cmp3, gm_cmp4, gm_kd_sf, gm_ln_sf, gm_sf_1, gm_sf_2, gm_nw_1, gm_nw_2, gm_k_int, gm_k_ref, gm_k_null, gm_k_u, gm_k_long, and_true, true_and, true_or, or_true, or_false, false_or, and_self, or_self, if_true, if_false, List.map_nil, List.map_cons, List.sum_nil, List.sum_cons, Nat.zero_le, Option.toList_some, Option.toList_none, List.cons_append, List.nil_append, ne_eq, not_false_eq_true, not_true_eq_false, nI_1, nI_add, Value.category, Nat.reduceAdd, Nat.reduceMod, Nat.reduceLeDiff, Nat.reduceLT, Nat.reduceEqDiff, Nat.reducePow, Nat.le_refl, Nat.add_left_cancel_iff, Nat.add_eq_left, Nat.left_eq_add, Nat.add_zero]
  refine (r127_15 (ch_ok i hi j hj).2).mpr ?_
  exact ⟨rfl, rfl⟩
theorem x_isSpelt {i a n : Nat} (hd : 4 ≤ d) (hi : i < 3) (R : gx_R E h x ca K F s) (hn : a + n ≤ gs_n K) : gm_Ca E d 72 [.ref x, .int (nI a), .int (nI n), E (2 + i)] h (gx_v (some (.int (if gs_spelt K a n (gx_str i) = true then 1 else 0))) h) := by
  obtain ⟨-, ⟨h5, h1⟩, g⟩ := R.2.2.1.1.1
  obtain ⟨w, v, ew, -, -, k, l, f0, f1, kv, lv, fv⟩ := g i hi
  obtain ⟨A0, -, A5, -, -, -, -, A2, A2l, -⟩ := R.1
  obtain ⟨-, -, -, -, B6, B7, B8⟩ := R.2.1
  have ll : (gx_str i).length < 2 ^ 31 := by
    rcases (show i = 0 ∨ i = 1 ∨ i = 2 by omega) with rfl | rfl | rfl <;> decide
  rw [ew]
  have loop : ∀ (m j : Nat), j + m = n → n = (gx_str i).length → (∀ k, k < j → gs_sb K (a + k) = (gx_str i).getD k 0) → gm_W E d 72 13 [.ref x, .int (nI a), .int (nI n), .ref w, .int (nI j)] [] h (gx_v (some (.int (if gs_spelt K a n (gx_str i) = true then 1 else 0))) h) := by
    intro m
    induction m with
    | zero =>
      intro j hj hnl hk
      have hj : j = n := by omega
      subst hj
      simp only [r72_0, r72_1, r72_1n, r72_5, r72_8, r72_9, r72_10, r72_11, r72_13, r72_15, r72_16, r72_19, r72_19n, r72_20, r72_23, r72_24, r72_26, r72_27, r72_28, r72_28n, r72_29, r72_34, r72_37, r72_38, r72_39, r72_42, r72_45, r72_46, i32_10, reduceIte, gm_cmp1, gm_cmp3, gm_cmp4, gm_kd_sf, gm_ln_sf, gm_sf_1, gm_sf_2, gm_nw_1, gm_nw_2, gm_k_int, gm_k_ref, gm_k_null, gm_k_u, gm_k_long, and_true, true_and, true_or, or_true, or_false, false_or, and_self, or_self, if_true, if_false, List.map_nil, List.map_cons, List.sum_nil, List.sum_cons, Nat.zero_le, Option.toList_some, Option.toList_none, List.cons_append, List.nil_append, ne_eq, not_false_eq_true, not_true_eq_false, nI_1, nI_add, Value.category, Nat.reduceAdd, Nat.reduceMod, Nat.reduceLeDiff, Nat.reduceLT, Nat.reduceEqDiff, Nat.reducePow, Nat.le_refl, Nat.add_left_cancel_iff, Nat.add_eq_left, Nat.left_eq_add, Nat.add_zero, nI_leT (Nat.le_refl j) (show j < 2 ^ 31 by omega)]
      have e : gs_spelt K a j (gx_str i) = true := by
        unfold gs_spelt
        simp only [hnl, decide_true, Bool.true_and, List.all_eq_true, List.mem_range, beq_iff_eq]
        intro k hk2
        exact hk k (by omega)
      rw [e]
      exact ⟨rfl, rfl⟩
    | succ m ih =>
      intro j hj hnl hk
      have hj2 : j < n := by omega
      have haj : a + j < gs_n K := by omega
      have haj7 : a + j < 700 := by omega
      rw [r72_13]
      simp only [r72_0, r72_1, r72_1n, r72_5, r72_8, r72_9, r72_10, r72_11, r72_15, r72_16, r72_19, r72_19n, r72_20, r72_23, r72_24, r72_26, r72_27, r72_28, r72_28n, r72_29, r72_34, r72_37, r72_38, r72_39, r72_42, r72_45, r72_46, i32_10, reduceIte, gm_cmp1, gm_cmp3, gm_cmp4, gm_kd_sf, gm_ln_sf, gm_sf_1, gm_sf_2, gm_nw_1, gm_nw_2, gm_k_int, gm_k_ref, gm_k_null, gm_k_u, gm_k_long, and_true, true_and, true_or, or_true, or_false, false_or, and_self, or_self, if_true, if_false, List.map_nil, List.map_cons, List.sum_nil, List.sum_cons, Nat.zero_le, Option.toList_some, Option.toList_none, List.cons_append, List.nil_append, ne_eq, not_false_eq_true, not_true_eq_false, nI_1, nI_add, Value.category, Nat.reduceAdd, Nat.reduceMod, Nat.reduceLeDiff, Nat.reduceLT, Nat.reduceEqDiff, Nat.reducePow, Nat.le_refl, Nat.add_left_cancel_iff, Nat.add_eq_left, Nat.left_eq_add, Nat.add_zero, nI_leF hj2 (show n < 2 ^ 31 by omega), A0, A5, A2, A2l, haj7, B8 _ haj]
      refine c72_31 (by simp [Value.category]) k (by omega) (x_charAt (by omega) hi h5 h1 k l f0 f1 kv lv (by omega) (fv j (by omega))) (gx_kn ?_) gx_kx
      by_cases e : gs_sb K (a + j) = (gx_str i).getD j 0
      · simp only [r72_0, r72_1, r72_1n, r72_5, r72_8, r72_9, r72_10, r72_11, r72_15, r72_16, r72_19, r72_19n, r72_20, r72_23, r72_24, r72_26, r72_27, r72_28, r72_28n, r72_29, r72_34, r72_37, r72_38, r72_39, r72_42, r72_45, r72_46, i32_10, reduceIte, gm_cmp1, gm_cmp3, gm_cmp4, gm_kd_sf, gm_ln_sf, gm_sf_1, gm_sf_2, gm_nw_1, gm_nw_2, gm_k_int, gm_k_ref, gm_k_null, gm_k_u, gm_k_long, and_true, true_and, true_or, or_true, or_false, false_or, and_self, or_self, if_true, if_false, List.map_nil, List.map_cons, List.sum_nil, List.sum_cons, Nat.zero_le, Option.toList_some, Option.toList_none, List.cons_append, List.nil_append, ne_eq, not_false_eq_true, not_true_eq_false, nI_1, nI_add, Value.category, Nat.reduceAdd, Nat.reduceMod, Nat.reduceLeDiff, Nat.reduceLT, Nat.reduceEqDiff, Nat.reducePow, Nat.le_refl, Nat.add_left_cancel_iff, Nat.add_eq_left, Nat.left_eq_add, Nat.add_zero, e]
        refine ih (j + 1) (by omega) hnl (fun k hk2 => ?_)
        by_cases ek : k = j
        · subst ek; exact e
        · exact hk k (by omega)
      · simp only [r72_0, r72_1, r72_1n, r72_5, r72_8, r72_9, r72_10, r72_11, r72_15, r72_16, r72_19, r72_19n, r72_20, r72_23, r72_24, r72_26, r72_27, r72_28, r72_28n, r72_29, r72_34, r72_37, r72_38, r72_39, r72_42, r72_45, r72_46, i32_10, reduceIte, gm_cmp1, gm_cmp3, gm_cmp4, gm_kd_sf, gm_ln_sf, gm_sf_1, gm_sf_2, gm_nw_1, gm_nw_2, gm_k_int, gm_k_ref, gm_k_null, gm_k_u, gm_k_long, and_true, true_and, true_or, or_true, or_false, false_or, and_self, or_self, if_true, if_false, List.map_nil, List.map_cons, List.sum_nil, List.sum_cons, Nat.zero_le, Option.toList_some, Option.toList_none, List.cons_append, List.nil_append, ne_eq, not_false_eq_true, not_true_eq_false, nI_1, nI_add, Value.category, Nat.reduceAdd, Nat.reduceMod, Nat.reduceLeDiff, Nat.reduceLT, Nat.reduceEqDiff, Nat.reducePow, Nat.le_refl, Nat.add_left_cancel_iff, Nat.add_eq_left, Nat.left_eq_add, Nat.add_zero, e]
        have e2 : gs_spelt K a n (gx_str i) = false := by
          cases hb : gs_spelt K a n (gx_str i) with
          | false => rfl
          | true =>
            unfold gs_spelt at hb
            simp only [Bool.and_eq_true, List.all_eq_true, List.mem_range, beq_iff_eq] at hb
            exact absurd (hb.2 j hj2) e
        rw [e2]
        exact ⟨rfl, rfl⟩
  show gm_W E d 72 0 [.ref x, .int (nI a), .int (nI n), .ref w, gm_u] [] h _
  simp only [r72_0, r72_1, r72_1n, r72_5, r72_8, r72_9, r72_10, r72_11, r72_13, r72_15, r72_16, r72_19, r72_19n, r72_20, r72_23, r72_24, r72_26, r72_27, r72_28, r72_28n, r72_29, r72_34, r72_37, r72_38, r72_39, r72_42, r72_45, r72_46, i32_10, reduceIte, gm_cmp1, gm_cmp3, gm_cmp4, gm_kd_sf, gm_ln_sf, gm_sf_1, gm_sf_2, gm_nw_1, gm_nw_2, gm_k_int, gm_k_ref, gm_k_null, gm_k_u, gm_k_long, and_true, true_and, true_or, or_true, or_false, false_or, and_self, or_self, if_true, if_false, List.map_nil, List.map_cons, List.sum_nil, List.sum_cons, Nat.zero_le, Option.toList_some, Option.toList_none, List.cons_append, List.nil_append, ne_eq, not_false_eq_true, not_true_eq_false, nI_1, nI_add, Value.category, Nat.reduceAdd, Nat.reduceMod, Nat.reduceLeDiff, Nat.reduceLT, Nat.reduceEqDiff, Nat.reducePow, Nat.le_refl, Nat.add_left_cancel_iff, Nat.add_eq_left, Nat.left_eq_add, Nat.add_zero]
  refine c72_2 (by simp [Value.category]) k (by omega) (x_length (i := i) (by omega) h5 k l f0 f1 kv lv) (gx_kn ?_) gx_kx
  have en : (nI n = nI (gx_str i).length) = (n = (gx_str i).length) := propext (nI_eq (by omega) ll)
  by_cases e : n = (gx_str i).length
  · simp only [r72_0, r72_1, r72_1n, r72_5, r72_8, r72_9, r72_10, r72_11, r72_15, r72_16, r72_19, r72_19n, r72_20, r72_23, r72_24, r72_26, r72_27, r72_28, r72_28n, r72_29, r72_34, r72_37, r72_38, r72_39, r72_42, r72_45, r72_46, i32_10, reduceIte, gm_cmp1, gm_cmp3, gm_cmp4, gm_kd_sf, gm_ln_sf, gm_sf_1, gm_sf_2, gm_nw_1, gm_nw_2, gm_k_int, gm_k_ref, gm_k_null, gm_k_u, gm_k_long, and_true, true_and, true_or, or_true, or_false, false_or, and_self, or_self, if_true, if_false, List.map_nil, List.map_cons, List.sum_nil, List.sum_cons, Nat.zero_le, Option.toList_some, Option.toList_none, List.cons_append, List.nil_append, ne_eq, not_false_eq_true, not_true_eq_false, nI_1, nI_add, Value.category, Nat.reduceAdd, Nat.reduceMod, Nat.reduceLeDiff, Nat.reduceLT, Nat.reduceEqDiff, Nat.reducePow, Nat.le_refl, Nat.add_left_cancel_iff, Nat.add_eq_left, Nat.left_eq_add, Nat.add_zero, en, e]
    rw [← e]
    exact loop n 0 (by omega) e (fun k hk => by omega)
  · simp only [r72_0, r72_1, r72_1n, r72_5, r72_8, r72_9, r72_10, r72_11, r72_15, r72_16, r72_19, r72_19n, r72_20, r72_23, r72_24, r72_26, r72_27, r72_28, r72_28n, r72_29, r72_34, r72_37, r72_38, r72_39, r72_42, r72_45, r72_46, i32_10, reduceIte, gm_cmp1, gm_cmp3, gm_cmp4, gm_kd_sf, gm_ln_sf, gm_sf_1, gm_sf_2, gm_nw_1, gm_nw_2, gm_k_int, gm_k_ref, gm_k_null, gm_k_u, gm_k_long, and_true, true_and, true_or, or_true, or_false, false_or, and_self, or_self, if_true, if_false, List.map_nil, List.map_cons, List.sum_nil, List.sum_cons, Nat.zero_le, Option.toList_some, Option.toList_none, List.cons_append, List.nil_append, ne_eq, not_false_eq_true, not_true_eq_false, nI_1, nI_add, Value.category, Nat.reduceAdd, Nat.reduceMod, Nat.reduceLeDiff, Nat.reduceLT, Nat.reduceEqDiff, Nat.reducePow, Nat.le_refl, Nat.add_left_cancel_iff, Nat.add_eq_left, Nat.left_eq_add, Nat.add_zero, en, e]
    have e2 : gs_spelt K a n (gx_str i) = false := by unfold gs_spelt; simp [e]
    rw [e2]
    exact ⟨rfl, rfl⟩
theorem x_canEncode {b : Nat} (hb : b < 256) : gm_Ca E d 134 [.int (nI b)] h (gx_v (some (.int 1)) h) := by
  show gm_W E d 134 0 [.int (nI b)] [] h _
  have e : ¬ (255 : Int32) < nI b := nI_nlt (b := b) (a := 255) (by omega) (by decide)
  simp only [r134_0, r134_1, r134_4, r134_5, r134_8, r134_11, r134_12, r134_15, r134_16, i32_10, reduceIte, gm_cmp1, gm_cmp3, gm_cmp4, gm_kd_sf, gm_ln_sf, gm_sf_1, gm_sf_2, gm_nw_1, gm_nw_2, gm_k_int, gm_k_ref, gm_k_null, gm_k_u, gm_k_long, and_true, true_and, true_or, or_true, or_false, false_or, and_self, or_self, if_true, if_false, List.map_nil, List.map_cons, List.sum_nil, List.sum_cons, Nat.zero_le, Option.toList_some, Option.toList_none, List.cons_append, List.nil_append, ne_eq, not_false_eq_true, not_true_eq_false, nI_1, nI_add, Value.category, Nat.reduceAdd, Nat.reduceMod, Nat.reduceLeDiff, Nat.reduceLT, Nat.reduceEqDiff, Nat.reducePow, Nat.le_refl, Nat.add_left_cancel_iff, Nat.add_eq_left, Nat.left_eq_add, Nat.add_zero, nI_pos (show b < 2 ^ 31 by omega), e]
  exact ⟨rfl, rfl⟩
def gs_tyi (b : Nat) : Int32 := match gs_types.findIdx? (· == nI b) with
  | none => -1
  | some j => nI j
set_option maxRecDepth 100000 in
theorem ty_eq : ∀ j, j < 8 → ∀ b, b < 256 → (gs_types.getD j 0 = (nI b).toInt8.toInt32 ↔ gs_types.getD j 0 = nI b) := by decide +kernel
theorem x_indexOfChar {b v : Nat} (hb : b < 256) (kv : gm_kd h v = 302) (lv : gm_ln h v = 8) (fv : ∀ j, j < 8 → gm_fv h v j = .int (gs_types.getD j 0)) : gm_Ca E d 136 [.ref v, .int (nI b), .int (nI 0), .int (nI 8)] h (gx_v (some (.int (gs_tyi b))) h) := by
  have tl : gs_types.length = 8 := rfl
  have loop : ∀ (m j : Nat), j + m = 8 → (∀ k, k < j → ¬ gs_types.getD k 0 = nI b) → gm_W E d 136 7 [.ref v, .int (nI b), .int (nI 0), .int (nI 8), .int (nI b).toInt8.toInt32, .int (nI j)] [] h (gx_v (some (.int (gs_tyi b))) h) := by
    intro m
    induction m with
    | zero =>
      intro j hj hk
      have hj : j = 8 := by omega
      subst hj
      simp only [r136_0, r136_1, r136_2, r136_4, r136_5, r136_7, r136_9, r136_10, r136_13, r136_13n, r136_14, r136_16, r136_17, r136_19, r136_22, r136_24, r136_25, r136_28, r136_31, r136_32, i32_10, reduceIte, gm_cmp1, gm_cmp3, gm_cmp4, gm_kd_sf, gm_ln_sf, gm_sf_1, gm_sf_2, gm_nw_1, gm_nw_2, gm_k_int, gm_k_ref, gm_k_null, gm_k_u, gm_k_long, and_true, true_and, true_or, or_true, or_false, false_or, and_self, or_self, if_true, if_false, List.map_nil, List.map_cons, List.sum_nil, List.sum_cons, Nat.zero_le, Option.toList_some, Option.toList_none, List.cons_append, List.nil_append, ne_eq, not_false_eq_true, not_true_eq_false, nI_1, nI_add, Value.category, Nat.reduceAdd, Nat.reduceMod, Nat.reduceLeDiff, Nat.reduceLT, Nat.reduceEqDiff, Nat.reducePow, Nat.le_refl, Nat.add_left_cancel_iff, Nat.add_eq_left, Nat.left_eq_add, Nat.add_zero, nI_leT (Nat.le_refl 8) (show 8 < 2 ^ 31 by decide)]
      have e : gs_types.findIdx? (· == nI b) = none := by
        rw [List.findIdx?_eq_none_iff]
        intro q hq
        obtain ⟨i, hi, rfl⟩ := List.getElem_of_mem hq
        have := hk i (by omega)
        rw [List.getD_eq_getElem?_getD, List.getElem?_eq_getElem hi] at this
        simpa using this
      unfold gs_tyi
      rw [e]
      exact ⟨rfl, rfl⟩
    | succ m ih =>
      intro j hj hk
      have hj8 : j < 8 := by omega
      rw [r136_7]
      simp only [r136_0, r136_1, r136_2, r136_4, r136_5, r136_9, r136_10, r136_13, r136_13n, r136_14, r136_16, r136_17, r136_19, r136_22, r136_24, r136_25, r136_28, r136_31, r136_32, i32_10, reduceIte, gm_cmp1, gm_cmp3, gm_cmp4, gm_kd_sf, gm_ln_sf, gm_sf_1, gm_sf_2, gm_nw_1, gm_nw_2, gm_k_int, gm_k_ref, gm_k_null, gm_k_u, gm_k_long, and_true, true_and, true_or, or_true, or_false, false_or, and_self, or_self, if_true, if_false, List.map_nil, List.map_cons, List.sum_nil, List.sum_cons, Nat.zero_le, Option.toList_some, Option.toList_none, List.cons_append, List.nil_append, ne_eq, not_false_eq_true, not_true_eq_false, nI_1, nI_add, Value.category, Nat.reduceAdd, Nat.reduceMod, Nat.reduceLeDiff, Nat.reduceLT, Nat.reduceEqDiff, Nat.reducePow, Nat.le_refl, Nat.add_left_cancel_iff, Nat.add_eq_left, Nat.left_eq_add, Nat.add_zero, nI_leF hj8 (show 8 < 2 ^ 31 by decide), kv, lv, hj8, fv j hj8, ty_eq j hj8 b hb]
      by_cases e : gs_types.getD j 0 = nI b
      · simp only [e, reduceIte]
        have e2 : gs_types.findIdx? (· == nI b) = some j := by
          rw [List.findIdx?_eq_some_iff_getElem]
          have gd : ∀ i (hi : i < gs_types.length), gs_types.getD i 0 = gs_types[i] := fun i hi => by rw [List.getD_eq_getElem?_getD, List.getElem?_eq_getElem hi]; rfl
          refine ⟨by omega, ?_, fun i hi => ?_⟩
          · rw [gd j (by omega)] at e
            simpa using e
          · have := hk i hi
            rw [gd i (by omega)] at this
            simpa using this
        unfold gs_tyi
        rw [e2]
        exact ⟨rfl, rfl⟩
      · simp only [e, reduceIte]
        refine ih (j + 1) (by omega) (fun k hk2 => ?_)
        by_cases ek : k = j
        · subst ek; exact e
        · exact hk k (by omega)
  show gm_W E d 136 0 [.ref v, .int (nI b), .int (nI 0), .int (nI 8), gm_u, gm_u] [] h _
  simp only [r136_0, r136_1, r136_2, r136_4, r136_5, r136_9, r136_10, r136_13, r136_13n, r136_14, r136_16, r136_17, r136_19, r136_22, r136_24, r136_25, r136_28, r136_31, r136_32, i32_10, reduceIte, gm_cmp1, gm_cmp3, gm_cmp4, gm_kd_sf, gm_ln_sf, gm_sf_1, gm_sf_2, gm_nw_1, gm_nw_2, gm_k_int, gm_k_ref, gm_k_null, gm_k_u, gm_k_long, and_true, true_and, true_or, or_true, or_false, false_or, and_self, or_self, if_true, if_false, List.map_nil, List.map_cons, List.sum_nil, List.sum_cons, Nat.zero_le, Option.toList_some, Option.toList_none, List.cons_append, List.nil_append, ne_eq, not_false_eq_true, not_true_eq_false, nI_1, nI_add, Value.category, Nat.reduceAdd, Nat.reduceMod, Nat.reduceLeDiff, Nat.reduceLT, Nat.reduceEqDiff, Nat.reducePow, Nat.le_refl, Nat.add_left_cancel_iff, Nat.add_eq_left, Nat.left_eq_add, Nat.add_zero]
  exact loop 8 0 (by omega) (fun k hk => by omega)
theorem x_indexOfL {b v : Nat} (hd : 1 ≤ d) (hb : b < 256) (kv : gm_kd h v = 302) (lv : gm_ln h v = 8) (fv : ∀ j, j < 8 → gm_fv h v j = .int (gs_types.getD j 0)) : gm_Ca E d 135 [.ref v, .int (nI b), .int (nI 0), .int (nI 8)] h (gx_v (some (.int (gs_tyi b))) h) := by
  show gm_W E d 135 0 [.ref v, .int (nI b), .int (nI 0), .int (nI 8)] [] h _
  simp only [r135_0, r135_4, r135_7, r135_8, r135_9, r135_10, r135_14, r135_15, r135_16, r135_16n, r135_17, r135_21, r135_22, r135_23, r135_24, r135_27, r135_28, r135_29, r135_29n, r135_30, r135_31, r135_32, r135_36, i32_10, reduceIte, gm_cmp1, gm_cmp3, gm_cmp4, gm_kd_sf, gm_ln_sf, gm_sf_1, gm_sf_2, gm_nw_1, gm_nw_2, gm_k_int, gm_k_ref, gm_k_null, gm_k_u, gm_k_long, and_true, true_and, true_or, or_true, or_false, false_or, and_self, or_self, if_true, if_false, List.map_nil, List.map_cons, List.sum_nil, List.sum_cons, Nat.zero_le, Option.toList_some, Option.toList_none, List.cons_append, List.nil_append, ne_eq, not_false_eq_true, not_true_eq_false, nI_1, nI_add, Value.category, Nat.reduceAdd, Nat.reduceMod, Nat.reduceLeDiff, Nat.reduceLT, Nat.reduceEqDiff, Nat.reducePow, Nat.le_refl, Nat.add_left_cancel_iff, Nat.add_eq_left, Nat.left_eq_add, Nat.add_zero]
  refine c135_1 (by simp) hd (x_canEncode hb) (gx_kn ?_) gx_kx
  simp only [r135_0, r135_4, r135_7, r135_8, r135_9, r135_10, r135_14, r135_15, r135_16, r135_16n, r135_17, r135_21, r135_22, r135_23, r135_24, r135_27, r135_28, r135_29, r135_29n, r135_30, r135_31, r135_32, r135_36, i32_10, reduceIte, gm_cmp1, gm_cmp3, gm_cmp4, gm_kd_sf, gm_ln_sf, gm_sf_1, gm_sf_2, gm_nw_1, gm_nw_2, gm_k_int, gm_k_ref, gm_k_null, gm_k_u, gm_k_long, and_true, true_and, true_or, or_true, or_false, false_or, and_self, or_self, if_true, if_false, List.map_nil, List.map_cons, List.sum_nil, List.sum_cons, Nat.zero_le, Option.toList_some, Option.toList_none, List.cons_append, List.nil_append, ne_eq, not_false_eq_true, not_true_eq_false, nI_1, nI_add, Value.category, Nat.reduceAdd, Nat.reduceMod, Nat.reduceLeDiff, Nat.reduceLT, Nat.reduceEqDiff, Nat.reducePow, Nat.le_refl, Nat.add_left_cancel_iff, Nat.add_eq_left, Nat.left_eq_add, Nat.add_zero]
  refine c135_11 (by simp) hd (x_max _ _) (gx_kn ?_) gx_kx
  have m1 : (if nI 0 < 0 then (0 : Int32) else nI 0) = nI 0 := by decide
  rw [m1]
  simp only [r135_0, r135_4, r135_7, r135_8, r135_9, r135_10, r135_14, r135_15, r135_16, r135_16n, r135_17, r135_21, r135_22, r135_23, r135_24, r135_27, r135_28, r135_29, r135_29n, r135_30, r135_31, r135_32, r135_36, i32_10, reduceIte, gm_cmp1, gm_cmp3, gm_cmp4, gm_kd_sf, gm_ln_sf, gm_sf_1, gm_sf_2, gm_nw_1, gm_nw_2, gm_k_int, gm_k_ref, gm_k_null, gm_k_u, gm_k_long, and_true, true_and, true_or, or_true, or_false, false_or, and_self, or_self, if_true, if_false, List.map_nil, List.map_cons, List.sum_nil, List.sum_cons, Nat.zero_le, Option.toList_some, Option.toList_none, List.cons_append, List.nil_append, ne_eq, not_false_eq_true, not_true_eq_false, nI_1, nI_add, Value.category, Nat.reduceAdd, Nat.reduceMod, Nat.reduceLeDiff, Nat.reduceLT, Nat.reduceEqDiff, Nat.reducePow, Nat.le_refl, Nat.add_left_cancel_iff, Nat.add_eq_left, Nat.left_eq_add, Nat.add_zero, kv, lv]
  refine c135_18 (by simp) hd (x_min _ _) (gx_kn ?_) gx_kx
  have m2 : (if nI 8 < nI 8 then nI 8 else nI 8) = nI 8 := by decide
  rw [m2]
  have m3 : nI 0 < nI 8 := by decide
  simp only [r135_0, r135_4, r135_7, r135_8, r135_9, r135_10, r135_14, r135_15, r135_16, r135_16n, r135_17, r135_21, r135_22, r135_23, r135_24, r135_27, r135_28, r135_29, r135_29n, r135_30, r135_31, r135_32, r135_36, i32_10, reduceIte, gm_cmp1, gm_cmp3, gm_cmp4, gm_kd_sf, gm_ln_sf, gm_sf_1, gm_sf_2, gm_nw_1, gm_nw_2, gm_k_int, gm_k_ref, gm_k_null, gm_k_u, gm_k_long, and_true, true_and, true_or, or_true, or_false, false_or, and_self, or_self, if_true, if_false, List.map_nil, List.map_cons, List.sum_nil, List.sum_cons, Nat.zero_le, Option.toList_some, Option.toList_none, List.cons_append, List.nil_append, ne_eq, not_false_eq_true, not_true_eq_false, nI_1, nI_add, Value.category, Nat.reduceAdd, Nat.reduceMod, Nat.reduceLeDiff, Nat.reduceLT, Nat.reduceEqDiff, Nat.reducePow, Nat.le_refl, Nat.add_left_cancel_iff, Nat.add_eq_left, Nat.left_eq_add, Nat.add_zero, m3]
  refine c135_33 (by simp) (by simp [gm_en1]) hd (x_indexOfChar hb kv lv fv) (gx_kn ?_) gx_kx
  simp only [r135_0, r135_4, r135_7, r135_8, r135_9, r135_10, r135_14, r135_15, r135_16, r135_16n, r135_17, r135_21, r135_22, r135_23, r135_24, r135_27, r135_28, r135_29, r135_29n, r135_30, r135_31, r135_32, r135_36, i32_10, reduceIte, gm_cmp1, gm_cmp3, gm_cmp4, gm_kd_sf, gm_ln_sf, gm_sf_1, gm_sf_2, gm_nw_1, gm_nw_2, gm_k_int, gm_k_ref, gm_k_null, gm_k_u, gm_k_long, and_true, true_and, true_or, or_true, or_false, false_or, and_self, or_self, if_true, if_false, List.map_nil, List.map_cons, List.sum_nil, List.sum_cons, Nat.zero_le, Option.toList_some, Option.toList_none, List.cons_append, List.nil_append, ne_eq, not_false_eq_true, not_true_eq_false, nI_1, nI_add, Value.category, Nat.reduceAdd, Nat.reduceMod, Nat.reduceLeDiff, Nat.reduceLT, Nat.reduceEqDiff, Nat.reducePow, Nat.le_refl, Nat.add_left_cancel_iff, Nat.add_eq_left, Nat.left_eq_add, Nat.add_zero]
  exact ⟨rfl, rfl⟩
theorem x_indexOf2 {b a : Nat} (hd : 2 ≤ d) (hb : b < 256) (R : gx_R E h x ca K F s) (ea : E 2 = .ref a) : gm_Ca E d 129 [.ref a, .int (nI b), .int (nI 0)] h (gx_v (some (.int (gs_tyi b))) h) := by
  obtain ⟨-, ⟨h5, h1⟩, g⟩ := R.2.2.1.1.1
  obtain ⟨w, v, ew, -, -, k, l, f0, f1, kv, lv, fv⟩ := g 0 (by decide)
  have ew : E 2 = .ref w := ew
  rw [ea] at ew
  cases ew
  have l0 : 0 < 2 := by decide
  show gm_W E d 129 0 [.ref a, .int (nI b), .int (nI 0)] [] h _
  simp only [r129_0, r129_0n, r129_4, r129_7, r129_7n, r129_8, r129_11, r129_12, r129_13, r129_13n, r129_20, r129_23, r129_23n, r129_24, r129_27, r129_28, r129_29, r129_29n, r129_36, i32_10, reduceIte, gm_cmp1, gm_cmp3, gm_cmp4, gm_kd_sf, gm_ln_sf, gm_sf_1, gm_sf_2, gm_nw_1, gm_nw_2, gm_k_int, gm_k_ref, gm_k_null, gm_k_u, gm_k_long, and_true, true_and, true_or, or_true, or_false, false_or, and_self, or_self, if_true, if_false, List.map_nil, List.map_cons, List.sum_nil, List.sum_cons, Nat.zero_le, Option.toList_some, Option.toList_none, List.cons_append, List.nil_append, ne_eq, not_false_eq_true, not_true_eq_false, nI_1, nI_add, Value.category, Nat.reduceAdd, Nat.reduceMod, Nat.reduceLeDiff, Nat.reduceLT, Nat.reduceEqDiff, Nat.reducePow, Nat.le_refl, Nat.add_left_cancel_iff, Nat.add_eq_left, Nat.left_eq_add, Nat.add_zero]
  refine c129_1 (by simp) k (by omega) (x_isLatin1 h5 k l f1) (gx_kn ?_) gx_kx
  simp only [r129_0, r129_0n, r129_4, r129_7, r129_7n, r129_8, r129_11, r129_12, r129_13, r129_13n, r129_20, r129_23, r129_23n, r129_24, r129_27, r129_28, r129_29, r129_29n, r129_36, i32_10, reduceIte, gm_cmp1, gm_cmp3, gm_cmp4, gm_kd_sf, gm_ln_sf, gm_sf_1, gm_sf_2, gm_nw_1, gm_nw_2, gm_k_int, gm_k_ref, gm_k_null, gm_k_u, gm_k_long, and_true, true_and, true_or, or_true, or_false, false_or, and_self, or_self, if_true, if_false, List.map_nil, List.map_cons, List.sum_nil, List.sum_cons, Nat.zero_le, Option.toList_some, Option.toList_none, List.cons_append, List.nil_append, ne_eq, not_false_eq_true, not_true_eq_false, nI_1, nI_add, Value.category, Nat.reduceAdd, Nat.reduceMod, Nat.reduceLeDiff, Nat.reduceLT, Nat.reduceEqDiff, Nat.reducePow, Nat.le_refl, Nat.add_left_cancel_iff, Nat.add_eq_left, Nat.left_eq_add, Nat.add_zero, k, l, l0, f0]
  refine c129_14 (by simp [Value.category]) k (by omega) (x_length (i := 0) (by omega) h5 k l f0 f1 kv lv) (gx_kn ?_) gx_kx
  simp only [i32_10, reduceIte, gm_cmp1, gm_cmp3, gm_cmp4, gm_kd_sf, gm_ln_sf, gm_sf_1, gm_sf_2, gm_nw_1, gm_nw_2, gm_k_int, gm_k_ref, gm_k_null, gm_k_u, gm_k_long, and_true, true_and, true_or, or_true, or_false, false_or, and_self, or_self, if_true, if_false, List.map_nil, List.map_cons, List.sum_nil, List.sum_cons, Nat.zero_le, Option.toList_some, Option.toList_none, List.cons_append, List.nil_append, ne_eq, not_false_eq_true, not_true_eq_false, nI_1, nI_add, Value.category, Nat.reduceAdd, Nat.reduceMod, Nat.reduceLeDiff, Nat.reduceLT, Nat.reduceEqDiff, Nat.reducePow, Nat.le_refl, Nat.add_left_cancel_iff, Nat.add_eq_left, Nat.left_eq_add, Nat.add_zero]
  refine c129_17 (by simp) (by simp [gm_en1]) (by omega) (x_indexOfL (by omega) hb kv lv fv) (gx_kn ?_) gx_kx
  simp only [r129_0, r129_0n, r129_4, r129_7, r129_7n, r129_8, r129_11, r129_12, r129_13, r129_13n, r129_20, r129_23, r129_23n, r129_24, r129_27, r129_28, r129_29, r129_29n, r129_36, i32_10, reduceIte, gm_cmp1, gm_cmp3, gm_cmp4, gm_kd_sf, gm_ln_sf, gm_sf_1, gm_sf_2, gm_nw_1, gm_nw_2, gm_k_int, gm_k_ref, gm_k_null, gm_k_u, gm_k_long, and_true, true_and, true_or, or_true, or_false, false_or, and_self, or_self, if_true, if_false, List.map_nil, List.map_cons, List.sum_nil, List.sum_cons, Nat.zero_le, Option.toList_some, Option.toList_none, List.cons_append, List.nil_append, ne_eq, not_false_eq_true, not_true_eq_false, nI_1, nI_add, Value.category, Nat.reduceAdd, Nat.reduceMod, Nat.reduceLeDiff, Nat.reduceLT, Nat.reduceEqDiff, Nat.reducePow, Nat.le_refl, Nat.add_left_cancel_iff, Nat.add_eq_left, Nat.left_eq_add, Nat.add_zero]
  exact ⟨rfl, rfl⟩
theorem x_indexOf1 {b a : Nat} (hd : 3 ≤ d) (hb : b < 256) (R : gx_R E h x ca K F s) (ea : E 2 = .ref a) (ka : gm_kd h a = 6) : gm_Ca E d 128 [.ref a, .int (nI b)] h (gx_v (some (.int (gs_tyi b))) h) := by
  show gm_W E d 128 0 [.ref a, .int (nI b)] [] h _
  simp only [r128_0, r128_0n, r128_1, r128_2, r128_6, i32_10, reduceIte, gm_cmp1, gm_cmp3, gm_cmp4, gm_kd_sf, gm_ln_sf, gm_sf_1, gm_sf_2, gm_nw_1, gm_nw_2, gm_k_int, gm_k_ref, gm_k_null, gm_k_u, gm_k_long, and_true, true_and, true_or, or_true, or_false, false_or, and_self, or_self, if_true, if_false, List.map_nil, List.map_cons, List.sum_nil, List.sum_cons, Nat.zero_le, Option.toList_some, Option.toList_none, List.cons_append, List.nil_append, ne_eq, not_false_eq_true, not_true_eq_false, nI_1, nI_add, Value.category, Nat.reduceAdd, Nat.reduceMod, Nat.reduceLeDiff, Nat.reduceLT, Nat.reduceEqDiff, Nat.reducePow, Nat.le_refl, Nat.add_left_cancel_iff, Nat.add_eq_left, Nat.left_eq_add, Nat.add_zero]
  refine c128_3 (by simp) ka (by omega) (x_indexOf2 (by omega) hb R ea) (gx_kn ?_) gx_kx
  simp only [r128_0, r128_0n, r128_1, r128_2, r128_6, i32_10, reduceIte, gm_cmp1, gm_cmp3, gm_cmp4, gm_kd_sf, gm_ln_sf, gm_sf_1, gm_sf_2, gm_nw_1, gm_nw_2, gm_k_int, gm_k_ref, gm_k_null, gm_k_u, gm_k_long, and_true, true_and, true_or, or_true, or_false, false_or, and_self, or_self, if_true, if_false, List.map_nil, List.map_cons, List.sum_nil, List.sum_cons, Nat.zero_le, Option.toList_some, Option.toList_none, List.cons_append, List.nil_append, ne_eq, not_false_eq_true, not_true_eq_false, nI_1, nI_add, Value.category, Nat.reduceAdd, Nat.reduceMod, Nat.reduceLeDiff, Nat.reduceLT, Nat.reduceEqDiff, Nat.reducePow, Nat.le_refl, Nat.add_left_cancel_iff, Nat.add_eq_left, Nat.left_eq_add, Nat.add_zero]
  exact ⟨rfl, rfl⟩
end X8
