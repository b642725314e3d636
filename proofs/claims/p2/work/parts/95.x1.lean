/-! THE CLASS, 1: small methods. -/
/-- a call that comes back with v and leaves the heap h0 -/
def gx_v (v : Option Value) (h0 : gm_H) : gm_R → gm_H → Prop := fun r h' => r = .inl v ∧ h' = h0
theorem gx_kn {v : Option Value} {h0 : gm_H} {P : Option Value → gm_H → Prop} (k : P v h0) : ∀ (v9 : Option Value) (h9 : gm_H), gx_v v h0 (.inl v9) h9 → P v9 h9 := by
  rintro v9 h9 ⟨e, rfl⟩
  cases e
  exact k
theorem gx_kx {v : Option Value} {h0 : gm_H} {P : Nat → gm_H → Prop} : ∀ (x9 : Nat) (h9 : gm_H), gx_v v h0 (.inr x9) h9 → P x9 h9 := by
  rintro v9 h9 ⟨e, -⟩
  cases e
/-- a call that only fails -/
theorem gx_fn {α : Type} {E : Nat → Value} {h : gm_H} {x : Nat} {ca : Nat → Nat} {K : gs_K} {F G : Nat → Prop} {s : gs_S} {val : α → gm_H → Option Value → Prop} {f : Int32} {P : Option Value → gm_H → Prop} : ∀ (v9 : Option Value) (h9 : gm_H), gx_P E h x ca K F G s val (.error f) (.inl v9) h9 → P v9 h9 := by
  rintro v9 h9 ⟨_, _, e, -⟩
  cases e
theorem nI_leT {a b : Nat} (h : a ≤ b) (hb : b < 2 ^ 31) : (nI a ≤ nI b) = True := eq_true (nI_le h hb)
theorem nI_leF {a b : Nat} (h : b < a) (ha : a < 2 ^ 31) : (nI a ≤ nI b) = False := eq_false (nI_ge h ha)
theorem nI_ltT {a b : Nat} (h : a < b) (hb : b < 2 ^ 31) : (nI a < nI b) = True := eq_true (nI_lt h hb)
theorem nI_ltF {a b : Nat} (h : b ≤ a) (ha : a < 2 ^ 31) : (nI a < nI b) = False := eq_false (nI_nlt h ha)
theorem nI_sub {a b : Nat} (h : b ≤ a) : nI a - nI b = nI (a - b) := by
  have : nI a = nI (a - b) + nI b := by rw [nI_add]; congr 1; omega
  rw [this, Int32.add_sub_cancel]
section X1
variable {E : Nat → Value} {d x : Nat} {h : gm_H} {ca : Nat → Nat} {K : gs_K} {F G : Nat → Prop} {s : gs_S}
theorem x_isName (v : Int32) : gm_Ca E d 62 [.int v] h (gx_v (some (.int (if v < 0 then 0 else if 26 ≤ v then 0 else 1))) h) := by
  show gm_W E d 62 0 [.int v] [] h _
  simp only [r62_0, r62_1, r62_4, r62_5, r62_7, r62_10, r62_11, r62_14, r62_15, i32_10, reduceIte, gm_cmp1, gm_cmp3, gm_cmp4, gm_kd_sf, gm_ln_sf, gm_sf_1, gm_sf_2, gm_nw_1, gm_nw_2, gm_k_int, gm_k_ref, gm_k_null, gm_k_u, gm_k_long, and_true, true_and, true_or, or_true, or_false, false_or, and_self, or_self, if_true, if_false, List.map_nil, List.map_cons, List.sum_nil, List.sum_cons, Nat.zero_le, Option.toList_some, Option.toList_none, List.cons_append, List.nil_append, ne_eq, not_false_eq_true, not_true_eq_false, nI_1, nI_add, Value.category, Nat.reduceAdd, Nat.reduceMod, Nat.reduceLeDiff, Nat.reduceLT, Nat.reduceEqDiff, Nat.reducePow, Nat.le_refl, Nat.add_left_cancel_iff, Nat.add_eq_left, Nat.left_eq_add, Nat.add_zero]
  by_cases h1 : v < 0
  · simp [h1, gx_v]
  · by_cases h2 : 26 ≤ v <;> simp [h1, h2, gx_v]
theorem x_mayExtend (k a : Int32) : gm_Ca E d 63 [.int k, .int a] h (gx_v (some (.int (if 2 < a then 0 else if k ≤ 2 then (if k = 0 then (if a = 0 then 1 else 0) else 1) else 0))) h) := by
  show gm_W E d 63 0 [.int k, .int a] [] h _
  simp only [r63_0, r63_1, r63_2, r63_5, r63_6, r63_7, r63_10, r63_11, r63_12, r63_13, r63_16, r63_17, r63_20, r63_21, r63_24, r63_25, i32_10, reduceIte, gm_cmp1, gm_cmp3, gm_cmp4, gm_kd_sf, gm_ln_sf, gm_sf_1, gm_sf_2, gm_nw_1, gm_nw_2, gm_k_int, gm_k_ref, gm_k_null, gm_k_u, gm_k_long, and_true, true_and, true_or, or_true, or_false, false_or, and_self, or_self, if_true, if_false, List.map_nil, List.map_cons, List.sum_nil, List.sum_cons, Nat.zero_le, Option.toList_some, Option.toList_none, List.cons_append, List.nil_append, ne_eq, not_false_eq_true, not_true_eq_false, nI_1, nI_add, Value.category, Nat.reduceAdd, Nat.reduceMod, Nat.reduceLeDiff, Nat.reduceLT, Nat.reduceEqDiff, Nat.reducePow, Nat.le_refl, Nat.add_left_cancel_iff, Nat.add_eq_left, Nat.left_eq_add, Nat.add_zero]
  by_cases h1 : 2 < a
  · simp [h1, gx_v]
  · by_cases h2 : k ≤ 2
    · by_cases h3 : k = 0
      · subst h3
        by_cases h4 : a = 0 <;> simp [h1, h4, gx_v]
      · simp [h1, h2, h3, gx_v]
    · simp [h1, h2, gx_v]
theorem x_isBlock (v : Int32) : gm_Ca E d 74 [.int v] h (gx_v (some (.int (if gs_isB v = true then 1 else 0))) h) := by
  show gm_W E d 74 0 [.int v] [] h _
  simp only [r74_0, r74_1, r74_3, r74_6, r74_7, r74_9, r74_12, r74_13, r74_16, r74_17, i32_10, reduceIte, gm_cmp1, gm_cmp3, gm_cmp4, gm_kd_sf, gm_ln_sf, gm_sf_1, gm_sf_2, gm_nw_1, gm_nw_2, gm_k_int, gm_k_ref, gm_k_null, gm_k_u, gm_k_long, and_true, true_and, true_or, or_true, or_false, false_or, and_self, or_self, if_true, if_false, List.map_nil, List.map_cons, List.sum_nil, List.sum_cons, Nat.zero_le, Option.toList_some, Option.toList_none, List.cons_append, List.nil_append, ne_eq, not_false_eq_true, not_true_eq_false, nI_1, nI_add, Value.category, Nat.reduceAdd, Nat.reduceMod, Nat.reduceLeDiff, Nat.reduceLT, Nat.reduceEqDiff, Nat.reducePow, Nat.le_refl, Nat.add_left_cancel_iff, Nat.add_eq_left, Nat.left_eq_add, Nat.add_zero]
  by_cases h1 : v = 119
  · simp [h1, gx_v, gs_isB]
  · by_cases h2 : v = 122
    · subst h2; simp [gx_v, gs_isB]
    · simp [h1, h2, gx_v, gs_isB]
theorem x_size (R : gx_R E h x ca K F s) : gm_Ca E d 111 [.ref (x + 4)] h (gx_v (some (.int (nI (gs_size s)))) h) := by
  show gm_W E d 111 0 [.ref (x + 4)] [] h _
  obtain ⟨-, -, -, -, -, -, -, -, -, -, -, A4, -⟩ := R.1
  obtain ⟨-, -, -, -, z5, z6, z7, -⟩ := R.2.2.2.1
  simp only [r111_0, r111_0n, r111_1, r111_4, r111_4n, r111_5, r111_8, r111_9, i32_10, reduceIte, gm_cmp1, gm_cmp3, gm_cmp4, gm_kd_sf, gm_ln_sf, gm_sf_1, gm_sf_2, gm_nw_1, gm_nw_2, gm_k_int, gm_k_ref, gm_k_null, gm_k_u, gm_k_long, and_true, true_and, true_or, or_true, or_false, false_or, and_self, or_self, if_true, if_false, List.map_nil, List.map_cons, List.sum_nil, List.sum_cons, Nat.zero_le, Option.toList_some, Option.toList_none, List.cons_append, List.nil_append, ne_eq, not_false_eq_true, not_true_eq_false, nI_1, nI_add, Value.category, Nat.reduceAdd, Nat.reduceMod, Nat.reduceLeDiff, Nat.reduceLT, Nat.reduceEqDiff, Nat.reducePow, Nat.le_refl, Nat.add_left_cancel_iff, Nat.add_eq_left, Nat.left_eq_add, Nat.add_zero, A4, z5, z6, nI_sub z7]
  exact ⟨rfl, rfl⟩
theorem x_rewind {f m : Nat} {hk : gm_kd h x = 2} (u v : Int32) : gm_Ca E d 112 [.ref x, .int u, .int v] h (gx_v none (gm_sf (gm_sf h x 2 (.int u)) x 3 (.int v))) := by
  show gm_W E d 112 0 [.ref x, .int u, .int v] [] h _
  simp only [r112_0, r112_0n, r112_1, r112_2, r112_5, r112_5n, r112_6, r112_7, r112_10, i32_10, reduceIte, gm_cmp1, gm_cmp3, gm_cmp4, gm_kd_sf, gm_ln_sf, gm_sf_1, gm_sf_2, gm_nw_1, gm_nw_2, gm_k_int, gm_k_ref, gm_k_null, gm_k_u, gm_k_long, and_true, true_and, true_or, or_true, or_false, false_or, and_self, or_self, if_true, if_false, List.map_nil, List.map_cons, List.sum_nil, List.sum_cons, Nat.zero_le, Option.toList_some, Option.toList_none, List.cons_append, List.nil_append, ne_eq, not_false_eq_true, not_true_eq_false, nI_1, nI_add, Value.category, Nat.reduceAdd, Nat.reduceMod, Nat.reduceLeDiff, Nat.reduceLT, Nat.reduceEqDiff, Nat.reducePow, Nat.le_refl, Nat.add_left_cancel_iff, Nat.add_eq_left, Nat.left_eq_add, Nat.add_zero, hk]
  exact ⟨rfl, rfl⟩
theorem x_fail {α : Type} {val : α → gm_H → Option Value → Prop} {f : Int32} (R : gx_R E h x ca K F s) : gm_Ca E d 66 [.ref x, .int f] h (gx_P E h x ca K F G s val (.error f)) := by
  show gm_W E d 66 0 [.ref x, .int f] [] h _
  simp only [r66_0, r66_0n, r66_1, r66_2, r66_5, r66_8, r66_8i, i32_10, reduceIte, gm_cmp1, gm_cmp3, gm_cmp4, gm_kd_sf, gm_ln_sf, gm_sf_1, gm_sf_2, gm_nw_1, gm_nw_2, gm_k_int, gm_k_ref, gm_k_null, gm_k_u, gm_k_long, and_true, true_and, true_or, or_true, or_false, false_or, and_self, or_self, if_true, if_false, List.map_nil, List.map_cons, List.sum_nil, List.sum_cons, Nat.zero_le, Option.toList_some, Option.toList_none, List.cons_append, List.nil_append, ne_eq, not_false_eq_true, not_true_eq_false, nI_1, nI_add, Value.category, Nat.reduceAdd, Nat.reduceMod, Nat.reduceLeDiff, Nat.reduceLT, Nat.reduceEqDiff, Nat.reducePow, Nat.le_refl, Nat.add_left_cancel_iff, Nat.add_eq_left, Nat.left_eq_add, Nat.add_zero, R.1.1]
  refine ⟨f, rfl, R.err, (gx_mv.fld (by decide)).trans (gx_mv.new (by rw [gm_sf_1]; exact R.top)) gx_le.refl (fun _ z => Or.inr z), ?_⟩
  have := R.2.2.2.1.2.1
  constructor
  · simp only [gm_nw_1, gm_sf_1]; omega
  · simp only [gm_nw_2, gm_sf_2]; omega
theorem x_isInHeap {v : Int32} (R : gx_R E h x ca K F s) : gm_Ca E d 65 [.ref x, .int v] h (gx_v (some (.int (if v < 0 then 0 else if nI (gs_hp s).length ≤ v then 0 else 1))) h) := by
  show gm_W E d 65 0 [.ref x, .int v] [] h _
  obtain ⟨z1, z2, z3, z4, z5, z6, z7, z8, z9⟩ := R.2.2.2.1
  simp only [r65_0, r65_1, r65_4, r65_5, r65_5n, r65_6, r65_9, r65_12, r65_13, r65_16, r65_17, i32_10, reduceIte, gm_cmp1, gm_cmp3, gm_cmp4, gm_kd_sf, gm_ln_sf, gm_sf_1, gm_sf_2, gm_nw_1, gm_nw_2, gm_k_int, gm_k_ref, gm_k_null, gm_k_u, gm_k_long, and_true, true_and, true_or, or_true, or_false, false_or, and_self, or_self, if_true, if_false, List.map_nil, List.map_cons, List.sum_nil, List.sum_cons, Nat.zero_le, Option.toList_some, Option.toList_none, List.cons_append, List.nil_append, ne_eq, not_false_eq_true, not_true_eq_false, nI_1, nI_add, Value.category, Nat.reduceAdd, Nat.reduceMod, Nat.reduceLeDiff, Nat.reduceLT, Nat.reduceEqDiff, Nat.reducePow, Nat.le_refl, Nat.add_left_cancel_iff, Nat.add_eq_left, Nat.left_eq_add, Nat.add_zero, R.1.1, z3]
  by_cases h1 : v < 0
  · simp [h1, gx_v]
  · by_cases h2 : nI (gs_hp s).length ≤ v <;> simp [h1, h2, gx_v]
/-- bytes as a number -/
theorem x_numberAt {a z : Nat} (R : gx_R E h x ca K F s) (hz : a + z ≤ gs_n K) : gm_Ca E d 67 [.ref x, .int (nI a), .int (nI z)] h (gx_v (some (.long (gs_num K a z))) h) := by
  obtain ⟨A0, -, A5, -, -, -, -, A2, A3, -⟩ := R.1
  obtain ⟨-, -, -, -, B6, B7, B8⟩ := R.2.1
  have loop : ∀ (m i : Nat), i + m = z → gm_W E d 67 5 [.ref x, .int (nI a), .int (nI z), .long (gs_num K a i), gm_u, .int (nI (a + i))] [] h (gx_v (some (.long (gs_num K a z))) h) := by
    intro m
    induction m with
    | zero =>
      intro i hi
      have hi : i = z := by omega
      subst hi
      simp only [r67_0, r67_1, r67_2, r67_3, r67_5, r67_7, r67_8, r67_9, r67_10, r67_13, r67_15, r67_15n, r67_16, r67_19, r67_22, r67_23, r67_25, r67_26, r67_26n, r67_27, r67_30, r67_32, r67_33, r67_36, r67_37, r67_38, r67_39, r67_40, r67_43, r67_46, r67_47, i32_10, reduceIte, gm_cmp1, gm_cmp3, gm_cmp4, gm_kd_sf, gm_ln_sf, gm_sf_1, gm_sf_2, gm_nw_1, gm_nw_2, gm_k_int, gm_k_ref, gm_k_null, gm_k_u, gm_k_long, and_true, true_and, true_or, or_true, or_false, false_or, and_self, or_self, if_true, if_false, List.map_nil, List.map_cons, List.sum_nil, List.sum_cons, Nat.zero_le, Option.toList_some, Option.toList_none, List.cons_append, List.nil_append, ne_eq, not_false_eq_true, not_true_eq_false, nI_1, nI_add, Value.category, Nat.reduceAdd, Nat.reduceMod, Nat.reduceLeDiff, Nat.reduceLT, Nat.reduceEqDiff, Nat.reducePow, Nat.le_refl, Nat.add_left_cancel_iff, Nat.add_eq_left, Nat.left_eq_add, Nat.add_zero, nI_leT (Nat.le_refl (a + i)) (show a + i < 2 ^ 31 by omega)]
      exact ⟨rfl, rfl⟩
    | succ m ih =>
      intro i hi
      have e : a + i < 700 := by omega
      have e2 : a + i < gs_n K := by omega
      rw [r67_5]
      simp only [r67_0, r67_1, r67_2, r67_3, r67_7, r67_8, r67_9, r67_10, r67_13, r67_15, r67_15n, r67_16, r67_19, r67_22, r67_23, r67_25, r67_26, r67_26n, r67_27, r67_30, r67_32, r67_33, r67_36, r67_37, r67_38, r67_39, r67_40, r67_43, r67_46, r67_47, i32_10, reduceIte, gm_cmp1, gm_cmp3, gm_cmp4, gm_kd_sf, gm_ln_sf, gm_sf_1, gm_sf_2, gm_nw_1, gm_nw_2, gm_k_int, gm_k_ref, gm_k_null, gm_k_u, gm_k_long, and_true, true_and, true_or, or_true, or_false, false_or, and_self, or_self, if_true, if_false, List.map_nil, List.map_cons, List.sum_nil, List.sum_cons, Nat.zero_le, Option.toList_some, Option.toList_none, List.cons_append, List.nil_append, ne_eq, not_false_eq_true, not_true_eq_false, nI_1, nI_add, Value.category, Nat.reduceAdd, Nat.reduceMod, Nat.reduceLeDiff, Nat.reduceLT, Nat.reduceEqDiff, Nat.reducePow, Nat.le_refl, Nat.add_left_cancel_iff, Nat.add_eq_left, Nat.left_eq_add, Nat.add_zero, nI_leF (show a + i < a + z by omega) (show a + z < 2 ^ 31 by omega), nI_leF (show a + i < gs_n K by omega) (show gs_n K < 2 ^ 31 by omega), A0, A5, B6, A2, A3, e, B8 _ e2]
      exact ih (i + 1) (by omega)
  show gm_W E d 67 0 [.ref x, .int (nI a), .int (nI z), gm_u, gm_u, gm_u] [] h _
  have l0 := loop z 0 (by omega)
  simp only [r67_0, r67_1, r67_2, r67_3, r67_7, r67_8, r67_9, r67_10, r67_13, r67_15, r67_15n, r67_16, r67_19, r67_22, r67_23, r67_25, r67_26, r67_26n, r67_27, r67_30, r67_32, r67_33, r67_36, r67_37, r67_38, r67_39, r67_40, r67_43, r67_46, r67_47, i32_10, reduceIte, gm_cmp1, gm_cmp3, gm_cmp4, gm_kd_sf, gm_ln_sf, gm_sf_1, gm_sf_2, gm_nw_1, gm_nw_2, gm_k_int, gm_k_ref, gm_k_null, gm_k_u, gm_k_long, and_true, true_and, true_or, or_true, or_false, false_or, and_self, or_self, if_true, if_false, List.map_nil, List.map_cons, List.sum_nil, List.sum_cons, Nat.zero_le, Option.toList_some, Option.toList_none, List.cons_append, List.nil_append, ne_eq, not_false_eq_true, not_true_eq_false, nI_1, nI_add, Value.category, Nat.reduceAdd, Nat.reduceMod, Nat.reduceLeDiff, Nat.reduceLT, Nat.reduceEqDiff, Nat.reducePow, Nat.le_refl, Nat.add_left_cancel_iff, Nat.add_eq_left, Nat.left_eq_add, Nat.add_zero]
  exact l0
theorem x_nextNumber {z : Nat} (hd : 1 ≤ d) (R : gx_R E h x ca K F s) (hz : z ≤ 8) : gm_Ca E d 68 [.ref x, .int (nI z)] h (gx_P E h x ca K F G s (fun a h' v => v = some (.long a) ∧ gx_nal h h') (gs_nxt K z s)) := by
  show gm_W E d 68 0 [.ref x, .int (nI z), gm_u, gm_u] [] h _
  obtain ⟨A0, -, A5, -, -, -, -, A2, A3, -⟩ := R.1
  obtain ⟨-, -, -, -, B6, B7, B8⟩ := R.2.1
  obtain ⟨z1, z2, z3, z4, z5, z6, z7, z8, z9⟩ := R.2.2.2.1
  by_cases hc : gs_n K - gs_pl s < z
  · simp only [r68_0, r68_0n, r68_1, r68_4, r68_4n, r68_5, r68_8, r68_9, r68_10, r68_13, r68_13n, r68_14, r68_19, r68_20, r68_21, r68_21n, r68_22, r68_22n, r68_23, r68_26, r68_30, r68_31, r68_31n, r68_32, r68_32i, r68_33, r68_36, r68_37, r68_38, r68_41, r68_42, i32_10, reduceIte, gm_cmp1, gm_cmp3, gm_cmp4, gm_kd_sf, gm_ln_sf, gm_sf_1, gm_sf_2, gm_nw_1, gm_nw_2, gm_k_int, gm_k_ref, gm_k_null, gm_k_u, gm_k_long, and_true, true_and, true_or, or_true, or_false, false_or, and_self, or_self, if_true, if_false, List.map_nil, List.map_cons, List.sum_nil, List.sum_cons, Nat.zero_le, Option.toList_some, Option.toList_none, List.cons_append, List.nil_append, ne_eq, not_false_eq_true, not_true_eq_false, nI_1, nI_add, Value.category, Nat.reduceAdd, Nat.reduceMod, Nat.reduceLeDiff, Nat.reduceLT, Nat.reduceEqDiff, Nat.reducePow, Nat.le_refl, Nat.add_left_cancel_iff, Nat.add_eq_left, Nat.left_eq_add, Nat.add_zero, A0, B6, z1, nI_sub z2, nI_leF hc (show z < 2 ^ 31 by omega)]
    have e : gs_nxt K z s = .error (-3) := by unfold gs_nxt; rw [if_pos hc]
    rw [e]
    exact c68_16 (by simp) A0 hd (x_fail R) gx_fn (fun _ _ q => q)
  · simp only [r68_0, r68_0n, r68_1, r68_4, r68_4n, r68_5, r68_8, r68_9, r68_10, r68_13, r68_13n, r68_14, r68_19, r68_20, r68_21, r68_21n, r68_22, r68_22n, r68_23, r68_26, r68_30, r68_31, r68_31n, r68_32, r68_32i, r68_33, r68_36, r68_37, r68_38, r68_41, r68_42, i32_10, reduceIte, gm_cmp1, gm_cmp3, gm_cmp4, gm_kd_sf, gm_ln_sf, gm_sf_1, gm_sf_2, gm_nw_1, gm_nw_2, gm_k_int, gm_k_ref, gm_k_null, gm_k_u, gm_k_long, and_true, true_and, true_or, or_true, or_false, false_or, and_self, or_self, if_true, if_false, List.map_nil, List.map_cons, List.sum_nil, List.sum_cons, Nat.zero_le, Option.toList_some, Option.toList_none, List.cons_append, List.nil_append, ne_eq, not_false_eq_true, not_true_eq_false, nI_1, nI_add, Value.category, Nat.reduceAdd, Nat.reduceMod, Nat.reduceLeDiff, Nat.reduceLT, Nat.reduceEqDiff, Nat.reducePow, Nat.le_refl, Nat.add_left_cancel_iff, Nat.add_eq_left, Nat.left_eq_add, Nat.add_zero, A0, B6, z1, nI_sub z2, nI_leT (show z ≤ gs_n K - gs_pl s by omega) (show gs_n K - gs_pl s < 2 ^ 31 by omega)]
    refine c68_27 (by simp [Value.category]) A0 hd (x_numberAt R (by omega)) (gx_kn ?_) gx_kx
    simp only [r68_0, r68_0n, r68_1, r68_4, r68_4n, r68_5, r68_8, r68_9, r68_10, r68_13, r68_13n, r68_14, r68_19, r68_20, r68_21, r68_21n, r68_22, r68_22n, r68_23, r68_26, r68_30, r68_31, r68_31n, r68_32, r68_32i, r68_33, r68_36, r68_37, r68_38, r68_41, r68_42, i32_10, reduceIte, gm_cmp1, gm_cmp3, gm_cmp4, gm_kd_sf, gm_ln_sf, gm_sf_1, gm_sf_2, gm_nw_1, gm_nw_2, gm_k_int, gm_k_ref, gm_k_null, gm_k_u, gm_k_long, and_true, true_and, true_or, or_true, or_false, false_or, and_self, or_self, if_true, if_false, List.map_nil, List.map_cons, List.sum_nil, List.sum_cons, Nat.zero_le, Option.toList_some, Option.toList_none, List.cons_append, List.nil_append, ne_eq, not_false_eq_true, not_true_eq_false, nI_1, nI_add, Value.category, Nat.reduceAdd, Nat.reduceMod, Nat.reduceLeDiff, Nat.reduceLT, Nat.reduceEqDiff, Nat.reducePow, Nat.le_refl, Nat.add_left_cancel_iff, Nat.add_eq_left, Nat.left_eq_add, Nat.add_zero, A0, z1]
    refine ⟨_, gs_p (gs_pl s + z) s, by unfold gs_nxt; rw [if_neg hc], ⟨rfl, gx_nal.refl.sf⟩, R.place (by omega), gx_mv.fld (by decide), gx_le.refl, ?_⟩
    constructor
    · simp only [gm_sf_1]; show _ + gs_pl s ≤ _ + (gs_pl s + z); omega
    · simp only [gm_sf_2]; show _ + 8 * gs_pl s ≤ _ + 8 * (gs_pl s + z); omega
theorem x_nextByte (hd : 2 ≤ d) (R : gx_R E h x ca K F s) : gm_Ca E d 69 [.ref x] h (gx_P E h x ca K F G s (fun a h' v => v = some (.int a) ∧ gx_nal h h') (gs_u1 K s)) := by
  show gm_W E d 69 0 [.ref x] [] h _
  simp only [r69_0, r69_0n, r69_1, r69_5, r69_6, i32_10, reduceIte, gm_cmp1, gm_cmp3, gm_cmp4, gm_kd_sf, gm_ln_sf, gm_sf_1, gm_sf_2, gm_nw_1, gm_nw_2, gm_k_int, gm_k_ref, gm_k_null, gm_k_u, gm_k_long, and_true, true_and, true_or, or_true, or_false, false_or, and_self, or_self, if_true, if_false, List.map_nil, List.map_cons, List.sum_nil, List.sum_cons, Nat.zero_le, Option.toList_some, Option.toList_none, List.cons_append, List.nil_append, ne_eq, not_false_eq_true, not_true_eq_false, nI_1, nI_add, Value.category, Nat.reduceAdd, Nat.reduceMod, Nat.reduceLeDiff, Nat.reduceLT, Nat.reduceEqDiff, Nat.reducePow, Nat.le_refl, Nat.add_left_cancel_iff, Nat.add_eq_left, Nat.left_eq_add, Nat.add_zero]
  refine c69_2 (by simp) R.1.1 (by omega) (x_nextNumber (z := 1) (by omega) R (by decide)) (fun v h1 q => ?_) (fun _ _ q => q.ber)
  obtain ⟨a, s1, e, ⟨rfl, na⟩, q⟩ := q
  simp only [r69_0, r69_0n, r69_1, r69_5, r69_6, i32_10, reduceIte, gm_cmp1, gm_cmp3, gm_cmp4, gm_kd_sf, gm_ln_sf, gm_sf_1, gm_sf_2, gm_nw_1, gm_nw_2, gm_k_int, gm_k_ref, gm_k_null, gm_k_u, gm_k_long, and_true, true_and, true_or, or_true, or_false, false_or, and_self, or_self, if_true, if_false, List.map_nil, List.map_cons, List.sum_nil, List.sum_cons, Nat.zero_le, Option.toList_some, Option.toList_none, List.cons_append, List.nil_append, ne_eq, not_false_eq_true, not_true_eq_false, nI_1, nI_add, Value.category, Nat.reduceAdd, Nat.reduceMod, Nat.reduceLeDiff, Nat.reduceLT, Nat.reduceEqDiff, Nat.reducePow, Nat.le_refl, Nat.add_left_cancel_iff, Nat.add_eq_left, Nat.left_eq_add, Nat.add_zero]
  exact ⟨a.toInt32, s1, by unfold gs_u1; rw [gs_b_ok e]; rfl, ⟨rfl, na⟩, q⟩
theorem x_nextInt (hd : 2 ≤ d) (R : gx_R E h x ca K F s) : gm_Ca E d 70 [.ref x] h (gx_P E h x ca K F G s (fun a h' v => v = some (.int a) ∧ gx_nal h h') (gs_u4 K s)) := by
  show gm_W E d 70 0 [.ref x] [] h _
  simp only [r70_0, r70_0n, r70_1, r70_5, r70_6, i32_10, reduceIte, gm_cmp1, gm_cmp3, gm_cmp4, gm_kd_sf, gm_ln_sf, gm_sf_1, gm_sf_2, gm_nw_1, gm_nw_2, gm_k_int, gm_k_ref, gm_k_null, gm_k_u, gm_k_long, and_true, true_and, true_or, or_true, or_false, false_or, and_self, or_self, if_true, if_false, List.map_nil, List.map_cons, List.sum_nil, List.sum_cons, Nat.zero_le, Option.toList_some, Option.toList_none, List.cons_append, List.nil_append, ne_eq, not_false_eq_true, not_true_eq_false, nI_1, nI_add, Value.category, Nat.reduceAdd, Nat.reduceMod, Nat.reduceLeDiff, Nat.reduceLT, Nat.reduceEqDiff, Nat.reducePow, Nat.le_refl, Nat.add_left_cancel_iff, Nat.add_eq_left, Nat.left_eq_add, Nat.add_zero]
  refine c70_2 (by simp) R.1.1 (by omega) (x_nextNumber (z := 4) (by omega) R (by decide)) (fun v h1 q => ?_) (fun _ _ q => q.ber)
  obtain ⟨a, s1, e, ⟨rfl, na⟩, q⟩ := q
  simp only [r70_0, r70_0n, r70_1, r70_5, r70_6, i32_10, reduceIte, gm_cmp1, gm_cmp3, gm_cmp4, gm_kd_sf, gm_ln_sf, gm_sf_1, gm_sf_2, gm_nw_1, gm_nw_2, gm_k_int, gm_k_ref, gm_k_null, gm_k_u, gm_k_long, and_true, true_and, true_or, or_true, or_false, false_or, and_self, or_self, if_true, if_false, List.map_nil, List.map_cons, List.sum_nil, List.sum_cons, Nat.zero_le, Option.toList_some, Option.toList_none, List.cons_append, List.nil_append, ne_eq, not_false_eq_true, not_true_eq_false, nI_1, nI_add, Value.category, Nat.reduceAdd, Nat.reduceMod, Nat.reduceLeDiff, Nat.reduceLT, Nat.reduceEqDiff, Nat.reducePow, Nat.le_refl, Nat.add_left_cancel_iff, Nat.add_eq_left, Nat.left_eq_add, Nat.add_zero]
  exact ⟨a.toInt32, s1, by unfold gs_u4; rw [gs_b_ok e]; rfl, ⟨rfl, na⟩, q⟩
end X1
