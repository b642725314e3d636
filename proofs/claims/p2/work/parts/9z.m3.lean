/-! THE REFERENCE, 2: numbers and UTF out of the bytes. -/
section M3
variable {E : Nat → Value} {d m : Nat} {h : gm_H} {t : gr_t} {K : gs_K}
theorem gr_ui_ui {o i : Nat} {x y : Int32} : gr_ui (gr_ui t o i x) o i y = gr_ui t o i y := by
  unfold gr_ui
  refine Prod.ext ?_ rfl
  funext a b
  dsimp only
  by_cases e : a = o ∧ b = i
  · rw [if_pos e, if_pos e]
  · rw [if_neg e, if_neg e, if_neg e]
theorem gr_ui_id {o i : Nat} {x : Int32} (hx : t.1 o i = x) : gr_ui t o i x = t := by
  unfold gr_ui
  refine Prod.ext ?_ rfl
  funext a b
  dsimp only
  by_cases e : a = o ∧ b = i
  · rw [if_pos e, e.1, e.2, hx]
  · rw [if_neg e]
/-- size and bytes -/
def gr_B (t : gr_t) (K : gs_K) : Prop := t.1 0 5 = nI (gs_n K) ∧ gs_n K ≤ 700 ∧ ∀ i, i < gs_n K → t.1 1 i = gs_sb K i &&& 255
theorem gr_B.ui {o i : Nat} {x : Int32} (B : gr_B t K) (h1 : o ≠ 1) (h2 : o ≠ 0 ∨ i ≠ 5) : gr_B (gr_ui t o i x) K := by
  refine ⟨?_, B.2.1, fun j hj => ?_⟩
  · rcases h2 with z | z
    · rw [gr_ui_no (Ne.symm z)]; exact B.1
    · rw [gr_ui_ni (Ne.symm z)]; exact B.1
  · rw [gr_ui_no (Ne.symm h1)]; exact B.2.2 j hj
/-- a fault f, the place anywhere -/
def gr_er (t t' : gr_t) (f : Int32) : Prop := f ≠ 0 ∧ ∃ p : Nat, p ≤ 700 ∧ t' = gr_ui (gr_ui t 0 6 (nI p)) 0 8 f
theorem m_number {p k : Nat} (hd : 2 ≤ d) (B : gr_B t K) (hp : t.1 0 6 = nI p) (hpn : p ≤ gs_n K) (h8 : t.1 0 8 = 0) (hk : k ≤ 8) : gm_Ca E d 12 [.ref m, .int (nI k)] (gr_H h m t) (fun r h' => (p + k ≤ gs_n K → r = .inl (some (.long (gs_num K p k))) ∧ h' = gr_H h m (gr_ui t 0 6 (nI (p + k)))) ∧ (gs_n K < p + k → ∃ v t', r = .inl (some (.long v)) ∧ h' = gr_H h m t' ∧ gr_er t t' (-3))) := by
  obtain ⟨Q, hQ⟩ : ∃ Q : gm_R → gm_H → Prop, Q = (fun r h' => (p + k ≤ gs_n K → r = .inl (some (.long (gs_num K p k))) ∧ h' = gr_H h m (gr_ui t 0 6 (nI (p + k)))) ∧ (gs_n K < p + k → ∃ v t', r = .inl (some (.long v)) ∧ h' = gr_H h m t' ∧ gr_er t t' (-3))) := ⟨_, rfl⟩
  rw [← hQ]
  have hn7 := B.2.1
  -- bytes are left
  have good : ∀ (j i : Nat), i + j = k → p + i ≤ gs_n K → gm_W E d 12 5 [.ref m, .int (nI k), .long (gs_num K p i), gm_u, .int (nI i)] [] (gr_H h m (gr_ui t 0 6 (nI (p + i)))) Q := by
    intro j
    induction j with
    | zero =>
      intro i hi hpi
      have hi : i = k := by omega
      subst hi
      simp only [r12_0, r12_1, r12_2, r12_3, r12_5, r12_7, r12_8, r12_11, r12_12, r12_14, r12_15, r12_15n, r12_19, r12_20, r12_21, r12_22, r12_25, r12_28, r12_29, i32_10, reduceIte, gm_cmp1, gm_cmp3, gm_cmp4, gm_kd_sf, gm_ln_sf, gm_sf_1, gm_sf_2, gm_nw_1, gm_nw_2, gm_k_int, gm_k_ref, gm_k_null, gm_k_u, gm_k_long, and_true, true_and, true_or, or_true, or_false, false_or, and_self, or_self, if_true, if_false, List.map_nil, List.map_cons, List.sum_nil, List.sum_cons, Nat.zero_le, Option.toList_some, Option.toList_none, List.cons_append, List.nil_append, ne_eq, not_false_eq_true, not_true_eq_false, nI_1, nI_add, Value.category, Nat.reduceAdd, Nat.reduceMod, Nat.reduceLeDiff, Nat.reduceLT, Nat.reduceEqDiff, Nat.reducePow, Nat.le_refl, Nat.add_left_cancel_iff, Nat.add_eq_left, Nat.left_eq_add, Nat.add_zero, nI_leT (Nat.le_refl i) (show i < 2 ^ 31 by omega)]
      rw [hQ]
      exact ⟨fun _ => ⟨rfl, rfl⟩, fun z => absurd z (by omega)⟩
    | succ j ih =>
      intro i hi hpi
      have B1 : gr_B (gr_ui t 0 6 (nI (p + i))) K := B.ui (by decide) (Or.inr (by decide))
      have p1 : (gr_ui t 0 6 (nI (p + i))).1 0 6 = nI (p + i) := gr_ui_eq
      have e8 : (gr_ui t 0 6 (nI (p + i))).1 0 8 = 0 := by rw [gr_ui_ni (by decide)]; exact h8
      rw [r12_5]
      by_cases hc : p + i < gs_n K
      · simp only [r12_0, r12_1, r12_2, r12_3, r12_7, r12_8, r12_11, r12_12, r12_14, r12_15, r12_15n, r12_19, r12_20, r12_21, r12_22, r12_25, r12_28, r12_29, i32_10, reduceIte, gm_cmp1, gm_cmp3, gm_cmp4, gm_kd_sf, gm_ln_sf, gm_sf_1, gm_sf_2, gm_nw_1, gm_nw_2, gm_k_int, gm_k_ref, gm_k_null, gm_k_u, gm_k_long, and_true, true_and, true_or, or_true, or_false, false_or, and_self, or_self, if_true, if_false, List.map_nil, List.map_cons, List.sum_nil, List.sum_cons, Nat.zero_le, Option.toList_some, Option.toList_none, List.cons_append, List.nil_append, ne_eq, not_false_eq_true, not_true_eq_false, nI_1, nI_add, Value.category, Nat.reduceAdd, Nat.reduceMod, Nat.reduceLeDiff, Nat.reduceLT, Nat.reduceEqDiff, Nat.reducePow, Nat.le_refl, Nat.add_left_cancel_iff, Nat.add_eq_left, Nat.left_eq_add, Nat.add_zero, nI_leF (show i < k by omega) (show k < 2 ^ 31 by omega)]
        refine c12_16 (by simp [Value.category]) g_k0 (by omega) (m_next2 B1.1 p1 hn7 hc e8) (gx_kn ?_) gx_kx
        simp only [r12_0, r12_1, r12_2, r12_3, r12_7, r12_8, r12_11, r12_12, r12_14, r12_15, r12_15n, r12_19, r12_20, r12_21, r12_22, r12_25, r12_28, r12_29, i32_10, reduceIte, gm_cmp1, gm_cmp3, gm_cmp4, gm_kd_sf, gm_ln_sf, gm_sf_1, gm_sf_2, gm_nw_1, gm_nw_2, gm_k_int, gm_k_ref, gm_k_null, gm_k_u, gm_k_long, and_true, true_and, true_or, or_true, or_false, false_or, and_self, or_self, if_true, if_false, List.map_nil, List.map_cons, List.sum_nil, List.sum_cons, Nat.zero_le, Option.toList_some, Option.toList_none, List.cons_append, List.nil_append, ne_eq, not_false_eq_true, not_true_eq_false, nI_1, nI_add, Value.category, Nat.reduceAdd, Nat.reduceMod, Nat.reduceLeDiff, Nat.reduceLT, Nat.reduceEqDiff, Nat.reducePow, Nat.le_refl, Nat.add_left_cancel_iff, Nat.add_eq_left, Nat.left_eq_add, Nat.add_zero]
        rw [gr_ui_ui]
        have eb : (gr_ui t 0 6 (nI (p + i))).1 1 (p + i) = gs_sb K (p + i) &&& 255 := B1.2.2 _ hc
        rw [eb]
        exact ih (i + 1) (by omega) (by omega)
      · have hpe : p + i = gs_n K := by omega
        -- none is left: the fault stays
        have bad : ∀ (j i : Nat) (v : Int64), i + j = k → gm_W E d 12 5 [.ref m, .int (nI k), .long v, gm_u, .int (nI i)] [] (gr_H h m (gr_ui (gr_ui t 0 6 (nI (gs_n K))) 0 8 (-3))) Q := by
          intro j
          induction j with
          | zero =>
            intro i2 v hi2
            have hi2 : i2 = k := by omega
            subst hi2
            simp only [r12_0, r12_1, r12_2, r12_3, r12_5, r12_7, r12_8, r12_11, r12_12, r12_14, r12_15, r12_15n, r12_19, r12_20, r12_21, r12_22, r12_25, r12_28, r12_29, i32_10, reduceIte, gm_cmp1, gm_cmp3, gm_cmp4, gm_kd_sf, gm_ln_sf, gm_sf_1, gm_sf_2, gm_nw_1, gm_nw_2, gm_k_int, gm_k_ref, gm_k_null, gm_k_u, gm_k_long, and_true, true_and, true_or, or_true, or_false, false_or, and_self, or_self, if_true, if_false, List.map_nil, List.map_cons, List.sum_nil, List.sum_cons, Nat.zero_le, Option.toList_some, Option.toList_none, List.cons_append, List.nil_append, ne_eq, not_false_eq_true, not_true_eq_false, nI_1, nI_add, Value.category, Nat.reduceAdd, Nat.reduceMod, Nat.reduceLeDiff, Nat.reduceLT, Nat.reduceEqDiff, Nat.reducePow, Nat.le_refl, Nat.add_left_cancel_iff, Nat.add_eq_left, Nat.left_eq_add, Nat.add_zero, nI_leT (Nat.le_refl i2) (show i2 < 2 ^ 31 by omega)]
            rw [hQ]
            exact ⟨fun z => absurd z (by omega), fun _ => ⟨v, _, rfl, rfl, by decide, gs_n K, hn7, rfl⟩⟩
          | succ j ih2 =>
            intro i2 v hi2
            have B2 : gr_B (gr_ui (gr_ui t 0 6 (nI (gs_n K))) 0 8 (-3)) K := (B.ui (by decide) (Or.inr (by decide))).ui (by decide) (Or.inr (by decide))
            have p2 : (gr_ui (gr_ui t 0 6 (nI (gs_n K))) 0 8 (-3)).1 0 6 = nI (gs_n K) := by rw [gr_ui_ni (by decide), gr_ui_eq]
            have ef : gr_fl (gr_ui (gr_ui t 0 6 (nI (gs_n K))) 0 8 (-3)) (-3) = gr_ui (gr_ui t 0 6 (nI (gs_n K))) 0 8 (-3) := by unfold gr_fl; rw [gr_ui_eq, if_neg (by decide)]
            rw [r12_5]
            simp only [r12_0, r12_1, r12_2, r12_3, r12_7, r12_8, r12_11, r12_12, r12_14, r12_15, r12_15n, r12_19, r12_20, r12_21, r12_22, r12_25, r12_28, r12_29, i32_10, reduceIte, gm_cmp1, gm_cmp3, gm_cmp4, gm_kd_sf, gm_ln_sf, gm_sf_1, gm_sf_2, gm_nw_1, gm_nw_2, gm_k_int, gm_k_ref, gm_k_null, gm_k_u, gm_k_long, and_true, true_and, true_or, or_true, or_false, false_or, and_self, or_self, if_true, if_false, List.map_nil, List.map_cons, List.sum_nil, List.sum_cons, Nat.zero_le, Option.toList_some, Option.toList_none, List.cons_append, List.nil_append, ne_eq, not_false_eq_true, not_true_eq_false, nI_1, nI_add, Value.category, Nat.reduceAdd, Nat.reduceMod, Nat.reduceLeDiff, Nat.reduceLT, Nat.reduceEqDiff, Nat.reducePow, Nat.le_refl, Nat.add_left_cancel_iff, Nat.add_eq_left, Nat.left_eq_add, Nat.add_zero, nI_leF (show i2 < k by omega) (show k < 2 ^ 31 by omega)]
            refine c12_16 (by simp [Value.category]) g_k0 (by omega) (m_next0 (by omega) B2.1 p2 hn7 (Nat.le_refl _)) (gx_kn ?_) gx_kx
            rw [ef]
            simp only [r12_0, r12_1, r12_2, r12_3, r12_7, r12_8, r12_11, r12_12, r12_14, r12_15, r12_15n, r12_19, r12_20, r12_21, r12_22, r12_25, r12_28, r12_29, i32_10, reduceIte, gm_cmp1, gm_cmp3, gm_cmp4, gm_kd_sf, gm_ln_sf, gm_sf_1, gm_sf_2, gm_nw_1, gm_nw_2, gm_k_int, gm_k_ref, gm_k_null, gm_k_u, gm_k_long, and_true, true_and, true_or, or_true, or_false, false_or, and_self, or_self, if_true, if_false, List.map_nil, List.map_cons, List.sum_nil, List.sum_cons, Nat.zero_le, Option.toList_some, Option.toList_none, List.cons_append, List.nil_append, ne_eq, not_false_eq_true, not_true_eq_false, nI_1, nI_add, Value.category, Nat.reduceAdd, Nat.reduceMod, Nat.reduceLeDiff, Nat.reduceLT, Nat.reduceEqDiff, Nat.reducePow, Nat.le_refl, Nat.add_left_cancel_iff, Nat.add_eq_left, Nat.left_eq_add, Nat.add_zero]
            exact ih2 (i2 + 1) _ (by omega)
        simp only [r12_0, r12_1, r12_2, r12_3, r12_7, r12_8, r12_11, r12_12, r12_14, r12_15, r12_15n, r12_19, r12_20, r12_21, r12_22, r12_25, r12_28, r12_29, i32_10, reduceIte, gm_cmp1, gm_cmp3, gm_cmp4, gm_kd_sf, gm_ln_sf, gm_sf_1, gm_sf_2, gm_nw_1, gm_nw_2, gm_k_int, gm_k_ref, gm_k_null, gm_k_u, gm_k_long, and_true, true_and, true_or, or_true, or_false, false_or, and_self, or_self, if_true, if_false, List.map_nil, List.map_cons, List.sum_nil, List.sum_cons, Nat.zero_le, Option.toList_some, Option.toList_none, List.cons_append, List.nil_append, ne_eq, not_false_eq_true, not_true_eq_false, nI_1, nI_add, Value.category, Nat.reduceAdd, Nat.reduceMod, Nat.reduceLeDiff, Nat.reduceLT, Nat.reduceEqDiff, Nat.reducePow, Nat.le_refl, Nat.add_left_cancel_iff, Nat.add_eq_left, Nat.left_eq_add, Nat.add_zero, nI_leF (show i < k by omega) (show k < 2 ^ 31 by omega)]
        refine c12_16 (by simp [Value.category]) g_k0 (by omega) (m_next0 (by omega) B1.1 p1 (by omega) (by omega)) (gx_kn ?_) gx_kx
        have ef : gr_fl (gr_ui t 0 6 (nI (p + i))) (-3) = gr_ui (gr_ui t 0 6 (nI (gs_n K))) 0 8 (-3) := by unfold gr_fl; rw [if_pos e8, hpe]
        rw [ef]
        simp only [r12_0, r12_1, r12_2, r12_3, r12_7, r12_8, r12_11, r12_12, r12_14, r12_15, r12_15n, r12_19, r12_20, r12_21, r12_22, r12_25, r12_28, r12_29, i32_10, reduceIte, gm_cmp1, gm_cmp3, gm_cmp4, gm_kd_sf, gm_ln_sf, gm_sf_1, gm_sf_2, gm_nw_1, gm_nw_2, gm_k_int, gm_k_ref, gm_k_null, gm_k_u, gm_k_long, and_true, true_and, true_or, or_true, or_false, false_or, and_self, or_self, if_true, if_false, List.map_nil, List.map_cons, List.sum_nil, List.sum_cons, Nat.zero_le, Option.toList_some, Option.toList_none, List.cons_append, List.nil_append, ne_eq, not_false_eq_true, not_true_eq_false, nI_1, nI_add, Value.category, Nat.reduceAdd, Nat.reduceMod, Nat.reduceLeDiff, Nat.reduceLT, Nat.reduceEqDiff, Nat.reducePow, Nat.le_refl, Nat.add_left_cancel_iff, Nat.add_eq_left, Nat.left_eq_add, Nat.add_zero]
        exact bad j (i + 1) _ (by omega)
  have g0 := good k 0 (by omega) (by omega)
  rw [Nat.add_zero, gr_ui_id hp] at g0
  show gm_W E d 12 0 [.ref m, .int (nI k), gm_u, gm_u, gm_u] [] (gr_H h m t) Q
  simp only [r12_0, r12_1, r12_2, r12_3, r12_7, r12_8, r12_11, r12_12, r12_14, r12_15, r12_15n, r12_19, r12_20, r12_21, r12_22, r12_25, r12_28, r12_29, i32_10, reduceIte, gm_cmp1, gm_cmp3, gm_cmp4, gm_kd_sf, gm_ln_sf, gm_sf_1, gm_sf_2, gm_nw_1, gm_nw_2, gm_k_int, gm_k_ref, gm_k_null, gm_k_u, gm_k_long, and_true, true_and, true_or, or_true, or_false, false_or, and_self, or_self, if_true, if_false, List.map_nil, List.map_cons, List.sum_nil, List.sum_cons, Nat.zero_le, Option.toList_some, Option.toList_none, List.cons_append, List.nil_append, ne_eq, not_false_eq_true, not_true_eq_false, nI_1, nI_add, Value.category, Nat.reduceAdd, Nat.reduceMod, Nat.reduceLeDiff, Nat.reduceLT, Nat.reduceEqDiff, Nat.reducePow, Nat.le_refl, Nat.add_left_cancel_iff, Nat.add_eq_left, Nat.left_eq_add, Nat.add_zero]
  exact g0
/-- under a fault nothing is read -/
theorem m_numberF {p k : Nat} (hd : 2 ≤ d) (B : gr_B t K) (hp : t.1 0 6 = nI p) (hp7 : p ≤ 700) (h8 : ¬ t.1 0 8 = 0) (hk : k ≤ 8) : gm_Ca E d 12 [.ref m, .int (nI k)] (gr_H h m t) (fun r h' => ∃ v, r = .inl (some (.long v)) ∧ h' = gr_H h m t) := by
  obtain ⟨Q, hQ⟩ : ∃ Q : gm_R → gm_H → Prop, Q = (fun r h' => ∃ v, r = .inl (some (.long v)) ∧ h' = gr_H h m t) := ⟨_, rfl⟩
  rw [← hQ]
  have hn7 := B.2.1
  have ef : gr_fl t (-3) = t := by unfold gr_fl; rw [if_neg h8]
  have loop : ∀ (j i : Nat) (v : Int64), i + j = k → gm_W E d 12 5 [.ref m, .int (nI k), .long v, gm_u, .int (nI i)] [] (gr_H h m t) Q := by
    intro j
    induction j with
    | zero =>
      intro i v hi
      have hi : i = k := by omega
      subst hi
      simp only [r12_0, r12_1, r12_2, r12_3, r12_5, r12_7, r12_8, r12_11, r12_12, r12_14, r12_15, r12_15n, r12_19, r12_20, r12_21, r12_22, r12_25, r12_28, r12_29, i32_10, reduceIte, gm_cmp1, gm_cmp3, gm_cmp4, gm_kd_sf, gm_ln_sf, gm_sf_1, gm_sf_2, gm_nw_1, gm_nw_2, gm_k_int, gm_k_ref, gm_k_null, gm_k_u, gm_k_long, and_true, true_and, true_or, or_true, or_false, false_or, and_self, or_self, if_true, if_false, List.map_nil, List.map_cons, List.sum_nil, List.sum_cons, Nat.zero_le, Option.toList_some, Option.toList_none, List.cons_append, List.nil_append, ne_eq, not_false_eq_true, not_true_eq_false, nI_1, nI_add, Value.category, Nat.reduceAdd, Nat.reduceMod, Nat.reduceLeDiff, Nat.reduceLT, Nat.reduceEqDiff, Nat.reducePow, Nat.le_refl, Nat.add_left_cancel_iff, Nat.add_eq_left, Nat.left_eq_add, Nat.add_zero, nI_leT (Nat.le_refl i) (show i < 2 ^ 31 by omega)]
      rw [hQ]
      exact ⟨v, rfl, rfl⟩
    | succ j ih =>
      intro i v hi
      rw [r12_5]
      simp only [r12_0, r12_1, r12_2, r12_3, r12_7, r12_8, r12_11, r12_12, r12_14, r12_15, r12_15n, r12_19, r12_20, r12_21, r12_22, r12_25, r12_28, r12_29, i32_10, reduceIte, gm_cmp1, gm_cmp3, gm_cmp4, gm_kd_sf, gm_ln_sf, gm_sf_1, gm_sf_2, gm_nw_1, gm_nw_2, gm_k_int, gm_k_ref, gm_k_null, gm_k_u, gm_k_long, and_true, true_and, true_or, or_true, or_false, false_or, and_self, or_self, if_true, if_false, List.map_nil, List.map_cons, List.sum_nil, List.sum_cons, Nat.zero_le, Option.toList_some, Option.toList_none, List.cons_append, List.nil_append, ne_eq, not_false_eq_true, not_true_eq_false, nI_1, nI_add, Value.category, Nat.reduceAdd, Nat.reduceMod, Nat.reduceLeDiff, Nat.reduceLT, Nat.reduceEqDiff, Nat.reducePow, Nat.le_refl, Nat.add_left_cancel_iff, Nat.add_eq_left, Nat.left_eq_add, Nat.add_zero, nI_leF (show i < k by omega) (show k < 2 ^ 31 by omega)]
      by_cases hc : gs_n K ≤ p
      · refine c12_16 (by simp [Value.category]) g_k0 (by omega) (m_next0 (by omega) B.1 hp hp7 hc) (gx_kn ?_) gx_kx
        rw [ef]
        simp only [r12_0, r12_1, r12_2, r12_3, r12_7, r12_8, r12_11, r12_12, r12_14, r12_15, r12_15n, r12_19, r12_20, r12_21, r12_22, r12_25, r12_28, r12_29, i32_10, reduceIte, gm_cmp1, gm_cmp3, gm_cmp4, gm_kd_sf, gm_ln_sf, gm_sf_1, gm_sf_2, gm_nw_1, gm_nw_2, gm_k_int, gm_k_ref, gm_k_null, gm_k_u, gm_k_long, and_true, true_and, true_or, or_true, or_false, false_or, and_self, or_self, if_true, if_false, List.map_nil, List.map_cons, List.sum_nil, List.sum_cons, Nat.zero_le, Option.toList_some, Option.toList_none, List.cons_append, List.nil_append, ne_eq, not_false_eq_true, not_true_eq_false, nI_1, nI_add, Value.category, Nat.reduceAdd, Nat.reduceMod, Nat.reduceLeDiff, Nat.reduceLT, Nat.reduceEqDiff, Nat.reducePow, Nat.le_refl, Nat.add_left_cancel_iff, Nat.add_eq_left, Nat.left_eq_add, Nat.add_zero]
        exact ih (i + 1) _ (by omega)
      · refine c12_16 (by simp [Value.category]) g_k0 (by omega) (m_next1 B.1 hp hn7 (by omega) h8) (gx_kn ?_) gx_kx
        simp only [r12_0, r12_1, r12_2, r12_3, r12_7, r12_8, r12_11, r12_12, r12_14, r12_15, r12_15n, r12_19, r12_20, r12_21, r12_22, r12_25, r12_28, r12_29, i32_10, reduceIte, gm_cmp1, gm_cmp3, gm_cmp4, gm_kd_sf, gm_ln_sf, gm_sf_1, gm_sf_2, gm_nw_1, gm_nw_2, gm_k_int, gm_k_ref, gm_k_null, gm_k_u, gm_k_long, and_true, true_and, true_or, or_true, or_false, false_or, and_self, or_self, if_true, if_false, List.map_nil, List.map_cons, List.sum_nil, List.sum_cons, Nat.zero_le, Option.toList_some, Option.toList_none, List.cons_append, List.nil_append, ne_eq, not_false_eq_true, not_true_eq_false, nI_1, nI_add, Value.category, Nat.reduceAdd, Nat.reduceMod, Nat.reduceLeDiff, Nat.reduceLT, Nat.reduceEqDiff, Nat.reducePow, Nat.le_refl, Nat.add_left_cancel_iff, Nat.add_eq_left, Nat.left_eq_add, Nat.add_zero]
        exact ih (i + 1) _ (by omega)
  show gm_W E d 12 0 [.ref m, .int (nI k), gm_u, gm_u, gm_u] [] (gr_H h m t) Q
  simp only [r12_0, r12_1, r12_2, r12_3, r12_7, r12_8, r12_11, r12_12, r12_14, r12_15, r12_15n, r12_19, r12_20, r12_21, r12_22, r12_25, r12_28, r12_29, i32_10, reduceIte, gm_cmp1, gm_cmp3, gm_cmp4, gm_kd_sf, gm_ln_sf, gm_sf_1, gm_sf_2, gm_nw_1, gm_nw_2, gm_k_int, gm_k_ref, gm_k_null, gm_k_u, gm_k_long, and_true, true_and, true_or, or_true, or_false, false_or, and_self, or_self, if_true, if_false, List.map_nil, List.map_cons, List.sum_nil, List.sum_cons, Nat.zero_le, Option.toList_some, Option.toList_none, List.cons_append, List.nil_append, ne_eq, not_false_eq_true, not_true_eq_false, nI_1, nI_add, Value.category, Nat.reduceAdd, Nat.reduceMod, Nat.reduceLeDiff, Nat.reduceLT, Nat.reduceEqDiff, Nat.reducePow, Nat.le_refl, Nat.add_left_cancel_iff, Nat.add_eq_left, Nat.left_eq_add, Nat.add_zero]
  exact loop k 0 0 (by omega)
end M3
