/-! THE CLASS, 7: slots filled, extra, records, primitives. -/
section X7
variable {E : Nat → Value} {d x : Nat} {h : gm_H} {ca : Nat → Nat} {K : gs_K} {F G : Nat → Prop} {s : gs_S}
/-- the values' row of the object at t filled, nothing else changed -/
def gx_fil (h h' : gm_H) (t : Nat) (L : List Int64) : Prop := (h'.1 = h.1 ∧ h'.2.1 = h.2.1) ∧ (∀ b, b ≠ t + 1 → gm_rd h' b = gm_rd h b) ∧ gm_kd h' (t + 1) = 101 ∧ gm_ln h' (t + 1) = L.length ∧ ∀ (j : Nat) (v : Int64), L[j]? = some v → gm_fv h' (t + 1) j = .long v
theorem x_fillSlots {c t : Nat} {C : gs_C} (hd : 2 ≤ d) (R : gx_C E h x ca K F) (hC : gs_cls K c = some C) (hx : x + 6 < t) (k1 : gm_kd h t = 4) (k2 : gm_kd h (t + 1) = 101) (hl : gm_ln h (t + 1) = gs_slots K (some c)) :
    gm_Ca E d 121 [.ref (ca c), .ref (t + 1)] h (fun r h' => r = .inl none ∧ gx_fil h h' t (gs_slot0 K (some c))) := by
  have hw := R.wf
  obtain ⟨L, hL⟩ : ∃ L, L = gs_slot0 K (some c) := ⟨_, rfl⟩
  have hlen : L.length = gs_slots K (some c) := by rw [hL]; exact gs_slot0_len
  have h24 : gs_slots K (some c) ≤ 24 := R.slots
  rw [← hL]
  -- a heap on the way
  obtain ⟨W, hW⟩ : ∃ W : gm_H → Prop, W = fun hk => (hk.1 = h.1 ∧ hk.2.1 = h.2.1) ∧ (∀ b, b ≠ t + 1 → gm_rd hk b = gm_rd h b) ∧ gm_kd hk (t + 1) = 101 ∧ gm_ln hk (t + 1) = L.length := ⟨_, rfl⟩
  have Wsf : ∀ {hk j v}, W hk → W (gm_sf hk (t + 1) j v) := by
    intro hk j v w
    rw [hW] at w ⊢
    exact ⟨⟨by simp only [gm_sf_1]; exact w.1.1, by simp only [gm_sf_2]; exact w.1.2⟩, fun b hb => by rw [gm_rd_sfn hb]; exact w.2.1 b hb, by simp only [gm_kd_sf]; exact w.2.2.1, by simp only [gm_ln_sf]; exact w.2.2.2⟩
  have WR : ∀ {hk}, W hk → gx_C E hk x ca K F := by
    intro hk w
    rw [hW] at w
    exact gx_C.md ⟨w.1.1, fun a _ h2 => w.2.1 a h2⟩ k1 k2 R (fun c _ => gv_fv (w.2.1 _ (by omega)))
  have outer : ∀ (m : Nat) (u : Option Nat) (hk : gm_H) (w3 w4 : Value) (T : List Int64), (∀ c', u = some c' → c' < m ∧ (gs_cls K c').isSome = true) → W hk → L = gs_slot0 K u ++ T → (∀ (j : Nat) (v : Int64), gs_slots K u ≤ j → L[j]? = some v → gm_fv hk (t + 1) j = .long v) →
      gm_W E d 121 2 [.ref (ca c), .ref (t + 1), gx_ow ca u, w3, w4] [] hk (fun r h' => r = .inl none ∧ gx_fil h h' t L) := by
    intro m
    induction m with
    | zero =>
      intro u hk w3 w4 T hu w hT hj
      cases u with
      | none =>
        simp only [r121_0, r121_0n, r121_1, r121_1n, r121_2, r121_2n, r121_3n, r121_3, r121_6, r121_6n, r121_10, r121_11, r121_12, r121_14, r121_16, r121_16n, r121_17, r121_20, r121_23, r121_24, r121_26, r121_27, r121_27n, r121_28, r121_29, r121_32, r121_32n, r121_33, r121_34, r121_36, r121_37, r121_37n, r121_38, r121_38n, r121_39, r121_42, r121_44, r121_48, r121_49, r121_50, r121_53, r121_56, r121_56n, r121_57, r121_60, r121_60n, r121_61, r121_64, i32_10, reduceIte, gm_cmp1, gm_cmp3, gm_cmp4, gm_kd_sf, gm_ln_sf, gm_sf_1, gm_sf_2, gm_nw_1, gm_nw_2, gm_k_int, gm_k_ref, gm_k_null, gm_k_u, gm_k_long, and_true, true_and, true_or, or_true, or_false, false_or, and_self, or_self, if_true, if_false, List.map_nil, List.map_cons, List.sum_nil, List.sum_cons, Nat.zero_le, Option.toList_some, Option.toList_none, List.cons_append, List.nil_append, ne_eq, not_false_eq_true, not_true_eq_false, nI_1, nI_add, Value.category, Nat.reduceAdd, Nat.reduceMod, Nat.reduceLeDiff, Nat.reduceLT, Nat.reduceEqDiff, Nat.reducePow, Nat.le_refl, Nat.add_left_cancel_iff, Nat.add_eq_left, Nat.left_eq_add, Nat.add_zero, gx_ow]
        rw [hW] at w
        exact ⟨w.1, w.2.1, w.2.2.1, w.2.2.2, fun j v e => hj j v (Nat.zero_le _) e⟩
      | some c' => exact absurd (hu c' rfl).1 (by omega)
    | succ m ih =>
      intro u hk w3 w4 T hu w hT hj
      cases u with
      | none =>
        simp only [r121_0, r121_0n, r121_1, r121_1n, r121_2, r121_2n, r121_3n, r121_3, r121_6, r121_6n, r121_10, r121_11, r121_12, r121_14, r121_16, r121_16n, r121_17, r121_20, r121_23, r121_24, r121_26, r121_27, r121_27n, r121_28, r121_29, r121_32, r121_32n, r121_33, r121_34, r121_36, r121_37, r121_37n, r121_38, r121_38n, r121_39, r121_42, r121_44, r121_48, r121_49, r121_50, r121_53, r121_56, r121_56n, r121_57, r121_60, r121_60n, r121_61, r121_64, i32_10, reduceIte, gm_cmp1, gm_cmp3, gm_cmp4, gm_kd_sf, gm_ln_sf, gm_sf_1, gm_sf_2, gm_nw_1, gm_nw_2, gm_k_int, gm_k_ref, gm_k_null, gm_k_u, gm_k_long, and_true, true_and, true_or, or_true, or_false, false_or, and_self, or_self, if_true, if_false, List.map_nil, List.map_cons, List.sum_nil, List.sum_cons, Nat.zero_le, Option.toList_some, Option.toList_none, List.cons_append, List.nil_append, ne_eq, not_false_eq_true, not_true_eq_false, nI_1, nI_add, Value.category, Nat.reduceAdd, Nat.reduceMod, Nat.reduceLeDiff, Nat.reduceLT, Nat.reduceEqDiff, Nat.reducePow, Nat.le_refl, Nat.add_left_cancel_iff, Nat.add_eq_left, Nat.left_eq_add, Nat.add_zero, gx_ow]
        rw [hW] at w
        exact ⟨w.1, w.2.1, w.2.2.1, w.2.2.2, fun j v e => hj j v (Nat.zero_le _) e⟩
      | some c' =>
        obtain ⟨h1, h2⟩ := hu c' rfl
        obtain ⟨C', hC'⟩ := Option.isSome_iff_exists.mp h2
        have e0 : gs_slots K (some c') = (gs_fs C').length + gs_first K C' := gs_slots_cons hw hC'
        rw [gs_slot0_cons hw hC', List.append_assoc] at hT
        have lf : (gs_slot0 K (gs_sup C')).length = gs_first K C' := gs_slot0_len
        have l4 := R.le4 hC'
        have lL : gs_first K C' + (gs_fs C').length ≤ L.length := by
          have := congrArg List.length hT
          simp at this
          omega
        have val : ∀ k (hk : k < (gs_fs C').length), L[gs_first K C' + k]? = some (gs_v0 C' (gs_fs C')[k].2) := by
          intro k hk
          rw [hT, List.getElem?_append_right (by omega), List.getElem?_append_left (by simp; omega)]
          simp [lf, hk]
        -- the inner row
        have inner : ∀ (i k : Nat) (hk : gm_H), k + i = (gs_fs C').length → W hk → (∀ (j : Nat) (v : Int64), (gs_first K C' ≤ j ∧ j < gs_first K C' + k) ∨ gs_first K C' + (gs_fs C').length ≤ j → L[j]? = some v → gm_fv hk (t + 1) j = .long v) →
            gm_W E d 121 14 [.ref (ca c), .ref (t + 1), .ref (ca c'), .int (nI (gs_first K C')), .int (nI k)] [] hk (fun r h' => r = .inl none ∧ gx_fil h h' t L) := by
          intro i
          induction i with
          | zero =>
            intro k hk hki w hj
            have hki : k = (gs_fs C').length := by omega
            subst hki
            obtain ⟨-, -, -, q3, -, -, fs, -, -, -, f6, -⟩ := (WR w).at hC'
            have nx := ih (gs_sup C') hk (.int (nI (gs_first K C'))) (.int (nI (gs_fs C').length)) _ (fun c2 e2 => ⟨by have := ((hw c' C' hC').2 c2 e2).1; omega, ((hw c' C' hC').2 c2 e2).2⟩) w hT (fun j v h5 h6 => hj j v (by unfold gs_first at *; omega) h6)
            cases hs : gs_sup C' with
            | none =>
              rw [hs] at fs nx
              have fs : gm_fv hk (ca c') 2 = .null := fs
              simp only [r121_0, r121_0n, r121_1, r121_1n, r121_3n, r121_3, r121_6, r121_6n, r121_10, r121_11, r121_12, r121_14, r121_16, r121_16n, r121_17, r121_20, r121_23, r121_24, r121_26, r121_27, r121_27n, r121_28, r121_29, r121_32, r121_32n, r121_33, r121_34, r121_36, r121_37, r121_37n, r121_38, r121_38n, r121_39, r121_42, r121_44, r121_48, r121_49, r121_50, r121_53, r121_56, r121_56n, r121_57, r121_60, r121_60n, r121_61, r121_64, i32_10, reduceIte, gm_cmp1, gm_cmp3, gm_cmp4, gm_kd_sf, gm_ln_sf, gm_sf_1, gm_sf_2, gm_nw_1, gm_nw_2, gm_k_int, gm_k_ref, gm_k_null, gm_k_u, gm_k_long, and_true, true_and, true_or, or_true, or_false, false_or, and_self, or_self, if_true, if_false, List.map_nil, List.map_cons, List.sum_nil, List.sum_cons, Nat.zero_le, Option.toList_some, Option.toList_none, List.cons_append, List.nil_append, ne_eq, not_false_eq_true, not_true_eq_false, nI_1, nI_add, Value.category, Nat.reduceAdd, Nat.reduceMod, Nat.reduceLeDiff, Nat.reduceLT, Nat.reduceEqDiff, Nat.reducePow, Nat.le_refl, Nat.add_left_cancel_iff, Nat.add_eq_left, Nat.left_eq_add, Nat.add_zero, q3, f6, fs, nI_leT (Nat.le_refl (gs_fs C').length) (show (gs_fs C').length < 2 ^ 31 by omega)]
              exact nx
            | some c2 =>
              rw [hs] at fs nx
              have fs : gm_fv hk (ca c') 2 = .ref (ca c2) := fs
              simp only [r121_0, r121_0n, r121_1, r121_1n, r121_3n, r121_3, r121_6, r121_6n, r121_10, r121_11, r121_12, r121_14, r121_16, r121_16n, r121_17, r121_20, r121_23, r121_24, r121_26, r121_27, r121_27n, r121_28, r121_29, r121_32, r121_32n, r121_33, r121_34, r121_36, r121_37, r121_37n, r121_38, r121_38n, r121_39, r121_42, r121_44, r121_48, r121_49, r121_50, r121_53, r121_56, r121_56n, r121_57, r121_60, r121_60n, r121_61, r121_64, i32_10, reduceIte, gm_cmp1, gm_cmp3, gm_cmp4, gm_kd_sf, gm_ln_sf, gm_sf_1, gm_sf_2, gm_nw_1, gm_nw_2, gm_k_int, gm_k_ref, gm_k_null, gm_k_u, gm_k_long, and_true, true_and, true_or, or_true, or_false, false_or, and_self, or_self, if_true, if_false, List.map_nil, List.map_cons, List.sum_nil, List.sum_cons, Nat.zero_le, Option.toList_some, Option.toList_none, List.cons_append, List.nil_append, ne_eq, not_false_eq_true, not_true_eq_false, nI_1, nI_add, Value.category, Nat.reduceAdd, Nat.reduceMod, Nat.reduceLeDiff, Nat.reduceLT, Nat.reduceEqDiff, Nat.reducePow, Nat.le_refl, Nat.add_left_cancel_iff, Nat.add_eq_left, Nat.left_eq_add, Nat.add_zero, q3, f6, fs, nI_leT (Nat.le_refl (gs_fs C').length) (show (gs_fs C').length < 2 ^ 31 by omega)]
              exact nx
          | succ i ihi =>
            intro k hk hki w hj
            obtain ⟨-, -, q⟩ := (WR w).at hC'
            have q' := q
            obtain ⟨-, q3, -, -, -, -, p4, p5, p6, -, -, -, n1, n2, n3, n4, nn⟩ := q'
            have hkl : k < (gs_fs C').length := by omega
            have hk4 : k < 4 := by omega
            have f2 := (nn k _ (List.getElem?_eq_getElem hkl)).2
            have wW := w
            rw [hW] at wW
            obtain ⟨-, -, wk, wl⟩ := wW
            rw [r121_14]
            simp only [r121_0, r121_0n, r121_1, r121_1n, r121_2, r121_2n, r121_3n, r121_3, r121_6, r121_6n, r121_10, r121_11, r121_12, r121_16, r121_16n, r121_17, r121_20, r121_23, r121_24, r121_26, r121_27, r121_27n, r121_28, r121_29, r121_32, r121_32n, r121_33, r121_34, r121_36, r121_37, r121_37n, r121_38, r121_38n, r121_39, r121_42, r121_44, r121_48, r121_49, r121_50, r121_53, r121_56, r121_56n, r121_57, r121_60, r121_60n, r121_61, r121_64, i32_10, reduceIte, gm_cmp1, gm_cmp3, gm_cmp4, gm_kd_sf, gm_ln_sf, gm_sf_1, gm_sf_2, gm_nw_1, gm_nw_2, gm_k_int, gm_k_ref, gm_k_null, gm_k_u, gm_k_long, and_true, true_and, true_or, or_true, or_false, false_or, and_self, or_self, if_true, if_false, List.map_nil, List.map_cons, List.sum_nil, List.sum_cons, Nat.zero_le, Option.toList_some, Option.toList_none, List.cons_append, List.nil_append, ne_eq, not_false_eq_true, not_true_eq_false, nI_1, nI_add, Value.category, Nat.reduceAdd, Nat.reduceMod, Nat.reduceLeDiff, Nat.reduceLT, Nat.reduceEqDiff, Nat.reducePow, Nat.le_refl, Nat.add_left_cancel_iff, Nat.add_eq_left, Nat.left_eq_add, Nat.add_zero, q3, p6, nI_leF hkl (show (gs_fs C').length < 2 ^ 31 by omega), wk, wl, nI_leF (show gs_first K C' + k < L.length by omega) (show L.length < 2 ^ 31 by omega), p5, n3, n4, hk4, f2]
            refine c121_45 (by simp [Value.category]) q3 (by omega) (x_valueAtFirst q) (gx_kn ?_) gx_kx
            have hjl : gs_first K C' + k < L.length := by omega
            have hl31 : L.length < 2147483648 := by omega
            simp only [r121_0, r121_0n, r121_1, r121_1n, r121_2, r121_2n, r121_3n, r121_3, r121_6, r121_6n, r121_10, r121_11, r121_12, r121_16, r121_16n, r121_17, r121_20, r121_23, r121_24, r121_26, r121_27, r121_27n, r121_28, r121_29, r121_32, r121_32n, r121_33, r121_34, r121_36, r121_37, r121_37n, r121_38, r121_38n, r121_39, r121_42, r121_44, r121_48, r121_49, r121_50, r121_53, r121_56, r121_56n, r121_57, r121_60, r121_60n, r121_61, r121_64, i32_10, reduceIte, gm_cmp1, gm_cmp3, gm_cmp4, gm_kd_sf, gm_ln_sf, gm_sf_1, gm_sf_2, gm_nw_1, gm_nw_2, gm_k_int, gm_k_ref, gm_k_null, gm_k_u, gm_k_long, and_true, true_and, true_or, or_true, or_false, false_or, and_self, or_self, if_true, if_false, List.map_nil, List.map_cons, List.sum_nil, List.sum_cons, Nat.zero_le, Option.toList_some, Option.toList_none, List.cons_append, List.nil_append, ne_eq, not_false_eq_true, not_true_eq_false, nI_1, nI_add, Value.category, Nat.reduceAdd, Nat.reduceMod, Nat.reduceLeDiff, Nat.reduceLT, Nat.reduceEqDiff, Nat.reducePow, Nat.le_refl, Nat.add_left_cancel_iff, Nat.add_eq_left, Nat.left_eq_add, Nat.add_zero, wk, wl, hjl, hl31, gs_v0i_64]
            refine ihi (k + 1) _ (by omega) (Wsf w) (fun j v hj1 hj2 => ?_)
            by_cases e : j = gs_first K C' + k
            · subst e
              rw [val k hkl] at hj2
              cases hj2
              exact gm_fv_sf (by rw [wl]; omega)
            · rw [gm_fv_sfj e]
              exact hj j v (by omega) hj2
        show gm_W E d 121 2 [.ref (ca c), .ref (t + 1), .ref (ca c'), w3, w4] [] hk _
        obtain ⟨-, -, -, q3, -⟩ := (WR w).at hC'
        simp only [r121_0, r121_0n, r121_1, r121_1n, r121_2, r121_2n, r121_3n, r121_3, r121_6, r121_6n, r121_10, r121_11, r121_12, r121_16, r121_16n, r121_17, r121_20, r121_23, r121_24, r121_26, r121_27, r121_27n, r121_28, r121_29, r121_32, r121_32n, r121_33, r121_34, r121_36, r121_37, r121_37n, r121_38, r121_38n, r121_39, r121_42, r121_44, r121_48, r121_49, r121_50, r121_53, r121_56, r121_56n, r121_57, r121_60, r121_60n, r121_61, r121_64, i32_10, reduceIte, gm_cmp1, gm_cmp3, gm_cmp4, gm_kd_sf, gm_ln_sf, gm_sf_1, gm_sf_2, gm_nw_1, gm_nw_2, gm_k_int, gm_k_ref, gm_k_null, gm_k_u, gm_k_long, and_true, true_and, true_or, or_true, or_false, false_or, and_self, or_self, if_true, if_false, List.map_nil, List.map_cons, List.sum_nil, List.sum_cons, Nat.zero_le, Option.toList_some, Option.toList_none, List.cons_append, List.nil_append, ne_eq, not_false_eq_true, not_true_eq_false, nI_1, nI_add, Value.category, Nat.reduceAdd, Nat.reduceMod, Nat.reduceLeDiff, Nat.reduceLT, Nat.reduceEqDiff, Nat.reducePow, Nat.le_refl, Nat.add_left_cancel_iff, Nat.add_eq_left, Nat.left_eq_add, Nat.add_zero]
        refine c121_7 (by simp) q3 (by omega) (x_firstSlot (by omega) (WR w) hC') (gx_kn ?_) gx_kx
        simp only [r121_0, r121_0n, r121_1, r121_1n, r121_2, r121_2n, r121_3n, r121_3, r121_6, r121_6n, r121_10, r121_11, r121_12, r121_16, r121_16n, r121_17, r121_20, r121_23, r121_24, r121_26, r121_27, r121_27n, r121_28, r121_29, r121_32, r121_32n, r121_33, r121_34, r121_36, r121_37, r121_37n, r121_38, r121_38n, r121_39, r121_42, r121_44, r121_48, r121_49, r121_50, r121_53, r121_56, r121_56n, r121_57, r121_60, r121_60n, r121_61, r121_64, i32_10, reduceIte, gm_cmp1, gm_cmp3, gm_cmp4, gm_kd_sf, gm_ln_sf, gm_sf_1, gm_sf_2, gm_nw_1, gm_nw_2, gm_k_int, gm_k_ref, gm_k_null, gm_k_u, gm_k_long, and_true, true_and, true_or, or_true, or_false, false_or, and_self, or_self, if_true, if_false, List.map_nil, List.map_cons, List.sum_nil, List.sum_cons, Nat.zero_le, Option.toList_some, Option.toList_none, List.cons_append, List.nil_append, ne_eq, not_false_eq_true, not_true_eq_false, nI_1, nI_add, Value.category, Nat.reduceAdd, Nat.reduceMod, Nat.reduceLeDiff, Nat.reduceLT, Nat.reduceEqDiff, Nat.reducePow, Nat.le_refl, Nat.add_left_cancel_iff, Nat.add_eq_left, Nat.left_eq_add, Nat.add_zero]
        exact inner (gs_fs C').length 0 hk (by omega) w (fun j v h5 h6 => hj j v (by omega) h6)
  show gm_W E d 121 0 [.ref (ca c), .ref (t + 1), gm_u, gm_u, gm_u] [] h _
  simp only [r121_0, r121_0n, r121_1, r121_1n, r121_3n, r121_3, r121_6, r121_6n, r121_10, r121_11, r121_12, r121_14, r121_16, r121_16n, r121_17, r121_20, r121_23, r121_24, r121_26, r121_27, r121_27n, r121_28, r121_29, r121_32, r121_32n, r121_33, r121_34, r121_36, r121_37, r121_37n, r121_38, r121_38n, r121_39, r121_42, r121_44, r121_48, r121_49, r121_50, r121_53, r121_56, r121_56n, r121_57, r121_60, r121_60n, r121_61, r121_64, i32_10, reduceIte, gm_cmp1, gm_cmp3, gm_cmp4, gm_kd_sf, gm_ln_sf, gm_sf_1, gm_sf_2, gm_nw_1, gm_nw_2, gm_k_int, gm_k_ref, gm_k_null, gm_k_u, gm_k_long, and_true, true_and, true_or, or_true, or_false, false_or, and_self, or_self, if_true, if_false, List.map_nil, List.map_cons, List.sum_nil, List.sum_cons, Nat.zero_le, Option.toList_some, Option.toList_none, List.cons_append, List.nil_append, ne_eq, not_false_eq_true, not_true_eq_false, nI_1, nI_add, Value.category, Nat.reduceAdd, Nat.reduceMod, Nat.reduceLeDiff, Nat.reduceLT, Nat.reduceEqDiff, Nat.reducePow, Nat.le_refl, Nat.add_left_cancel_iff, Nat.add_eq_left, Nat.left_eq_add, Nat.add_zero]
  refine outer 6 (some c) h gm_u gm_u [] (fun c' e => by cases e; exact ⟨(hw c C hC).1, by rw [hC]; rfl⟩) ?_ (by rw [hL]; simp) (fun j v h5 h6 => ?_)
  · rw [hW]; exact ⟨⟨rfl, rfl⟩, fun _ _ => rfl, k2, by rw [hl, hlen]⟩
  · have := (List.getElem?_eq_some_iff.mp h6).1
    omega
theorem x_takeExtra {o t : Nat} {ob : gs_O} (hd : 1 ≤ d) (R : gx_R E h x ca K F s) (ho : (gs_hp s)[o]? = some ob) (ht : gm_fv h (x + 3) o = .ref t) (hG : G t) : gm_Ca E d 95 [.ref x, .ref t] h (gx_P E h x ca K F G s (fun _ h' v => v = none ∧ gx_nal h h') (gs_extra K o s)) := by
  show gm_W E d 95 0 [.ref x, .ref t, gm_u] [] h _
  obtain ⟨A0, -, A5, -, -, -, -, A2, A2l, -⟩ := R.1
  obtain ⟨-, -, -, -, B6, B7, B8⟩ := R.2.1
  obtain ⟨z1, z2, z3, z4, z5, z6, z7, z8, z9⟩ := R.2.2.2.1
  obtain ⟨ta, T⟩ := R.2.2.2.2.1
  obtain ⟨b1, b2, b3⟩ := T.2 o ob ho
  rw [ht] at b1
  cases b1
  have hadd : nI (gs_pl s) + 2 = nI (gs_pl s + 2) := nI_add _ 2
  have fin : gm_W E d 95 31 [.ref x, .ref (ta o), .int (nI (gs_pl s + 2))] [] h (gx_P E h x ca K F G s (fun _ h' v => v = none ∧ gx_nal h h') (.ok ((), s) : Except Int32 (Unit × gs_S))) := by
    simp only [r95_0, r95_0n, r95_1, r95_4, r95_5, r95_6, r95_7, r95_7n, r95_8, r95_11, r95_12, r95_13, r95_14, r95_17, r95_17n, r95_18, r95_21, r95_21n, r95_22, r95_25, r95_26, r95_28, r95_31, r95_32, r95_32n, r95_33, r95_36, r95_36n, r95_37, r95_40, r95_41, r95_42, r95_43, r95_46, r95_47, r95_48, r95_51, r95_51n, r95_52, r95_52n, r95_53, r95_54, r95_58, r95_59, r95_62, i32_10, reduceIte, gm_cmp1, gm_cmp3, gm_cmp4, gm_kd_sf, gm_ln_sf, gm_sf_1, gm_sf_2, gm_nw_1, gm_nw_2, gm_k_int, gm_k_ref, gm_k_null, gm_k_u, gm_k_long, and_true, true_and, true_or, or_true, or_false, false_or, and_self, or_self, if_true, if_false, List.map_nil, List.map_cons, List.sum_nil, List.sum_cons, Nat.zero_le, Option.toList_some, Option.toList_none, List.cons_append, List.nil_append, ne_eq, not_false_eq_true, not_true_eq_false, nI_1, nI_add, Value.category, Nat.reduceAdd, Nat.reduceMod, Nat.reduceLeDiff, Nat.reduceLT, Nat.reduceEqDiff, Nat.reducePow, Nat.le_refl, Nat.add_left_cancel_iff, Nat.add_eq_left, Nat.left_eq_add, Nat.add_zero]
    exact ⟨(), s, rfl, ⟨rfl, gx_nal.refl⟩, R, gx_mv.refl, gx_le.refl, gx_co.refl⟩
  have fin2 : gm_W E d 95 62 [.ref x, .ref (ta o), .int (nI (gs_pl s + 2))] [] h (gx_P E h x ca K F G s (fun _ h' v => v = none ∧ gx_nal h h') (.ok ((), s) : Except Int32 (Unit × gs_S))) := by
    simp only [r95_0, r95_0n, r95_1, r95_4, r95_5, r95_6, r95_7, r95_7n, r95_8, r95_11, r95_12, r95_13, r95_14, r95_17, r95_17n, r95_18, r95_21, r95_21n, r95_22, r95_25, r95_26, r95_28, r95_31, r95_32, r95_32n, r95_33, r95_36, r95_36n, r95_37, r95_40, r95_41, r95_42, r95_43, r95_46, r95_47, r95_48, r95_51, r95_51n, r95_52, r95_52n, r95_53, r95_54, r95_58, r95_59, r95_62, i32_10, reduceIte, gm_cmp1, gm_cmp3, gm_cmp4, gm_kd_sf, gm_ln_sf, gm_sf_1, gm_sf_2, gm_nw_1, gm_nw_2, gm_k_int, gm_k_ref, gm_k_null, gm_k_u, gm_k_long, and_true, true_and, true_or, or_true, or_false, false_or, and_self, or_self, if_true, if_false, List.map_nil, List.map_cons, List.sum_nil, List.sum_cons, Nat.zero_le, Option.toList_some, Option.toList_none, List.cons_append, List.nil_append, ne_eq, not_false_eq_true, not_true_eq_false, nI_1, nI_add, Value.category, Nat.reduceAdd, Nat.reduceMod, Nat.reduceLeDiff, Nat.reduceLT, Nat.reduceEqDiff, Nat.reducePow, Nat.le_refl, Nat.add_left_cancel_iff, Nat.add_eq_left, Nat.left_eq_add, Nat.add_zero]
    exact ⟨(), s, rfl, ⟨rfl, gx_nal.refl⟩, R, gx_mv.refl, gx_le.refl, gx_co.refl⟩
  have lt4 : (nI (gs_n K) - nI (gs_pl s + 2) < 4) = (gs_n K - gs_pl s < 6) := by
    by_cases e : gs_pl s + 2 ≤ gs_n K
    · rw [nI_sub e]
      exact propext ((nI_ltI (b := 4) (by omega) (by decide)).trans (by omega))
    · have e1 : gs_n K - gs_pl s < 6 := by omega
      refine propext ⟨fun _ => e1, fun _ => ?_⟩
      obtain ⟨m, hm⟩ : ∃ m, m = gs_pl s + 2 - gs_n K := ⟨_, rfl⟩
      have em : nI (gs_pl s + 2) = nI (gs_n K) + nI m := by rw [nI_add]; congr 1; omega
      have e3 : m = 1 ∨ m = 2 := by omega
      rw [em]
      have e4 : nI (gs_n K) - (nI (gs_n K) + nI m) = - nI m := by rw [Int32.sub_eq_add_neg, Int32.neg_add, Int32.sub_eq_add_neg, ← Int32.add_assoc, Int32.add_right_neg, Int32.zero_add]
      rw [e4]
      rcases e3 with rfl | rfl <;> decide
  unfold gs_extra
  by_cases h1 : gs_n K - gs_pl s < 6
  · simp only [r95_0, r95_0n, r95_1, r95_4, r95_5, r95_6, r95_7, r95_7n, r95_8, r95_11, r95_12, r95_13, r95_14, r95_17, r95_17n, r95_18, r95_21, r95_21n, r95_22, r95_25, r95_26, r95_28, r95_32, r95_32n, r95_33, r95_36, r95_36n, r95_37, r95_40, r95_41, r95_42, r95_43, r95_46, r95_47, r95_48, r95_51, r95_51n, r95_52, r95_52n, r95_53, r95_54, r95_58, r95_59, i32_10, reduceIte, gm_cmp1, gm_cmp3, gm_cmp4, gm_kd_sf, gm_ln_sf, gm_sf_1, gm_sf_2, gm_nw_1, gm_nw_2, gm_k_int, gm_k_ref, gm_k_null, gm_k_u, gm_k_long, and_true, true_and, true_or, or_true, or_false, false_or, and_self, or_self, if_true, if_false, List.map_nil, List.map_cons, List.sum_nil, List.sum_cons, Nat.zero_le, Option.toList_some, Option.toList_none, List.cons_append, List.nil_append, ne_eq, not_false_eq_true, not_true_eq_false, nI_1, nI_add, Value.category, Nat.reduceAdd, Nat.reduceMod, Nat.reduceLeDiff, Nat.reduceLT, Nat.reduceEqDiff, Nat.reducePow, Nat.le_refl, Nat.add_left_cancel_iff, Nat.add_eq_left, Nat.left_eq_add, Nat.add_zero, A0, z1, B6, hadd, lt4, h1]
    exact fin
  · have hp : gs_pl s < gs_n K := by omega
    have hp1 : gs_pl s + 1 < gs_n K := by omega
    have hp7 : gs_pl s < 700 := by omega
    have hp17 : gs_pl s + 1 < 700 := by omega
    by_cases h2 : gs_sb K (gs_pl s) = 119
    · by_cases h3 : gs_sb K (gs_pl s + 1) &&& 255 < 4
      · simp only [r95_0, r95_0n, r95_1, r95_4, r95_5, r95_6, r95_7, r95_7n, r95_8, r95_11, r95_12, r95_13, r95_14, r95_17, r95_17n, r95_18, r95_21, r95_21n, r95_22, r95_25, r95_26, r95_28, r95_32, r95_32n, r95_33, r95_36, r95_36n, r95_37, r95_40, r95_41, r95_42, r95_43, r95_46, r95_47, r95_48, r95_51, r95_51n, r95_52, r95_52n, r95_53, r95_54, r95_58, r95_59, i32_10, reduceIte, gm_cmp1, gm_cmp3, gm_cmp4, gm_kd_sf, gm_ln_sf, gm_sf_1, gm_sf_2, gm_nw_1, gm_nw_2, gm_k_int, gm_k_ref, gm_k_null, gm_k_u, gm_k_long, and_true, true_and, true_or, or_true, or_false, false_or, and_self, or_self, if_true, if_false, List.map_nil, List.map_cons, List.sum_nil, List.sum_cons, Nat.zero_le, Option.toList_some, Option.toList_none, List.cons_append, List.nil_append, ne_eq, not_false_eq_true, not_true_eq_false, nI_1, nI_add, Value.category, Nat.reduceAdd, Nat.reduceMod, Nat.reduceLeDiff, Nat.reduceLT, Nat.reduceEqDiff, Nat.reducePow, Nat.le_refl, Nat.add_left_cancel_iff, Nat.add_eq_left, Nat.left_eq_add, Nat.add_zero, A0, z1, B6, hadd, lt4, h1, A5, A2, A2l, hp7, B8 _ hp, h2, hp17, B8 _ hp1, h3, reduceIte, ne_eq, not_true_eq_false]
        exact fin2
      · simp only [r95_0, r95_0n, r95_1, r95_4, r95_5, r95_6, r95_7, r95_7n, r95_8, r95_11, r95_12, r95_13, r95_14, r95_17, r95_17n, r95_18, r95_21, r95_21n, r95_22, r95_25, r95_26, r95_28, r95_32, r95_32n, r95_33, r95_36, r95_36n, r95_37, r95_40, r95_41, r95_42, r95_43, r95_46, r95_47, r95_48, r95_51, r95_51n, r95_52, r95_52n, r95_53, r95_54, r95_58, r95_59, i32_10, reduceIte, gm_cmp1, gm_cmp3, gm_cmp4, gm_kd_sf, gm_ln_sf, gm_sf_1, gm_sf_2, gm_nw_1, gm_nw_2, gm_k_int, gm_k_ref, gm_k_null, gm_k_u, gm_k_long, and_true, true_and, true_or, or_true, or_false, false_or, and_self, or_self, if_true, if_false, List.map_nil, List.map_cons, List.sum_nil, List.sum_cons, Nat.zero_le, Option.toList_some, Option.toList_none, List.cons_append, List.nil_append, ne_eq, not_false_eq_true, not_true_eq_false, nI_1, nI_add, Value.category, Nat.reduceAdd, Nat.reduceMod, Nat.reduceLeDiff, Nat.reduceLT, Nat.reduceEqDiff, Nat.reducePow, Nat.le_refl, Nat.add_left_cancel_iff, Nat.add_eq_left, Nat.left_eq_add, Nat.add_zero, A0, z1, B6, hadd, lt4, h1, A5, A2, A2l, hp7, B8 _ hp, h2, hp17, B8 _ hp1, h3, reduceIte, ne_eq, not_true_eq_false]
        refine c95_55 (by simp [Value.category]) A0 hd (x_numberAt (z := 4) R (by omega)) (gx_kn ?_) gx_kx
        simp only [r95_0, r95_0n, r95_1, r95_4, r95_5, r95_6, r95_7, r95_7n, r95_8, r95_11, r95_12, r95_13, r95_14, r95_17, r95_17n, r95_18, r95_21, r95_21n, r95_22, r95_25, r95_26, r95_28, r95_31, r95_32, r95_32n, r95_33, r95_36, r95_36n, r95_37, r95_40, r95_41, r95_42, r95_43, r95_46, r95_47, r95_48, r95_51, r95_51n, r95_52, r95_52n, r95_53, r95_54, r95_58, r95_59, r95_62, i32_10, reduceIte, gm_cmp1, gm_cmp3, gm_cmp4, gm_kd_sf, gm_ln_sf, gm_sf_1, gm_sf_2, gm_nw_1, gm_nw_2, gm_k_int, gm_k_ref, gm_k_null, gm_k_u, gm_k_long, and_true, true_and, true_or, or_true, or_false, false_or, and_self, or_self, if_true, if_false, List.map_nil, List.map_cons, List.sum_nil, List.sum_cons, Nat.zero_le, Option.toList_some, Option.toList_none, List.cons_append, List.nil_append, ne_eq, not_false_eq_true, not_true_eq_false, nI_1, nI_add, Value.category, Nat.reduceAdd, Nat.reduceMod, Nat.reduceLeDiff, Nat.reduceLT, Nat.reduceEqDiff, Nat.reducePow, Nat.le_refl, Nat.add_left_cancel_iff, Nat.add_eq_left, Nat.left_eq_add, Nat.add_zero, b3.1]
        have lt : gm_ln h (ta o) = 5 := gm_kd_ln b3.1 (by decide)
        refine ⟨(), _, rfl, ⟨rfl, gx_nal.refl.sf⟩, R.modT ht ho ⟨gm_sf_1, fun a h1 _ => gm_rd_sfn h1⟩ (fun q => ?_) rfl, gx_mv.oth b2.1.1 (Or.inr hG), ⟨by simp [gs_hp], Nat.le_refl _⟩, ?_⟩
        · obtain ⟨q1, q2, q3, q4, q5, q6, q7, q8, q9, q10⟩ := q
          refine ⟨by rw [gm_kd_sf]; exact q1, by rw [gm_fv_sfj (by decide)]; exact q2, by rw [gm_fv_sfj (by decide)]; exact q3, by rw [gm_fv_sfj (by decide)]; exact q4, by rw [gm_fv_sfj (by decide)]; exact q5, gm_fv_sf (by rw [lt]; decide), by rw [gm_kd_sf]; exact q7, by rw [gm_ln_sf]; exact q8, q9, fun j v e => ?_⟩
          rw [gm_fv_sfa (by omega)]
          exact q10 j v e
        · constructor
          · simp only [gm_sf_1]; exact Nat.le_refl _
          · simp only [gm_sf_2]; exact Nat.le_refl _
    · simp only [r95_0, r95_0n, r95_1, r95_4, r95_5, r95_6, r95_7, r95_7n, r95_8, r95_11, r95_12, r95_13, r95_14, r95_17, r95_17n, r95_18, r95_21, r95_21n, r95_22, r95_25, r95_26, r95_28, r95_32, r95_32n, r95_33, r95_36, r95_36n, r95_37, r95_40, r95_41, r95_42, r95_43, r95_46, r95_47, r95_48, r95_51, r95_51n, r95_52, r95_52n, r95_53, r95_54, r95_58, r95_59, i32_10, reduceIte, gm_cmp1, gm_cmp3, gm_cmp4, gm_kd_sf, gm_ln_sf, gm_sf_1, gm_sf_2, gm_nw_1, gm_nw_2, gm_k_int, gm_k_ref, gm_k_null, gm_k_u, gm_k_long, and_true, true_and, true_or, or_true, or_false, false_or, and_self, or_self, if_true, if_false, List.map_nil, List.map_cons, List.sum_nil, List.sum_cons, Nat.zero_le, Option.toList_some, Option.toList_none, List.cons_append, List.nil_append, ne_eq, not_false_eq_true, not_true_eq_false, nI_1, nI_add, Value.category, Nat.reduceAdd, Nat.reduceMod, Nat.reduceLeDiff, Nat.reduceLT, Nat.reduceEqDiff, Nat.reducePow, Nat.le_refl, Nat.add_left_cancel_iff, Nat.add_eq_left, Nat.left_eq_add, Nat.add_zero, A0, z1, B6, hadd, lt4, h1, A5, A2, A2l, hp7, B8 _ hp, h2]
      exact fin
theorem gx_cmp_lt {v : Int64} : (lg_cmp v 0 < 0) = (v < 0) := by
  unfold lg_cmp
  by_cases h1 : v > 0
  · have h2 : ¬ v < 0 := fun z => by
      rw [Int64.lt_iff_toInt_lt] at z
      have h1 : (0 : Int64) < v := h1
      rw [Int64.lt_iff_toInt_lt] at h1
      omega
    simp only [h1, h2, if_true]
    decide
  · by_cases h3 : v = 0
    · subst h3; decide
    · have h2 : v < 0 := by
        rw [Int64.lt_iff_toInt_lt]
        have h1 : ¬ (0 : Int64) < v := h1
        rw [Int64.lt_iff_toInt_lt] at h1
        have h4 : v.toInt ≠ (0 : Int64).toInt := fun z => h3 (Int64.toInt_inj.mp z)
        omega
      simp only [h1, h2, h3, if_false]
      decide
theorem gx_cmp_eq {u v : Int64} : (lg_cmp u v = 0) = (u = v) := by
  unfold lg_cmp
  by_cases h1 : u > v
  · have h2 : ¬ u = v := fun z => by
      subst z
      have h1 : u < u := h1
      rw [Int64.lt_iff_toInt_lt] at h1
      omega
    simp only [h1, h2, if_true]
    decide
  · by_cases h3 : u = v
    · subst h3; simp [h1]
    · simp only [h1, h3, if_false]
      decide
theorem x_isValidRecord {t c : Nat} {C : gs_C} {ob : gs_O} (R : gx_C E h x ca K F) (hC : gs_cls K c = some C) (q : gx_th h ca ob t) (ho : ob.2.1 = some c) (hv : (gs_fs C).length ≤ ob.2.2.1.length) : gm_Ca E d 91 [.ref t] h (gx_v (some (.int (if (gs_fs C).head?.any (fun q => decide (q.2 < 6)) = true ∧ ob.2.2.1.getD 0 0 < 0 then 0 else 1))) h) := by
  show gm_W E d 91 0 [.ref t] [] h _
  obtain ⟨q1, q2, q3, q4, q5, q6, q7, q8, q9, q10⟩ := q
  rw [ho] at q3
  have q3 : gm_fv h t 1 = .ref (ca c) := q3
  obtain ⟨-, -, -, k3, -, -, -, -, p4, p5, p6, -, -, l4, n1, n2, n3, n4, nn⟩ := R.at hC
  cases hf : gs_fs C with
  | nil =>
    rw [hf] at p6
    have p6 : gm_fv h (ca c) 6 = .int 0 := p6
    simp only [r91_0, r91_0n, r91_1, r91_4, r91_7, r91_10, r91_10n, r91_11, r91_14, r91_17, r91_18, r91_18k, r91_19, r91_21, r91_24, r91_25, r91_26, r91_26n, r91_27, r91_30, r91_31, r91_31k, r91_32, r91_33, r91_34, r91_37, r91_38, r91_41, r91_42, i32_10, reduceIte, gm_cmp1, gm_cmp3, gm_cmp4, gm_kd_sf, gm_ln_sf, gm_sf_1, gm_sf_2, gm_nw_1, gm_nw_2, gm_k_int, gm_k_ref, gm_k_null, gm_k_u, gm_k_long, and_true, true_and, true_or, or_true, or_false, false_or, and_self, or_self, if_true, if_false, List.map_nil, List.map_cons, List.sum_nil, List.sum_cons, Nat.zero_le, Option.toList_some, Option.toList_none, List.cons_append, List.nil_append, ne_eq, not_false_eq_true, not_true_eq_false, nI_1, nI_add, Value.category, Nat.reduceAdd, Nat.reduceMod, Nat.reduceLeDiff, Nat.reduceLT, Nat.reduceEqDiff, Nat.reducePow, Nat.le_refl, Nat.add_left_cancel_iff, Nat.add_eq_left, Nat.left_eq_add, Nat.add_zero, q1, q3, k3, p6]
    exact ⟨by simp, rfl⟩
  | cons q fs =>
    have e0 : ¬ nI (gs_fs C).length = 0 := nI_ne0 (by rw [hf]; simp) (by omega)
    have f0 := (nn 0 q (by rw [hf]; rfl)).2
    cases hvs : ob.2.2.1 with
    | nil => rw [hvs, hf] at hv; simp at hv
    | cons v vs =>
      have v0 := q10 0 v (by rw [hvs]; rfl)
      have vl : 0 < ob.2.2.1.length := by rw [hvs]; simp
      have vl2 : ob.2.2.1.length < 2147483648 := by omega
      simp only [r91_0, r91_0n, r91_1, r91_4, r91_7, r91_10, r91_10n, r91_11, r91_14, r91_17, r91_18, r91_18k, r91_19, r91_21, r91_24, r91_25, r91_26, r91_26n, r91_27, r91_30, r91_31, r91_31k, r91_32, r91_33, r91_34, r91_37, r91_38, r91_41, r91_42, i32_10, reduceIte, gm_cmp1, gm_cmp3, gm_cmp4, gm_kd_sf, gm_ln_sf, gm_sf_1, gm_sf_2, gm_nw_1, gm_nw_2, gm_k_int, gm_k_ref, gm_k_null, gm_k_u, gm_k_long, and_true, true_and, true_or, or_true, or_false, false_or, and_self, or_self, if_true, if_false, List.map_nil, List.map_cons, List.sum_nil, List.sum_cons, Nat.zero_le, Option.toList_some, Option.toList_none, List.cons_append, List.nil_append, ne_eq, not_false_eq_true, not_true_eq_false, nI_1, nI_add, Value.category, Nat.reduceAdd, Nat.reduceMod, Nat.reduceLeDiff, Nat.reduceLT, Nat.reduceEqDiff, Nat.reducePow, Nat.le_refl, Nat.add_left_cancel_iff, Nat.add_eq_left, Nat.left_eq_add, Nat.add_zero, q1, q3, k3, p6, e0, p5, n3, n4, f0]
      by_cases h6 : q.2 < 6
      · simp only [r91_0, r91_0n, r91_1, r91_4, r91_7, r91_10, r91_10n, r91_11, r91_14, r91_17, r91_18, r91_18k, r91_19, r91_21, r91_24, r91_25, r91_26, r91_26n, r91_27, r91_30, r91_31, r91_31k, r91_32, r91_33, r91_34, r91_37, r91_38, r91_41, r91_42, i32_10, reduceIte, gm_cmp1, gm_cmp3, gm_cmp4, gm_kd_sf, gm_ln_sf, gm_sf_1, gm_sf_2, gm_nw_1, gm_nw_2, gm_k_int, gm_k_ref, gm_k_null, gm_k_u, gm_k_long, and_true, true_and, true_or, or_true, or_false, false_or, and_self, or_self, if_true, if_false, List.map_nil, List.map_cons, List.sum_nil, List.sum_cons, Nat.zero_le, Option.toList_some, Option.toList_none, List.cons_append, List.nil_append, ne_eq, not_false_eq_true, not_true_eq_false, nI_1, nI_add, Value.category, Nat.reduceAdd, Nat.reduceMod, Nat.reduceLeDiff, Nat.reduceLT, Nat.reduceEqDiff, Nat.reducePow, Nat.le_refl, Nat.add_left_cancel_iff, Nat.add_eq_left, Nat.left_eq_add, Nat.add_zero, h6, q1, q4, q7, q8, vl, vl2, v0, gx_cmp_lt, reduceIte]
        by_cases h0 : v < 0
        · simp [h0, h6, gx_v]
        · simp [h0, h6, gx_v]
      · simp only [h6, reduceIte]
        exact ⟨by simp [h6], rfl⟩
theorem x_nextPrimitive {i : Nat} (hd : 2 ≤ d) (hi : i < 6) (R : gx_R E h x ca K F s) : gm_Ca E d 93 [.ref x, .int (nI i)] h (gx_P E h x ca K F G s (fun a h' v => v = some (.long a) ∧ gx_nal h h') (gs_prim K (nI i) s)) := by
  show gm_W E d 93 0 [.ref x, .int (nI i), gm_u, gm_u] [] h _
  obtain ⟨⟨z, ez, -, kz, lz, fz⟩, -⟩ := R.2.2.1.1.1
  have e6 := fz i hi
  simp only [r93_0, r93_0n, r93_1, r93_4, r93_5, r93_9, r93_10, r93_11, r93_48, r93_49, r93_50, r93_51, r93_52, r93_53, r93_54, r93_55, r93_56, r93_57, r93_58, r93_59, r93_60, r93_61, r93_62, r93_63, r93_64, r93_65, r93_68, r93_69, r93_72, r93_73, r93_74, r93_75, i32_10, reduceIte, gm_cmp1, gm_cmp3, gm_cmp4, gm_kd_sf, gm_ln_sf, gm_sf_1, gm_sf_2, gm_nw_1, gm_nw_2, gm_k_int, gm_k_ref, gm_k_null, gm_k_u, gm_k_long, and_true, true_and, true_or, or_true, or_false, false_or, and_self, or_self, if_true, if_false, List.map_nil, List.map_cons, List.sum_nil, List.sum_cons, Nat.zero_le, Option.toList_some, Option.toList_none, List.cons_append, List.nil_append, ne_eq, not_false_eq_true, not_true_eq_false, nI_1, nI_add, Value.category, Nat.reduceAdd, Nat.reduceMod, Nat.reduceLeDiff, Nat.reduceLT, Nat.reduceEqDiff, Nat.reducePow, Nat.le_refl, Nat.add_left_cancel_iff, Nat.add_eq_left, Nat.left_eq_add, Nat.add_zero, ez, kz, lz, hi, e6]
  have key : ∀ k : Nat, k ≤ 8 → ([1, 2, 4, 8, 2, 1] : List Int32).getD i 0 = nI k → (if nI i = 0 ∨ nI i = 5 then 1 else if nI i = 1 ∨ nI i = 4 then 2 else if nI i = 2 then 4 else 8) = k → gm_W E d 93 6 [.ref x, .int (nI i), gm_u, gm_u] [.int (([1, 2, 4, 8, 2, 1] : List Int32).getD i 0), .ref x] h (gx_P E h x ca K F G s (fun a h' v => v = some (.long a) ∧ gx_nal h h') (gs_prim K (nI i) s)) := by
    intro k hk8 ek es
    rw [ek]
    unfold gs_prim
    rw [es]
    refine c93_6 (by simp) R.1.1 (by omega) (x_nextNumber (by omega) R hk8) (fun v h1 q => ?_) (fun _ _ q => q.ber)
    obtain ⟨a, s1, e, ⟨rfl, na⟩, q⟩ := q
    rw [gs_b_ok e]
    rcases (show i = 0 ∨ i = 1 ∨ i = 2 ∨ i = 3 ∨ i = 4 ∨ i = 5 by omega) with rfl | rfl | rfl | rfl | rfl | rfl
    all_goals simp (decide := true) only [r93_0, r93_0n, r93_1, r93_4, r93_5, r93_9, r93_10, r93_11, r93_48, r93_49, r93_50, r93_51, r93_52, r93_53, r93_54, r93_55, r93_56, r93_57, r93_58, r93_59, r93_60, r93_61, r93_62, r93_63, r93_64, r93_65, r93_68, r93_69, r93_72, r93_73, r93_74, r93_75, i32_10, reduceIte, gm_cmp1, gm_cmp3, gm_cmp4, gm_kd_sf, gm_ln_sf, gm_sf_1, gm_sf_2, gm_nw_1, gm_nw_2, gm_k_int, gm_k_ref, gm_k_null, gm_k_u, gm_k_long, and_true, true_and, true_or, or_true, or_false, false_or, and_self, or_self, if_true, if_false, List.map_nil, List.map_cons, List.sum_nil, List.sum_cons, Nat.zero_le, Option.toList_some, Option.toList_none, List.cons_append, List.nil_append, ne_eq, not_false_eq_true, not_true_eq_false, nI_1, nI_add, Value.category, Nat.reduceAdd, Nat.reduceMod, Nat.reduceLeDiff, Nat.reduceLT, Nat.reduceEqDiff, Nat.reducePow, Nat.le_refl, Nat.add_left_cancel_iff, Nat.add_eq_left, Nat.left_eq_add, Nat.add_zero, gx_cmp_eq]
    case _ => exact ⟨_, s1, rfl, ⟨rfl, na⟩, q⟩
    case _ => exact ⟨_, s1, rfl, ⟨rfl, na⟩, q⟩
    case _ => exact ⟨_, s1, rfl, ⟨rfl, na⟩, q⟩
    case _ => exact ⟨_, s1, rfl, ⟨rfl, na⟩, q⟩
    case _ => exact ⟨_, s1, rfl, ⟨rfl, na⟩, q⟩
    case _ =>
      by_cases h0 : a = 0
      · simp only [h0, reduceIte]; exact ⟨_, s1, rfl, ⟨rfl, na⟩, q⟩
      · simp only [h0, reduceIte]; exact ⟨_, s1, rfl, ⟨rfl, na⟩, q⟩
  rcases (show i = 0 ∨ i = 1 ∨ i = 2 ∨ i = 3 ∨ i = 4 ∨ i = 5 by omega) with rfl | rfl | rfl | rfl | rfl | rfl
  · exact key 1 (by decide) (by decide) (by decide)
  · exact key 2 (by decide) (by decide) (by decide)
  · exact key 4 (by decide) (by decide) (by decide)
  · exact key 8 (by decide) (by decide) (by decide)
  · exact key 2 (by decide) (by decide) (by decide)
  · exact key 1 (by decide) (by decide) (by decide)
end X7
/-! THE CLASS, 8: its Strings. -/
section X8
variable {E : Nat → Value} {d x : Nat} {h : gm_H} {ca : Nat → Nat} {K : gs_K} {F G : Nat → Prop} {s : gs_S}
theorem nb0 : narrow .byte (.int 0) = .int 0 := rfl
theorem i32_sh0 {v : Int32} : v >>> ((0 : Int32) &&& 31) = v := by
  have : ((0 : Int32) &&& 31) = 0 := by decide
  rw [this]
  simp
theorem x_max (u v : Int32) : gm_Ca E d 124 [.int u, .int v] h (gx_v (some (.int (if u < v then v else u))) h) := by
  show gm_W E d 124 0 [.int u, .int v] [] h _
  simp only [r124_0, r124_1, r124_2, r124_5, r124_6, r124_9, r124_10, i32_10, reduceIte, gm_cmp1, gm_cmp3, gm_cmp4, gm_kd_sf, gm_ln_sf, gm_sf_1, gm_sf_2, gm_nw_1, gm_nw_2, gm_k_int, gm_k_ref, gm_k_null, gm_k_u, gm_k_long, and_true, true_and, true_or, or_true, or_false, false_or, and_self, or_self, if_true, if_false, List.map_nil, List.map_cons, List.sum_nil, List.sum_cons, Nat.zero_le, Option.toList_some, Option.toList_none, List.cons_append, List.nil_append, ne_eq, not_false_eq_true, not_true_eq_false, nI_1, nI_add, Value.category, Nat.reduceAdd, Nat.reduceMod, Nat.reduceLeDiff, Nat.reduceLT, Nat.reduceEqDiff, Nat.reducePow, Nat.le_refl, Nat.add_left_cancel_iff, Nat.add_eq_left, Nat.left_eq_add, Nat.add_zero]
  by_cases h1 : u < v <;> simp [h1, gx_v]
theorem x_min (u v : Int32) : gm_Ca E d 125 [.int u, .int v] h (gx_v (some (.int (if v < u then v else u))) h) := by
  show gm_W E d 125 0 [.int u, .int v] [] h _
  simp only [r125_0, r125_1, r125_2, r125_5, r125_6, r125_9, r125_10, i32_10, reduceIte, gm_cmp1, gm_cmp3, gm_cmp4, gm_kd_sf, gm_ln_sf, gm_sf_1, gm_sf_2, gm_nw_1, gm_nw_2, gm_k_int, gm_k_ref, gm_k_null, gm_k_u, gm_k_long, and_true, true_and, true_or, or_true, or_false, false_or, and_self, or_self, if_true, if_false, List.map_nil, List.map_cons, List.sum_nil, List.sum_cons, Nat.zero_le, Option.toList_some, Option.toList_none, List.cons_append, List.nil_append, ne_eq, not_false_eq_true, not_true_eq_false, nI_1, nI_add, Value.category, Nat.reduceAdd, Nat.reduceMod, Nat.reduceLeDiff, Nat.reduceLT, Nat.reduceEqDiff, Nat.reducePow, Nat.le_refl, Nat.add_left_cancel_iff, Nat.add_eq_left, Nat.left_eq_add, Nat.add_zero]
  by_cases h1 : v < u <;> simp [h1, gx_v]
theorem x_coder {a : Nat} (h5 : E 5 = .int 1) (k : gm_kd h a = 6) (l : gm_ln h a = 2) (f : gm_fv h a 1 = .int 0) : gm_Ca E d 130 [.ref a] h (gx_v (some (.int 0)) h) := by
  show gm_W E d 130 0 [.ref a] [] h _
  have l1 : 1 < 2 := by decide
  simp only [r130_0, r130_3, r130_6, r130_6n, r130_7, r130_10, r130_13, r130_14, i32_10, reduceIte, gm_cmp1, gm_cmp3, gm_cmp4, gm_kd_sf, gm_ln_sf, gm_sf_1, gm_sf_2, gm_nw_1, gm_nw_2, gm_k_int, gm_k_ref, gm_k_null, gm_k_u, gm_k_long, and_true, true_and, true_or, or_true, or_false, false_or, and_self, or_self, if_true, if_false, List.map_nil, List.map_cons, List.sum_nil, List.sum_cons, Nat.zero_le, Option.toList_some, Option.toList_none, List.cons_append, List.nil_append, ne_eq, not_false_eq_true, not_true_eq_false, nI_1, nI_add, Value.category, Nat.reduceAdd, Nat.reduceMod, Nat.reduceLeDiff, Nat.reduceLT, Nat.reduceEqDiff, Nat.reducePow, Nat.le_refl, Nat.add_left_cancel_iff, Nat.add_eq_left, Nat.left_eq_add, Nat.add_zero, h5, k, l, f, l1]
  refine (r130_14 nb0).mpr ?_
  exact ⟨rfl, rfl⟩
theorem x_isLatin1 {a : Nat} (h5 : E 5 = .int 1) (k : gm_kd h a = 6) (l : gm_ln h a = 2) (f : gm_fv h a 1 = .int 0) : gm_Ca E d 131 [.ref a] h (gx_v (some (.int 1)) h) := by
  show gm_W E d 131 0 [.ref a] [] h _
  have l1 : 1 < 2 := by decide
  simp only [r131_0, r131_3, r131_6, r131_6n, r131_7, r131_10, r131_13, r131_14, r131_17, r131_18, i32_10, reduceIte, gm_cmp1, gm_cmp3, gm_cmp4, gm_kd_sf, gm_ln_sf, gm_sf_1, gm_sf_2, gm_nw_1, gm_nw_2, gm_k_int, gm_k_ref, gm_k_null, gm_k_u, gm_k_long, and_true, true_and, true_or, or_true, or_false, false_or, and_self, or_self, if_true, if_false, List.map_nil, List.map_cons, List.sum_nil, List.sum_cons, Nat.zero_le, Option.toList_some, Option.toList_none, List.cons_append, List.nil_append, ne_eq, not_false_eq_true, not_true_eq_false, nI_1, nI_add, Value.category, Nat.reduceAdd, Nat.reduceMod, Nat.reduceLeDiff, Nat.reduceLT, Nat.reduceEqDiff, Nat.reducePow, Nat.le_refl, Nat.add_left_cancel_iff, Nat.add_eq_left, Nat.left_eq_add, Nat.add_zero, h5, k, l, f, l1]
  exact ⟨rfl, rfl⟩
theorem x_length {i a v : Nat} (hd : 1 ≤ d) (h5 : E 5 = .int 1) (k : gm_kd h a = 6) (l : gm_ln h a = 2) (f0 : gm_fv h a 0 = .ref v) (f : gm_fv h a 1 = .int 0) (kv : gm_kd h v = 302) (lv : gm_ln h v = (gx_str i).length) : gm_Ca E d 126 [.ref a] h (gx_v (some (.int (nI (gx_str i).length))) h) := by
  show gm_W E d 126 0 [.ref a] [] h _
  have l0 : 0 < 2 := by decide
  simp only [r126_0, r126_0n, r126_1, r126_4, r126_5, r126_5n, r126_9, r126_10, i32_10, reduceIte, gm_cmp1, gm_cmp3, gm_cmp4, gm_kd_sf, gm_ln_sf, gm_sf_1, gm_sf_2, gm_nw_1, gm_nw_2, gm_k_int, gm_k_ref, gm_k_null, gm_k_u, gm_k_long, and_true, true_and, true_or, or_true, or_false, false_or, and_self, or_self, if_true, if_false, List.map_nil, List.map_cons, List.sum_nil, List.sum_cons, Nat.zero_le, Option.toList_some, Option.toList_none, List.cons_append, List.nil_append, ne_eq, not_false_eq_true, not_true_eq_false, nI_1, nI_add, Value.category, Nat.reduceAdd, Nat.reduceMod, Nat.reduceLeDiff, Nat.reduceLT, Nat.reduceEqDiff, Nat.reducePow, Nat.le_refl, Nat.add_left_cancel_iff, Nat.add_eq_left, Nat.left_eq_add, Nat.add_zero, k, l, l0, f0, kv, lv]
  refine c126_6 (by simp [Value.category]) k hd (x_coder h5 k l f) (gx_kn ?_) gx_kx
  simp only [r126_0, r126_0n, r126_1, r126_4, r126_5, r126_5n, r126_9, r126_10, i32_10, reduceIte, gm_cmp1, gm_cmp3, gm_cmp4, gm_kd_sf, gm_ln_sf, gm_sf_1, gm_sf_2, gm_nw_1, gm_nw_2, gm_k_int, gm_k_ref, gm_k_null, gm_k_u, gm_k_long, and_true, true_and, true_or, or_true, or_false, false_or, and_self, or_self, if_true, if_false, List.map_nil, List.map_cons, List.sum_nil, List.sum_cons, Nat.zero_le, Option.toList_some, Option.toList_none, List.cons_append, List.nil_append, ne_eq, not_false_eq_true, not_true_eq_false, nI_1, nI_add, Value.category, Nat.reduceAdd, Nat.reduceMod, Nat.reduceLeDiff, Nat.reduceLT, Nat.reduceEqDiff, Nat.reducePow, Nat.le_refl, Nat.add_left_cancel_iff, Nat.add_eq_left, Nat.left_eq_add, Nat.add_zero, i32_sh0]
  exact ⟨rfl, rfl⟩
theorem x_checkP {j n : Nat} {w : Value} (hw : w = .null ∨ ∃ z : Nat, w = .ref z) (hj : j < n) (hn : n < 2 ^ 31) : gm_Ca E d 137 [.int (nI j), .int (nI n), w] h (gx_v (some (.int (nI j))) h) := by
  have e : gm_en [.int (nI j), .int (nI n), w] (gm_mL 137) = [.int (nI j), .int (nI n), w] := by
    rcases hw with rfl | ⟨z, rfl⟩ <;> rfl
  unfold gm_Ca
  rw [e]
  simp only [r137_0, r137_1, r137_4, r137_5, r137_6, r137_9, r137_9n, r137_10, r137_11, r137_16, r137_17, i32_10, reduceIte, gm_cmp1, gm_cmp3, gm_cmp4, gm_kd_sf, gm_ln_sf, gm_sf_1, gm_sf_2, gm_nw_1, gm_nw_2, gm_k_int, gm_k_ref, gm_k_null, gm_k_u, gm_k_long, and_true, true_and, true_or, or_true, or_false, false_or, and_self, or_self, if_true, if_false, List.map_nil, List.map_cons, List.sum_nil, List.sum_cons, Nat.zero_le, Option.toList_some, Option.toList_none, List.cons_append, List.nil_append, ne_eq, not_false_eq_true, not_true_eq_false, nI_1, nI_add, Value.category, Nat.reduceAdd, Nat.reduceMod, Nat.reduceLeDiff, Nat.reduceLT, Nat.reduceEqDiff, Nat.reducePow, Nat.le_refl, Nat.add_left_cancel_iff, Nat.add_eq_left, Nat.left_eq_add, Nat.add_zero, nI_pos (show j < 2 ^ 31 by omega), nI_ltT hj hn]
  exact ⟨rfl, rfl⟩
theorem x_checkS {j n : Nat} (hd : 1 ≤ d) (h1 : E 1 = .null ∨ ∃ z : Nat, E 1 = .ref z) (hj : j < n) (hn : n < 2 ^ 31) : gm_Ca E d 132 [.int (nI j), .int (nI n)] h (gx_v none h) := by
  show gm_W E d 132 0 [.int (nI j), .int (nI n)] [] h _
  simp only [r132_0, r132_1, r132_2, r132_8, r132_8a, r132_8n, r132_9, i32_10, reduceIte, gm_cmp1, gm_cmp3, gm_cmp4, gm_kd_sf, gm_ln_sf, gm_sf_1, gm_sf_2, gm_nw_1, gm_nw_2, gm_k_int, gm_k_ref, gm_k_null, gm_k_u, gm_k_long, and_true, true_and, true_or, or_true, or_false, false_or, and_self, or_self, if_true, if_false, List.map_nil, List.map_cons, List.sum_nil, List.sum_cons, Nat.zero_le, Option.toList_some, Option.toList_none, List.cons_append, List.nil_append, ne_eq, not_false_eq_true, not_true_eq_false, nI_1, nI_add, Value.category, Nat.reduceAdd, Nat.reduceMod, Nat.reduceLeDiff, Nat.reduceLT, Nat.reduceEqDiff, Nat.reducePow, Nat.le_refl, Nat.add_left_cancel_iff, Nat.add_eq_left, Nat.left_eq_add, Nat.add_zero]
  refine c132_5 (by simp) (by rcases h1 with e | ⟨z, e⟩ <;> rw [e] <;> simp [gm_en1]) hd (x_checkP h1 hj hn) (gx_kn ?_) gx_kx
  simp only [r132_0, r132_1, r132_2, r132_8, r132_8a, r132_8n, r132_9, i32_10, reduceIte, gm_cmp1, gm_cmp3, gm_cmp4, gm_kd_sf, gm_ln_sf, gm_sf_1, gm_sf_2, gm_nw_1, gm_nw_2, gm_k_int, gm_k_ref, gm_k_null, gm_k_u, gm_k_long, and_true, true_and, true_or, or_true, or_false, false_or, and_self, or_self, if_true, if_false, List.map_nil, List.map_cons, List.sum_nil, List.sum_cons, Nat.zero_le, Option.toList_some, Option.toList_none, List.cons_append, List.nil_append, ne_eq, not_false_eq_true, not_true_eq_false, nI_1, nI_add, Value.category, Nat.reduceAdd, Nat.reduceMod, Nat.reduceLeDiff, Nat.reduceLT, Nat.reduceEqDiff, Nat.reducePow, Nat.le_refl, Nat.add_left_cancel_iff, Nat.add_eq_left, Nat.left_eq_add, Nat.add_zero]
  exact ⟨rfl, rfl⟩
theorem ch_ok : ∀ i, i < 3 → ∀ j, j < (gx_str i).length → (((gx_str i).getD j 0 &&& 255).toUInt32 % 65536).toInt32 = (gx_str i).getD j 0 ∧ narrow .char (.int ((gx_str i).getD j 0)) = .int ((gx_str i).getD j 0) := by decide +kernel
theorem x_charAtL {i j v : Nat} (hd : 2 ≤ d) (hi : i < 3) (h1 : E 1 = .null ∨ ∃ z : Nat, E 1 = .ref z) (kv : gm_kd h v = 302) (lv : gm_ln h v = (gx_str i).length) (hj : j < (gx_str i).length) (fv : gm_fv h v j = .int ((gx_str i).getD j 0)) : gm_Ca E d 133 [.ref v, .int (nI j)] h (gx_v (some (.int ((gx_str i).getD j 0))) h) := by
  show gm_W E d 133 0 [.ref v, .int (nI j)] [] h _
  have ll : (gx_str i).length < 2 ^ 31 := by
    rcases (show i = 0 ∨ i = 1 ∨ i = 2 by omega) with rfl | rfl | rfl <;> decide
  have ll2 : (gx_str i).length < 2147483648 := ll
  simp only [r133_0, r133_1, r133_1n, r133_2, r133_6, r133_6n, r133_7, r133_8, r133_9, r133_12, r133_13, r133_14, i32_10, reduceIte, gm_cmp1, gm_cmp3, gm_cmp4, gm_kd_sf, gm_ln_sf, gm_sf_1, gm_sf_2, gm_nw_1, gm_nw_2, gm_k_int, gm_k_ref, gm_k_null, gm_k_u, gm_k_long, and_true, true_and, true_or, or_true, or_false, false_or, and_self, or_self, if_true, if_false, List.map_nil, List.map_cons, List.sum_nil, List.sum_cons, Nat.zero_le, Option.toList_some, Option.toList_none, List.cons_append, List.nil_append, ne_eq, not_false_eq_true, not_true_eq_false, nI_1, nI_add, Value.category, Nat.reduceAdd, Nat.reduceMod, Nat.reduceLeDiff, Nat.reduceLT, Nat.reduceEqDiff, Nat.reducePow, Nat.le_refl, Nat.add_left_cancel_iff, Nat.add_eq_left, Nat.left_eq_add, Nat.add_zero, kv, lv]
  refine c133_3 (by simp) (by omega) (x_checkS (by omega) h1 hj ll) (gx_kn ?_) gx_kx
  obtain ⟨e1, e2⟩ := ch_ok i hi j hj
  simp only [r133_0, r133_1, r133_1n, r133_2, r133_6, r133_6n, r133_7, r133_8, r133_9, r133_12, r133_13, r133_14, i32_10, reduceIte, gm_cmp1, gm_cmp3, gm_cmp4, gm_kd_sf, gm_ln_sf, gm_sf_1, gm_sf_2, gm_nw_1, gm_nw_2, gm_k_int, gm_k_ref, gm_k_null, gm_k_u, gm_k_long, and_true, true_and, true_or, or_true, or_false, false_or, and_self, or_self, if_true, if_false, List.map_nil, List.map_cons, List.sum_nil, List.sum_cons, Nat.zero_le, Option.toList_some, Option.toList_none, List.cons_append, List.nil_append, ne_eq, not_false_eq_true, not_true_eq_false, nI_1, nI_add, Value.category, Nat.reduceAdd, Nat.reduceMod, Nat.reduceLeDiff, Nat.reduceLT, Nat.reduceEqDiff, Nat.reducePow, Nat.le_refl, Nat.add_left_cancel_iff, Nat.add_eq_left, Nat.left_eq_add, Nat.add_zero, kv, lv, hj, ll2, fv, e1]
  refine (r133_14 e2).mpr ?_
  exact ⟨rfl, rfl⟩
theorem x_charAt {i j a v : Nat} (hd : 3 ≤ d) (hi : i < 3) (h5 : E 5 = .int 1) (h1 : E 1 = .null ∨ ∃ z : Nat, E 1 = .ref z) (k : gm_kd h a = 6) (l : gm_ln h a = 2) (f0 : gm_fv h a 0 = .ref v) (f : gm_fv h a 1 = .int 0) (kv : gm_kd h v = 302) (lv : gm_ln h v = (gx_str i).length) (hj : j < (gx_str i).length) (fv : gm_fv h v j = .int ((gx_str i).getD j 0)) : gm_Ca E d 127 [.ref a, .int (nI j)] h (gx_v (some (.int ((gx_str i).getD j 0))) h) := by
  show gm_W E d 127 0 [.ref a, .int (nI j)] [] h _
  have l0 : 0 < 2 := by decide
  simp only [r127_0, r127_0n, r127_4, r127_7, r127_7n, r127_8, r127_11, r127_15, r127_16, r127_16n, r127_17, r127_20, r127_24, i32_10, reduceIte, gm_cmp1, gm_cmp3, gm_cmp4, gm_kd_sf, gm_ln_sf, gm_sf_1, gm_sf_2, gm_nw_1, gm_nw_2, gm_k_int, gm_k_ref, gm_k_null, gm_k_u, gm_k_long, and_true, true_and, true_or, or_true, or_false, false_or, and_self, or_self, if_true, if_false, List.map_nil, List.map_cons, List.sum_nil, List.sum_cons, Nat.zero_le, Option.toList_some, Option.toList_none, List.cons_append, List.nil_append, ne_eq, not_false_eq_true, not_true_eq_false, nI_1, nI_add, Value.category, Nat.reduceAdd, Nat.reduceMod, Nat.reduceLeDiff, Nat.reduceLT, Nat.reduceEqDiff, Nat.reducePow, Nat.le_refl, Nat.add_left_cancel_iff, Nat.add_eq_left, Nat.left_eq_add, Nat.add_zero]
  refine c127_1 (by simp) k (by omega) (x_isLatin1 h5 k l f) (gx_kn ?_) gx_kx
  simp only [r127_0, r127_0n, r127_4, r127_7, r127_7n, r127_8, r127_11, r127_15, r127_16, r127_16n, r127_17, r127_20, r127_24, i32_10, reduceIte, gm_cmp1, gm_cmp3, gm_cmp4, gm_kd_sf, gm_ln_sf, gm_sf_1, gm_sf_2, gm_nw_1, gm_nw_2, gm_k_int, gm_k_ref, gm_k_null, gm_k_u, gm_k_long, and_true, true_and, true_or, or_true, or_false, false_or, and_self, or_self, if_true, if_false, List.map_nil, List.map_cons, List.sum_nil, List.sum_cons, Nat.zero_le, Option.toList_some, Option.toList_none, List.cons_append, List.nil_append, ne_eq, not_false_eq_true, not_true_eq_false, nI_1, nI_add, Value.category, Nat.reduceAdd, Nat.reduceMod, Nat.reduceLeDiff, Nat.reduceLT, Nat.reduceEqDiff, Nat.reducePow, Nat.le_refl, Nat.add_left_cancel_iff, Nat.add_eq_left, Nat.left_eq_add, Nat.add_zero, k, l, l0, f0]
  refine c127_12 (by simp) (by simp [gm_en1]) (by omega) (x_charAtL (by omega) hi h1 kv lv hj fv) (gx_kn ?_) gx_kx
  simp only [i32_10, reduceIte, gm_cmp1, gm_cmp3, gm_cmp4, gm_kd_sf, gm_ln_sf, gm_sf_1, gm_sf_2, gm_nw_1, gm_nw_2, gm_k_int, gm_k_ref, gm_k_null, gm_k_u, gm_k_long, and_true, true_and, true_or, or_true, or_false, false_or, and_self, or_self, if_true, if_false, List.map_nil, List.map_cons, List.sum_nil, List.sum_cons, Nat.zero_le, Option.toList_some, Option.toList_none, List.cons_append, List.nil_append, ne_eq, not_false_eq_true, not_true_eq_false, nI_1, nI_add, Value.category, Nat.reduceAdd, Nat.reduceMod, Nat.reduceLeDiff, Nat.reduceLT, Nat.reduceEqDiff, Nat.reducePow, Nat.le_refl, Nat.add_left_cancel_iff, Nat.add_eq_left, Nat.left_eq_add, Nat.add_zero]
  refine (r127_15 (ch_ok i hi j hj).2).mpr ?_
  exact ⟨rfl, rfl⟩
theorem x_isSpelt {i a n : Nat} (hd : 4 ≤ d) (hi : i < 3) (R : gx_R E h x ca K F s) (hn : a + n ≤ gs_n K) : gm_Ca E d 72 [.ref x, .int (nI a), .int (nI n), E (2 + i)] h (gx_v (some (.int (if gs_spelt K a n (gx_str i) = true then 1 else 0))) h) := by
  obtain ⟨-, ⟨h5, h1⟩, g⟩ := R.2.2.1.1.1
  obtain ⟨w, v, ew, -, -, k, l, f0, f1, kv, lv, fv⟩ := g i hi
  obtain ⟨A0, -, A5, -, -, -, -, A2, A2l, -⟩ := R.1
  obtain ⟨-, -, -, -, B6, B7, B8⟩ := R.2.1
  have ll : (gx_str i).length < 2 ^ 31 := by
    rcases (show i = 0 ∨ i = 1 ∨ i = 2 by omega) with rfl | rfl | rfl <;> decide
  rw [ew]
  have loop : ∀ (m j : Nat), j + m = n → n = (gx_str i).length → (∀ k, k < j → gs_sb K (a + k) = (gx_str i).getD k 0) → gm_W E d 72 13 [.ref x, .int (nI a), .int (nI n), .ref w, .int (nI j)] [] h (gx_v (some (.int (if gs_spelt K a n (gx_str i) = true then 1 else 0))) h) := by
    intro m
    induction m with
    | zero =>
      intro j hj hnl hk
      have hj : j = n := by omega
      subst hj
      simp only [r72_0, r72_1, r72_1n, r72_5, r72_8, r72_9, r72_10, r72_11, r72_13, r72_15, r72_16, r72_19, r72_19n, r72_20, r72_23, r72_24, r72_26, r72_27, r72_28, r72_28n, r72_29, r72_34, r72_37, r72_38, r72_39, r72_42, r72_45, r72_46, i32_10, reduceIte, gm_cmp1, gm_cmp3, gm_cmp4, gm_kd_sf, gm_ln_sf, gm_sf_1, gm_sf_2, gm_nw_1, gm_nw_2, gm_k_int, gm_k_ref, gm_k_null, gm_k_u, gm_k_long, and_true, true_and, true_or, or_true, or_false, false_or, and_self, or_self, if_true, if_false, List.map_nil, List.map_cons, List.sum_nil, List.sum_cons, Nat.zero_le, Option.toList_some, Option.toList_none, List.cons_append, List.nil_append, ne_eq, not_false_eq_true, not_true_eq_false, nI_1, nI_add, Value.category, Nat.reduceAdd, Nat.reduceMod, Nat.reduceLeDiff, Nat.reduceLT, Nat.reduceEqDiff, Nat.reducePow, Nat.le_refl, Nat.add_left_cancel_iff, Nat.add_eq_left, Nat.left_eq_add, Nat.add_zero, nI_leT (Nat.le_refl j) (show j < 2 ^ 31 by omega)]
      have e : gs_spelt K a j (gx_str i) = true := by
        unfold gs_spelt
        simp only [hnl, decide_true, Bool.true_and, List.all_eq_true, List.mem_range, beq_iff_eq]
        intro k hk2
        exact hk k (by omega)
      rw [e]
      exact ⟨rfl, rfl⟩
    | succ m ih =>
      intro j hj hnl hk
      have hj2 : j < n := by omega
      have haj : a + j < gs_n K := by omega
      have haj7 : a + j < 700 := by omega
      rw [r72_13]
      simp only [r72_0, r72_1, r72_1n, r72_5, r72_8, r72_9, r72_10, r72_11, r72_15, r72_16, r72_19, r72_19n, r72_20, r72_23, r72_24, r72_26, r72_27, r72_28, r72_28n, r72_29, r72_34, r72_37, r72_38, r72_39, r72_42, r72_45, r72_46, i32_10, reduceIte, gm_cmp1, gm_cmp3, gm_cmp4, gm_kd_sf, gm_ln_sf, gm_sf_1, gm_sf_2, gm_nw_1, gm_nw_2, gm_k_int, gm_k_ref, gm_k_null, gm_k_u, gm_k_long, and_true, true_and, true_or, or_true, or_false, false_or, and_self, or_self, if_true, if_false, List.map_nil, List.map_cons, List.sum_nil, List.sum_cons, Nat.zero_le, Option.toList_some, Option.toList_none, List.cons_append, List.nil_append, ne_eq, not_false_eq_true, not_true_eq_false, nI_1, nI_add, Value.category, Nat.reduceAdd, Nat.reduceMod, Nat.reduceLeDiff, Nat.reduceLT, Nat.reduceEqDiff, Nat.reducePow, Nat.le_refl, Nat.add_left_cancel_iff, Nat.add_eq_left, Nat.left_eq_add, Nat.add_zero, nI_leF hj2 (show n < 2 ^ 31 by omega), A0, A5, A2, A2l, haj7, B8 _ haj]
      refine c72_31 (by simp [Value.category]) k (by omega) (x_charAt (by omega) hi h5 h1 k l f0 f1 kv lv (by omega) (fv j (by omega))) (gx_kn ?_) gx_kx
      by_cases e : gs_sb K (a + j) = (gx_str i).getD j 0
      · simp only [r72_0, r72_1, r72_1n, r72_5, r72_8, r72_9, r72_10, r72_11, r72_15, r72_16, r72_19, r72_19n, r72_20, r72_23, r72_24, r72_26, r72_27, r72_28, r72_28n, r72_29, r72_34, r72_37, r72_38, r72_39, r72_42, r72_45, r72_46, i32_10, reduceIte, gm_cmp1, gm_cmp3, gm_cmp4, gm_kd_sf, gm_ln_sf, gm_sf_1, gm_sf_2, gm_nw_1, gm_nw_2, gm_k_int, gm_k_ref, gm_k_null, gm_k_u, gm_k_long, and_true, true_and, true_or, or_true, or_false, false_or, and_self, or_self, if_true, if_false, List.map_nil, List.map_cons, List.sum_nil, List.sum_cons, Nat.zero_le, Option.toList_some, Option.toList_none, List.cons_append, List.nil_append, ne_eq, not_false_eq_true, not_true_eq_false, nI_1, nI_add, Value.category, Nat.reduceAdd, Nat.reduceMod, Nat.reduceLeDiff, Nat.reduceLT, Nat.reduceEqDiff, Nat.reducePow, Nat.le_refl, Nat.add_left_cancel_iff, Nat.add_eq_left, Nat.left_eq_add, Nat.add_zero, e]
        refine ih (j + 1) (by omega) hnl (fun k hk2 => ?_)
        by_cases ek : k = j
        · subst ek; exact e
        · exact hk k (by omega)
      · simp only [r72_0, r72_1, r72_1n, r72_5, r72_8, r72_9, r72_10, r72_11, r72_15, r72_16, r72_19, r72_19n, r72_20, r72_23, r72_24, r72_26, r72_27, r72_28, r72_28n, r72_29, r72_34, r72_37, r72_38, r72_39, r72_42, r72_45, r72_46, i32_10, reduceIte, gm_cmp1, gm_cmp3, gm_cmp4, gm_kd_sf, gm_ln_sf, gm_sf_1, gm_sf_2, gm_nw_1, gm_nw_2, gm_k_int, gm_k_ref, gm_k_null, gm_k_u, gm_k_long, and_true, true_and, true_or, or_true, or_false, false_or, and_self, or_self, if_true, if_false, List.map_nil, List.map_cons, List.sum_nil, List.sum_cons, Nat.zero_le, Option.toList_some, Option.toList_none, List.cons_append, List.nil_append, ne_eq, not_false_eq_true, not_true_eq_false, nI_1, nI_add, Value.category, Nat.reduceAdd, Nat.reduceMod, Nat.reduceLeDiff, Nat.reduceLT, Nat.reduceEqDiff, Nat.reducePow, Nat.le_refl, Nat.add_left_cancel_iff, Nat.add_eq_left, Nat.left_eq_add, Nat.add_zero, e]
        have e2 : gs_spelt K a n (gx_str i) = false := by
          cases hb : gs_spelt K a n (gx_str i) with
          | false => rfl
          | true =>
            unfold gs_spelt at hb
            simp only [Bool.and_eq_true, List.all_eq_true, List.mem_range, beq_iff_eq] at hb
            exact absurd (hb.2 j hj2) e
        rw [e2]
        exact ⟨rfl, rfl⟩
  show gm_W E d 72 0 [.ref x, .int (nI a), .int (nI n), .ref w, gm_u] [] h _
  simp only [r72_0, r72_1, r72_1n, r72_5, r72_8, r72_9, r72_10, r72_11, r72_13, r72_15, r72_16, r72_19, r72_19n, r72_20, r72_23, r72_24, r72_26, r72_27, r72_28, r72_28n, r72_29, r72_34, r72_37, r72_38, r72_39, r72_42, r72_45, r72_46, i32_10, reduceIte, gm_cmp1, gm_cmp3, gm_cmp4, gm_kd_sf, gm_ln_sf, gm_sf_1, gm_sf_2, gm_nw_1, gm_nw_2, gm_k_int, gm_k_ref, gm_k_null, gm_k_u, gm_k_long, and_true, true_and, true_or, or_true, or_false, false_or, and_self, or_self, if_true, if_false, List.map_nil, List.map_cons, List.sum_nil, List.sum_cons, Nat.zero_le, Option.toList_some, Option.toList_none, List.cons_append, List.nil_append, ne_eq, not_false_eq_true, not_true_eq_false, nI_1, nI_add, Value.category, Nat.reduceAdd, Nat.reduceMod, Nat.reduceLeDiff, Nat.reduceLT, Nat.reduceEqDiff, Nat.reducePow, Nat.le_refl, Nat.add_left_cancel_iff, Nat.add_eq_left, Nat.left_eq_add, Nat.add_zero]
  refine c72_2 (by simp [Value.category]) k (by omega) (x_length (i := i) (by omega) h5 k l f0 f1 kv lv) (gx_kn ?_) gx_kx
  have en : (nI n = nI (gx_str i).length) = (n = (gx_str i).length) := propext (nI_eq (by omega) ll)
  by_cases e : n = (gx_str i).length
  · simp only [r72_0, r72_1, r72_1n, r72_5, r72_8, r72_9, r72_10, r72_11, r72_15, r72_16, r72_19, r72_19n, r72_20, r72_23, r72_24, r72_26, r72_27, r72_28, r72_28n, r72_29, r72_34, r72_37, r72_38, r72_39, r72_42, r72_45, r72_46, i32_10, reduceIte, gm_cmp1, gm_cmp3, gm_cmp4, gm_kd_sf, gm_ln_sf, gm_sf_1, gm_sf_2, gm_nw_1, gm_nw_2, gm_k_int, gm_k_ref, gm_k_null, gm_k_u, gm_k_long, and_true, true_and, true_or, or_true, or_false, false_or, and_self, or_self, if_true, if_false, List.map_nil, List.map_cons, List.sum_nil, List.sum_cons, Nat.zero_le, Option.toList_some, Option.toList_none, List.cons_append, List.nil_append, ne_eq, not_false_eq_true, not_true_eq_false, nI_1, nI_add, Value.category, Nat.reduceAdd, Nat.reduceMod, Nat.reduceLeDiff, Nat.reduceLT, Nat.reduceEqDiff, Nat.reducePow, Nat.le_refl, Nat.add_left_cancel_iff, Nat.add_eq_left, Nat.left_eq_add, Nat.add_zero, en, e]
    rw [← e]
    exact loop n 0 (by omega) e (fun k hk => by omega)
  · simp only [r72_0, r72_1, r72_1n, r72_5, r72_8, r72_9, r72_10, r72_11, r72_15, r72_16, r72_19, r72_19n, r72_20, r72_23, r72_24, r72_26, r72_27, r72_28, r72_28n, r72_29, r72_34, r72_37, r72_38, r72_39, r72_42, r72_45, r72_46, i32_10, reduceIte, gm_cmp1, gm_cmp3, gm_cmp4, gm_kd_sf, gm_ln_sf, gm_sf_1, gm_sf_2, gm_nw_1, gm_nw_2, gm_k_int, gm_k_ref, gm_k_null, gm_k_u, gm_k_long, and_true, true_and, true_or, or_true, or_false, false_or, and_self, or_self, if_true, if_false, List.map_nil, List.map_cons, List.sum_nil, List.sum_cons, Nat.zero_le, Option.toList_some, Option.toList_none, List.cons_append, List.nil_append, ne_eq, not_false_eq_true, not_true_eq_false, nI_1, nI_add, Value.category, Nat.reduceAdd, Nat.reduceMod, Nat.reduceLeDiff, Nat.reduceLT, Nat.reduceEqDiff, Nat.reducePow, Nat.le_refl, Nat.add_left_cancel_iff, Nat.add_eq_left, Nat.left_eq_add, Nat.add_zero, en, e]
    have e2 : gs_spelt K a n (gx_str i) = false := by unfold gs_spelt; simp [e]
    rw [e2]
    exact ⟨rfl, rfl⟩
theorem x_canEncode {b : Nat} (hb : b < 256) : gm_Ca E d 134 [.int (nI b)] h (gx_v (some (.int 1)) h) := by
  show gm_W E d 134 0 [.int (nI b)] [] h _
  have e : ¬ (255 : Int32) < nI b := nI_nlt (b := b) (a := 255) (by omega) (by decide)
  simp only [r134_0, r134_1, r134_4, r134_5, r134_8, r134_11, r134_12, r134_15, r134_16, i32_10, reduceIte, gm_cmp1, gm_cmp3, gm_cmp4, gm_kd_sf, gm_ln_sf, gm_sf_1, gm_sf_2, gm_nw_1, gm_nw_2, gm_k_int, gm_k_ref, gm_k_null, gm_k_u, gm_k_long, and_true, true_and, true_or, or_true, or_false, false_or, and_self, or_self, if_true, if_false, List.map_nil, List.map_cons, List.sum_nil, List.sum_cons, Nat.zero_le, Option.toList_some, Option.toList_none, List.cons_append, List.nil_append, ne_eq, not_false_eq_true, not_true_eq_false, nI_1, nI_add, Value.category, Nat.reduceAdd, Nat.reduceMod, Nat.reduceLeDiff, Nat.reduceLT, Nat.reduceEqDiff, Nat.reducePow, Nat.le_refl, Nat.add_left_cancel_iff, Nat.add_eq_left, Nat.left_eq_add, Nat.add_zero, nI_pos (show b < 2 ^ 31 by omega), e]
  exact ⟨rfl, rfl⟩
def gs_tyi (b : Nat) : Int32 := match gs_types.findIdx? (· == nI b) with
  | none => -1
  | some j => nI j
set_option maxRecDepth 100000 in
theorem ty_eq : ∀ j, j < 8 → ∀ b, b < 256 → (gs_types.getD j 0 = (nI b).toInt8.toInt32 ↔ gs_types.getD j 0 = nI b) := by decide +kernel
theorem x_indexOfChar {b v : Nat} (hb : b < 256) (kv : gm_kd h v = 302) (lv : gm_ln h v = 8) (fv : ∀ j, j < 8 → gm_fv h v j = .int (gs_types.getD j 0)) : gm_Ca E d 136 [.ref v, .int (nI b), .int (nI 0), .int (nI 8)] h (gx_v (some (.int (gs_tyi b))) h) := by
  have tl : gs_types.length = 8 := rfl
  have loop : ∀ (m j : Nat), j + m = 8 → (∀ k, k < j → ¬ gs_types.getD k 0 = nI b) → gm_W E d 136 7 [.ref v, .int (nI b), .int (nI 0), .int (nI 8), .int (nI b).toInt8.toInt32, .int (nI j)] [] h (gx_v (some (.int (gs_tyi b))) h) := by
    intro m
    induction m with
    | zero =>
      intro j hj hk
      have hj : j = 8 := by omega
      subst hj
      simp only [r136_0, r136_1, r136_2, r136_4, r136_5, r136_7, r136_9, r136_10, r136_13, r136_13n, r136_14, r136_16, r136_17, r136_19, r136_22, r136_24, r136_25, r136_28, r136_31, r136_32, i32_10, reduceIte, gm_cmp1, gm_cmp3, gm_cmp4, gm_kd_sf, gm_ln_sf, gm_sf_1, gm_sf_2, gm_nw_1, gm_nw_2, gm_k_int, gm_k_ref, gm_k_null, gm_k_u, gm_k_long, and_true, true_and, true_or, or_true, or_false, false_or, and_self, or_self, if_true, if_false, List.map_nil, List.map_cons, List.sum_nil, List.sum_cons, Nat.zero_le, Option.toList_some, Option.toList_none, List.cons_append, List.nil_append, ne_eq, not_false_eq_true, not_true_eq_false, nI_1, nI_add, Value.category, Nat.reduceAdd, Nat.reduceMod, Nat.reduceLeDiff, Nat.reduceLT, Nat.reduceEqDiff, Nat.reducePow, Nat.le_refl, Nat.add_left_cancel_iff, Nat.add_eq_left, Nat.left_eq_add, Nat.add_zero, nI_leT (Nat.le_refl 8) (show 8 < 2 ^ 31 by decide)]
      have e : gs_types.findIdx? (· == nI b) = none := by
        rw [List.findIdx?_eq_none_iff]
        intro q hq
        obtain ⟨i, hi, rfl⟩ := List.getElem_of_mem hq
        have := hk i (by omega)
        rw [List.getD_eq_getElem?_getD, List.getElem?_eq_getElem hi] at this
        simpa using this
      unfold gs_tyi
      rw [e]
      exact ⟨rfl, rfl⟩
    | succ m ih =>
      intro j hj hk
      have hj8 : j < 8 := by omega
      rw [r136_7]
      simp only [r136_0, r136_1, r136_2, r136_4, r136_5, r136_9, r136_10, r136_13, r136_13n, r136_14, r136_16, r136_17, r136_19, r136_22, r136_24, r136_25, r136_28, r136_31, r136_32, i32_10, reduceIte, gm_cmp1, gm_cmp3, gm_cmp4, gm_kd_sf, gm_ln_sf, gm_sf_1, gm_sf_2, gm_nw_1, gm_nw_2, gm_k_int, gm_k_ref, gm_k_null, gm_k_u, gm_k_long, and_true, true_and, true_or, or_true, or_false, false_or, and_self, or_self, if_true, if_false, List.map_nil, List.map_cons, List.sum_nil, List.sum_cons, Nat.zero_le, Option.toList_some, Option.toList_none, List.cons_append, List.nil_append, ne_eq, not_false_eq_true, not_true_eq_false, nI_1, nI_add, Value.category, Nat.reduceAdd, Nat.reduceMod, Nat.reduceLeDiff, Nat.reduceLT, Nat.reduceEqDiff, Nat.reducePow, Nat.le_refl, Nat.add_left_cancel_iff, Nat.add_eq_left, Nat.left_eq_add, Nat.add_zero, nI_leF hj8 (show 8 < 2 ^ 31 by decide), kv, lv, hj8, fv j hj8, ty_eq j hj8 b hb]
      by_cases e : gs_types.getD j 0 = nI b
      · simp only [e, reduceIte]
        have e2 : gs_types.findIdx? (· == nI b) = some j := by
          rw [List.findIdx?_eq_some_iff_getElem]
          have gd : ∀ i (hi : i < gs_types.length), gs_types.getD i 0 = gs_types[i] := fun i hi => by rw [List.getD_eq_getElem?_getD, List.getElem?_eq_getElem hi]; rfl
          refine ⟨by omega, ?_, fun i hi => ?_⟩
          · rw [gd j (by omega)] at e
            simpa using e
          · have := hk i hi
            rw [gd i (by omega)] at this
            simpa using this
        unfold gs_tyi
        rw [e2]
        exact ⟨rfl, rfl⟩
      · simp only [e, reduceIte]
        refine ih (j + 1) (by omega) (fun k hk2 => ?_)
        by_cases ek : k = j
        · subst ek; exact e
        · exact hk k (by omega)
  show gm_W E d 136 0 [.ref v, .int (nI b), .int (nI 0), .int (nI 8), gm_u, gm_u] [] h _
  simp only [r136_0, r136_1, r136_2, r136_4, r136_5, r136_9, r136_10, r136_13, r136_13n, r136_14, r136_16, r136_17, r136_19, r136_22, r136_24, r136_25, r136_28, r136_31, r136_32, i32_10, reduceIte, gm_cmp1, gm_cmp3, gm_cmp4, gm_kd_sf, gm_ln_sf, gm_sf_1, gm_sf_2, gm_nw_1, gm_nw_2, gm_k_int, gm_k_ref, gm_k_null, gm_k_u, gm_k_long, and_true, true_and, true_or, or_true, or_false, false_or, and_self, or_self, if_true, if_false, List.map_nil, List.map_cons, List.sum_nil, List.sum_cons, Nat.zero_le, Option.toList_some, Option.toList_none, List.cons_append, List.nil_append, ne_eq, not_false_eq_true, not_true_eq_false, nI_1, nI_add, Value.category, Nat.reduceAdd, Nat.reduceMod, Nat.reduceLeDiff, Nat.reduceLT, Nat.reduceEqDiff, Nat.reducePow, Nat.le_refl, Nat.add_left_cancel_iff, Nat.add_eq_left, Nat.left_eq_add, Nat.add_zero]
  exact loop 8 0 (by omega) (fun k hk => by omega)
theorem x_indexOfL {b v : Nat} (hd : 1 ≤ d) (hb : b < 256) (kv : gm_kd h v = 302) (lv : gm_ln h v = 8) (fv : ∀ j, j < 8 → gm_fv h v j = .int (gs_types.getD j 0)) : gm_Ca E d 135 [.ref v, .int (nI b), .int (nI 0), .int (nI 8)] h (gx_v (some (.int (gs_tyi b))) h) := by
  show gm_W E d 135 0 [.ref v, .int (nI b), .int (nI 0), .int (nI 8)] [] h _
  simp only [r135_0, r135_4, r135_7, r135_8, r135_9, r135_10, r135_14, r135_15, r135_16, r135_16n, r135_17, r135_21, r135_22, r135_23, r135_24, r135_27, r135_28, r135_29, r135_29n, r135_30, r135_31, r135_32, r135_36, i32_10, reduceIte, gm_cmp1, gm_cmp3, gm_cmp4, gm_kd_sf, gm_ln_sf, gm_sf_1, gm_sf_2, gm_nw_1, gm_nw_2, gm_k_int, gm_k_ref, gm_k_null, gm_k_u, gm_k_long, and_true, true_and, true_or, or_true, or_false, false_or, and_self, or_self, if_true, if_false, List.map_nil, List.map_cons, List.sum_nil, List.sum_cons, Nat.zero_le, Option.toList_some, Option.toList_none, List.cons_append, List.nil_append, ne_eq, not_false_eq_true, not_true_eq_false, nI_1, nI_add, Value.category, Nat.reduceAdd, Nat.reduceMod, Nat.reduceLeDiff, Nat.reduceLT, Nat.reduceEqDiff, Nat.reducePow, Nat.le_refl, Nat.add_left_cancel_iff, Nat.add_eq_left, Nat.left_eq_add, Nat.add_zero]
  refine c135_1 (by simp) hd (x_canEncode hb) (gx_kn ?_) gx_kx
  simp only [r135_0, r135_4, r135_7, r135_8, r135_9, r135_10, r135_14, r135_15, r135_16, r135_16n, r135_17, r135_21, r135_22, r135_23, r135_24, r135_27, r135_28, r135_29, r135_29n, r135_30, r135_31, r135_32, r135_36, i32_10, reduceIte, gm_cmp1, gm_cmp3, gm_cmp4, gm_kd_sf, gm_ln_sf, gm_sf_1, gm_sf_2, gm_nw_1, gm_nw_2, gm_k_int, gm_k_ref, gm_k_null, gm_k_u, gm_k_long, and_true, true_and, true_or, or_true, or_false, false_or, and_self, or_self, if_true, if_false, List.map_nil, List.map_cons, List.sum_nil, List.sum_cons, Nat.zero_le, Option.toList_some, Option.toList_none, List.cons_append, List.nil_append, ne_eq, not_false_eq_true, not_true_eq_false, nI_1, nI_add, Value.category, Nat.reduceAdd, Nat.reduceMod, Nat.reduceLeDiff, Nat.reduceLT, Nat.reduceEqDiff, Nat.reducePow, Nat.le_refl, Nat.add_left_cancel_iff, Nat.add_eq_left, Nat.left_eq_add, Nat.add_zero]
  refine c135_11 (by simp) hd (x_max _ _) (gx_kn ?_) gx_kx
  have m1 : (if nI 0 < 0 then (0 : Int32) else nI 0) = nI 0 := by decide
  rw [m1]
  simp only [r135_0, r135_4, r135_7, r135_8, r135_9, r135_10, r135_14, r135_15, r135_16, r135_16n, r135_17, r135_21, r135_22, r135_23, r135_24, r135_27, r135_28, r135_29, r135_29n, r135_30, r135_31, r135_32, r135_36, i32_10, reduceIte, gm_cmp1, gm_cmp3, gm_cmp4, gm_kd_sf, gm_ln_sf, gm_sf_1, gm_sf_2, gm_nw_1, gm_nw_2, gm_k_int, gm_k_ref, gm_k_null, gm_k_u, gm_k_long, and_true, true_and, true_or, or_true, or_false, false_or, and_self, or_self, if_true, if_false, List.map_nil, List.map_cons, List.sum_nil, List.sum_cons, Nat.zero_le, Option.toList_some, Option.toList_none, List.cons_append, List.nil_append, ne_eq, not_false_eq_true, not_true_eq_false, nI_1, nI_add, Value.category, Nat.reduceAdd, Nat.reduceMod, Nat.reduceLeDiff, Nat.reduceLT, Nat.reduceEqDiff, Nat.reducePow, Nat.le_refl, Nat.add_left_cancel_iff, Nat.add_eq_left, Nat.left_eq_add, Nat.add_zero, kv, lv]
  refine c135_18 (by simp) hd (x_min _ _) (gx_kn ?_) gx_kx
  have m2 : (if nI 8 < nI 8 then nI 8 else nI 8) = nI 8 := by decide
  rw [m2]
  have m3 : nI 0 < nI 8 := by decide
  simp only [r135_0, r135_4, r135_7, r135_8, r135_9, r135_10, r135_14, r135_15, r135_16, r135_16n, r135_17, r135_21, r135_22, r135_23, r135_24, r135_27, r135_28, r135_29, r135_29n, r135_30, r135_31, r135_32, r135_36, i32_10, reduceIte, gm_cmp1, gm_cmp3, gm_cmp4, gm_kd_sf, gm_ln_sf, gm_sf_1, gm_sf_2, gm_nw_1, gm_nw_2, gm_k_int, gm_k_ref, gm_k_null, gm_k_u, gm_k_long, and_true, true_and, true_or, or_true, or_false, false_or, and_self, or_self, if_true, if_false, List.map_nil, List.map_cons, List.sum_nil, List.sum_cons, Nat.zero_le, Option.toList_some, Option.toList_none, List.cons_append, List.nil_append, ne_eq, not_false_eq_true, not_true_eq_false, nI_1, nI_add, Value.category, Nat.reduceAdd, Nat.reduceMod, Nat.reduceLeDiff, Nat.reduceLT, Nat.reduceEqDiff, Nat.reducePow, Nat.le_refl, Nat.add_left_cancel_iff, Nat.add_eq_left, Nat.left_eq_add, Nat.add_zero, m3]
  refine c135_33 (by simp) (by simp [gm_en1]) hd (x_indexOfChar hb kv lv fv) (gx_kn ?_) gx_kx
  simp only [r135_0, r135_4, r135_7, r135_8, r135_9, r135_10, r135_14, r135_15, r135_16, r135_16n, r135_17, r135_21, r135_22, r135_23, r135_24, r135_27, r135_28, r135_29, r135_29n, r135_30, r135_31, r135_32, r135_36, i32_10, reduceIte, gm_cmp1, gm_cmp3, gm_cmp4, gm_kd_sf, gm_ln_sf, gm_sf_1, gm_sf_2, gm_nw_1, gm_nw_2, gm_k_int, gm_k_ref, gm_k_null, gm_k_u, gm_k_long, and_true, true_and, true_or, or_true, or_false, false_or, and_self, or_self, if_true, if_false, List.map_nil, List.map_cons, List.sum_nil, List.sum_cons, Nat.zero_le, Option.toList_some, Option.toList_none, List.cons_append, List.nil_append, ne_eq, not_false_eq_true, not_true_eq_false, nI_1, nI_add, Value.category, Nat.reduceAdd, Nat.reduceMod, Nat.reduceLeDiff, Nat.reduceLT, Nat.reduceEqDiff, Nat.reducePow, Nat.le_refl, Nat.add_left_cancel_iff, Nat.add_eq_left, Nat.left_eq_add, Nat.add_zero]
  exact ⟨rfl, rfl⟩
theorem x_indexOf2 {b a : Nat} (hd : 2 ≤ d) (hb : b < 256) (R : gx_R E h x ca K F s) (ea : E 2 = .ref a) : gm_Ca E d 129 [.ref a, .int (nI b), .int (nI 0)] h (gx_v (some (.int (gs_tyi b))) h) := by
  obtain ⟨-, ⟨h5, h1⟩, g⟩ := R.2.2.1.1.1
  obtain ⟨w, v, ew, -, -, k, l, f0, f1, kv, lv, fv⟩ := g 0 (by decide)
  have ew : E 2 = .ref w := ew
  rw [ea] at ew
  cases ew
  have l0 : 0 < 2 := by decide
  show gm_W E d 129 0 [.ref a, .int (nI b), .int (nI 0)] [] h _
  simp only [r129_0, r129_0n, r129_4, r129_7, r129_7n, r129_8, r129_11, r129_12, r129_13, r129_13n, r129_20, r129_23, r129_23n, r129_24, r129_27, r129_28, r129_29, r129_29n, r129_36, i32_10, reduceIte, gm_cmp1, gm_cmp3, gm_cmp4, gm_kd_sf, gm_ln_sf, gm_sf_1, gm_sf_2, gm_nw_1, gm_nw_2, gm_k_int, gm_k_ref, gm_k_null, gm_k_u, gm_k_long, and_true, true_and, true_or, or_true, or_false, false_or, and_self, or_self, if_true, if_false, List.map_nil, List.map_cons, List.sum_nil, List.sum_cons, Nat.zero_le, Option.toList_some, Option.toList_none, List.cons_append, List.nil_append, ne_eq, not_false_eq_true, not_true_eq_false, nI_1, nI_add, Value.category, Nat.reduceAdd, Nat.reduceMod, Nat.reduceLeDiff, Nat.reduceLT, Nat.reduceEqDiff, Nat.reducePow, Nat.le_refl, Nat.add_left_cancel_iff, Nat.add_eq_left, Nat.left_eq_add, Nat.add_zero]
  refine c129_1 (by simp) k (by omega) (x_isLatin1 h5 k l f1) (gx_kn ?_) gx_kx
  simp only [r129_0, r129_0n, r129_4, r129_7, r129_7n, r129_8, r129_11, r129_12, r129_13, r129_13n, r129_20, r129_23, r129_23n, r129_24, r129_27, r129_28, r129_29, r129_29n, r129_36, i32_10, reduceIte, gm_cmp1, gm_cmp3, gm_cmp4, gm_kd_sf, gm_ln_sf, gm_sf_1, gm_sf_2, gm_nw_1, gm_nw_2, gm_k_int, gm_k_ref, gm_k_null, gm_k_u, gm_k_long, and_true, true_and, true_or, or_true, or_false, false_or, and_self, or_self, if_true, if_false, List.map_nil, List.map_cons, List.sum_nil, List.sum_cons, Nat.zero_le, Option.toList_some, Option.toList_none, List.cons_append, List.nil_append, ne_eq, not_false_eq_true, not_true_eq_false, nI_1, nI_add, Value.category, Nat.reduceAdd, Nat.reduceMod, Nat.reduceLeDiff, Nat.reduceLT, Nat.reduceEqDiff, Nat.reducePow, Nat.le_refl, Nat.add_left_cancel_iff, Nat.add_eq_left, Nat.left_eq_add, Nat.add_zero, k, l, l0, f0]
  refine c129_14 (by simp [Value.category]) k (by omega) (x_length (i := 0) (by omega) h5 k l f0 f1 kv lv) (gx_kn ?_) gx_kx
  simp only [i32_10, reduceIte, gm_cmp1, gm_cmp3, gm_cmp4, gm_kd_sf, gm_ln_sf, gm_sf_1, gm_sf_2, gm_nw_1, gm_nw_2, gm_k_int, gm_k_ref, gm_k_null, gm_k_u, gm_k_long, and_true, true_and, true_or, or_true, or_false, false_or, and_self, or_self, if_true, if_false, List.map_nil, List.map_cons, List.sum_nil, List.sum_cons, Nat.zero_le, Option.toList_some, Option.toList_none, List.cons_append, List.nil_append, ne_eq, not_false_eq_true, not_true_eq_false, nI_1, nI_add, Value.category, Nat.reduceAdd, Nat.reduceMod, Nat.reduceLeDiff, Nat.reduceLT, Nat.reduceEqDiff, Nat.reducePow, Nat.le_refl, Nat.add_left_cancel_iff, Nat.add_eq_left, Nat.left_eq_add, Nat.add_zero]
  refine c129_17 (by simp) (by simp [gm_en1]) (by omega) (x_indexOfL (by omega) hb kv lv fv) (gx_kn ?_) gx_kx
  simp only [r129_0, r129_0n, r129_4, r129_7, r129_7n, r129_8, r129_11, r129_12, r129_13, r129_13n, r129_20, r129_23, r129_23n, r129_24, r129_27, r129_28, r129_29, r129_29n, r129_36, i32_10, reduceIte, gm_cmp1, gm_cmp3, gm_cmp4, gm_kd_sf, gm_ln_sf, gm_sf_1, gm_sf_2, gm_nw_1, gm_nw_2, gm_k_int, gm_k_ref, gm_k_null, gm_k_u, gm_k_long, and_true, true_and, true_or, or_true, or_false, false_or, and_self, or_self, if_true, if_false, List.map_nil, List.map_cons, List.sum_nil, List.sum_cons, Nat.zero_le, Option.toList_some, Option.toList_none, List.cons_append, List.nil_append, ne_eq, not_false_eq_true, not_true_eq_false, nI_1, nI_add, Value.category, Nat.reduceAdd, Nat.reduceMod, Nat.reduceLeDiff, Nat.reduceLT, Nat.reduceEqDiff, Nat.reducePow, Nat.le_refl, Nat.add_left_cancel_iff, Nat.add_eq_left, Nat.left_eq_add, Nat.add_zero]
  exact ⟨rfl, rfl⟩
theorem x_indexOf1 {b a : Nat} (hd : 3 ≤ d) (hb : b < 256) (R : gx_R E h x ca K F s) (ea : E 2 = .ref a) (ka : gm_kd h a = 6) : gm_Ca E d 128 [.ref a, .int (nI b)] h (gx_v (some (.int (gs_tyi b))) h) := by
  show gm_W E d 128 0 [.ref a, .int (nI b)] [] h _
  simp only [r128_0, r128_0n, r128_1, r128_2, r128_6, i32_10, reduceIte, gm_cmp1, gm_cmp3, gm_cmp4, gm_kd_sf, gm_ln_sf, gm_sf_1, gm_sf_2, gm_nw_1, gm_nw_2, gm_k_int, gm_k_ref, gm_k_null, gm_k_u, gm_k_long, and_true, true_and, true_or, or_true, or_false, false_or, and_self, or_self, if_true, if_false, List.map_nil, List.map_cons, List.sum_nil, List.sum_cons, Nat.zero_le, Option.toList_some, Option.toList_none, List.cons_append, List.nil_append, ne_eq, not_false_eq_true, not_true_eq_false, nI_1, nI_add, Value.category, Nat.reduceAdd, Nat.reduceMod, Nat.reduceLeDiff, Nat.reduceLT, Nat.reduceEqDiff, Nat.reducePow, Nat.le_refl, Nat.add_left_cancel_iff, Nat.add_eq_left, Nat.left_eq_add, Nat.add_zero]
  refine c128_3 (by simp) ka (by omega) (x_indexOf2 (by omega) hb R ea) (gx_kn ?_) gx_kx
  simp only [r128_0, r128_0n, r128_1, r128_2, r128_6, i32_10, reduceIte, gm_cmp1, gm_cmp3, gm_cmp4, gm_kd_sf, gm_ln_sf, gm_sf_1, gm_sf_2, gm_nw_1, gm_nw_2, gm_k_int, gm_k_ref, gm_k_null, gm_k_u, gm_k_long, and_true, true_and, true_or, or_true, or_false, false_or, and_self, or_self, if_true, if_false, List.map_nil, List.map_cons, List.sum_nil, List.sum_cons, Nat.zero_le, Option.toList_some, Option.toList_none, List.cons_append, List.nil_append, ne_eq, not_false_eq_true, not_true_eq_false, nI_1, nI_add, Value.category, Nat.reduceAdd, Nat.reduceMod, Nat.reduceLeDiff, Nat.reduceLT, Nat.reduceEqDiff, Nat.reducePow, Nat.le_refl, Nat.add_left_cancel_iff, Nat.add_eq_left, Nat.left_eq_add, Nat.add_zero]
  exact ⟨rfl, rfl⟩
end X8
/-! THE CLASS, 9: descriptors. -/
/-- a descriptor's own level, its class and those above left out -/
def gx_d0 (h : gm_H) (a u w : Nat) (l : gs_L) : Prop := gm_kd h a = 1 ∧ gm_fv h a 0 = .int (nI (gs_nf l)) ∧ gm_fv h a 1 = .int (nI (gs_nl l)) ∧ gm_fv h a 2 = .long (gs_did l) ∧ gm_fv h a 3 = .int (gs_fl l) ∧ gm_fv h a 4 = .int (nI (gs_df l).length)
  ∧ gm_fv h a 5 = .ref u ∧ gm_fv h a 6 = .ref w ∧ gm_kd h u = 100 ∧ gm_ln h u = (gs_df l).length ∧ gm_kd h w = 100 ∧ gm_ln h w = (gs_df l).length ∧ (gs_df l).length ≤ 8 ∧ ∀ (j : Nat) (q : Int32 × Int32), (gs_df l)[j]? = some q → gm_fv h u j = .int q.1 ∧ gm_fv h w j = .int q.2 ∧ 0 ≤ q.2 ∧ q.2 < 8
section X9
variable {E : Nat → Value} {d x : Nat} {h : gm_H} {ca : Nat → Nat} {K : gs_K} {F G : Nat → Prop} {s : gs_S}
theorem x_stepsUp {a : Nat} {L : List gs_L} {k : Nat} (hD : gx_ds h x ca K F L (.ref a)) (hk : k < L.length) (hl : L.length < 1000) : gm_Ca E d 107 [.ref a, .int (nI k)] h (fun r h' => ∃ b, r = .inl (some (.ref b)) ∧ h' = h ∧ gx_ds h x ca K F (L.drop k) (.ref b)) := by
  have loop : ∀ (m i b : Nat), i + m = k → gx_ds h x ca K F (L.drop i) (.ref b) → gm_W E d 107 4 [.ref a, .int (nI k), .ref b, .int (nI i)] [] h (fun r h' => ∃ b, r = .inl (some (.ref b)) ∧ h' = h ∧ gx_ds h x ca K F (L.drop k) (.ref b)) := by
    intro m
    induction m with
    | zero =>
      intro i b hi hb
      have hi : i = k := by omega
      subst hi
      simp only [r107_0, r107_0n, r107_1, r107_1n, r107_2, r107_3, r107_4, r107_5, r107_6, r107_9, r107_9n, r107_10, r107_13n, r107_13, r107_16, r107_16n, r107_17, r107_20, r107_20n, r107_21, r107_24, r107_27, r107_27n, r107_28, r107_28n, i32_10, reduceIte, gm_cmp1, gm_cmp3, gm_cmp4, gm_kd_sf, gm_ln_sf, gm_sf_1, gm_sf_2, gm_nw_1, gm_nw_2, gm_k_int, gm_k_ref, gm_k_null, gm_k_u, gm_k_long, and_true, true_and, true_or, or_true, or_false, false_or, and_self, or_self, if_true, if_false, List.map_nil, List.map_cons, List.sum_nil, List.sum_cons, Nat.zero_le, Option.toList_some, Option.toList_none, List.cons_append, List.nil_append, ne_eq, not_false_eq_true, not_true_eq_false, nI_1, nI_add, Value.category, Nat.reduceAdd, Nat.reduceMod, Nat.reduceLeDiff, Nat.reduceLT, Nat.reduceEqDiff, Nat.reducePow, Nat.le_refl, Nat.add_left_cancel_iff, Nat.add_eq_left, Nat.left_eq_add, Nat.add_zero, nI_leT (Nat.le_refl i) (show i < 2 ^ 31 by omega)]
      exact ⟨b, rfl, hb⟩
    | succ m ih =>
      intro i b hi hb
      have hil : i < L.length := by omega
      rw [List.drop_eq_getElem_cons hil] at hb
      obtain ⟨b', u, w, e, o1, o2, o3, q1, -, -, -, -, -, -, -, -, -, -, -, -, -, -, -, -, -, q19⟩ := hb
      cases e
      have hil2 : i + 1 < L.length := by omega
      rw [List.drop_eq_getElem_cons hil2] at q19
      obtain ⟨b2, u2, w2, e2, q20⟩ := q19
      rw [r107_4]
      simp only [r107_0, r107_0n, r107_1, r107_1n, r107_2, r107_3, r107_5, r107_6, r107_9, r107_9n, r107_10, r107_13n, r107_13, r107_16, r107_16n, r107_17, r107_20, r107_20n, r107_21, r107_24, r107_27, r107_27n, r107_28, r107_28n, i32_10, reduceIte, gm_cmp1, gm_cmp3, gm_cmp4, gm_kd_sf, gm_ln_sf, gm_sf_1, gm_sf_2, gm_nw_1, gm_nw_2, gm_k_int, gm_k_ref, gm_k_null, gm_k_u, gm_k_long, and_true, true_and, true_or, or_true, or_false, false_or, and_self, or_self, if_true, if_false, List.map_nil, List.map_cons, List.sum_nil, List.sum_cons, Nat.zero_le, Option.toList_some, Option.toList_none, List.cons_append, List.nil_append, ne_eq, not_false_eq_true, not_true_eq_false, nI_1, nI_add, Value.category, Nat.reduceAdd, Nat.reduceMod, Nat.reduceLeDiff, Nat.reduceLT, Nat.reduceEqDiff, Nat.reducePow, Nat.le_refl, Nat.add_left_cancel_iff, Nat.add_eq_left, Nat.left_eq_add, Nat.add_zero, nI_leF (show i < k by omega) (show k < 2 ^ 31 by omega), q1, e2]
      refine ih (i + 1) b2 (by omega) ?_
      rw [List.drop_eq_getElem_cons hil2]
      exact ⟨b2, u2, w2, rfl, q20⟩
  show gm_W E d 107 0 [.ref a, .int (nI k), gm_u, gm_u] [] h _
  simp only [r107_0, r107_0n, r107_1, r107_1n, r107_2, r107_3, r107_5, r107_6, r107_9, r107_9n, r107_10, r107_13n, r107_13, r107_16, r107_16n, r107_17, r107_20, r107_20n, r107_21, r107_24, r107_27, r107_27n, r107_28, r107_28n, i32_10, reduceIte, gm_cmp1, gm_cmp3, gm_cmp4, gm_kd_sf, gm_ln_sf, gm_sf_1, gm_sf_2, gm_nw_1, gm_nw_2, gm_k_int, gm_k_ref, gm_k_null, gm_k_u, gm_k_long, and_true, true_and, true_or, or_true, or_false, false_or, and_self, or_self, if_true, if_false, List.map_nil, List.map_cons, List.sum_nil, List.sum_cons, Nat.zero_le, Option.toList_some, Option.toList_none, List.cons_append, List.nil_append, ne_eq, not_false_eq_true, not_true_eq_false, nI_1, nI_add, Value.category, Nat.reduceAdd, Nat.reduceMod, Nat.reduceLeDiff, Nat.reduceLT, Nat.reduceEqDiff, Nat.reducePow, Nat.le_refl, Nat.add_left_cancel_iff, Nat.add_eq_left, Nat.left_eq_add, Nat.add_zero]
  exact loop k 0 a (by omega) hD
theorem x_putUnder {a : Nat} {v : Value} {L : List gs_L} (ka : gm_kd h a = 1) (hD : gx_ds h x ca K F L v) (hF : F a) : gm_Ca E d 106 [.ref a, v] h (gx_v none (gm_sf (gm_sf h a 7 v) a 8 (.int (nI L.length)))) := by
  cases L with
  | nil =>
    have hD : v = .null := hD
    subst hD
    show gm_W E d 106 0 [.ref a, .null] [] h _
    simp only [r106_0, r106_0n, r106_1, r106_1n, r106_2, r106_2n, r106_5, r106_5n, r106_6, r106_6n, r106_7n, r106_7, r106_10, r106_11, r106_14, r106_14n, r106_15, r106_18, r106_19, r106_20, r106_23, i32_10, reduceIte, gm_cmp1, gm_cmp3, gm_cmp4, gm_kd_sf, gm_ln_sf, gm_sf_1, gm_sf_2, gm_nw_1, gm_nw_2, gm_k_int, gm_k_ref, gm_k_null, gm_k_u, gm_k_long, and_true, true_and, true_or, or_true, or_false, false_or, and_self, or_self, if_true, if_false, List.map_nil, List.map_cons, List.sum_nil, List.sum_cons, Nat.zero_le, Option.toList_some, Option.toList_none, List.cons_append, List.nil_append, ne_eq, not_false_eq_true, not_true_eq_false, nI_1, nI_add, Value.category, Nat.reduceAdd, Nat.reduceMod, Nat.reduceLeDiff, Nat.reduceLT, Nat.reduceEqDiff, Nat.reducePow, Nat.le_refl, Nat.add_left_cancel_iff, Nat.add_eq_left, Nat.left_eq_add, Nat.add_zero, ka]
    exact ⟨rfl, rfl⟩
  | cons l L =>
    obtain ⟨b, u, w, rfl, o1, o2, o3, q1, -, -, -, -, -, -, -, q8, -⟩ := hD
    have hne : b ≠ a := fun z => o1.2.2 (z ▸ hF)
    show gm_W E d 106 0 [.ref a, .ref b] [] h _
    simp only [r106_0, r106_0n, r106_1, r106_1n, r106_2, r106_2n, r106_5, r106_5n, r106_6, r106_6n, r106_7n, r106_7, r106_10, r106_11, r106_14, r106_14n, r106_15, r106_18, r106_19, r106_20, r106_23, i32_10, reduceIte, gm_cmp1, gm_cmp3, gm_cmp4, gm_kd_sf, gm_ln_sf, gm_sf_1, gm_sf_2, gm_nw_1, gm_nw_2, gm_k_int, gm_k_ref, gm_k_null, gm_k_u, gm_k_long, and_true, true_and, true_or, or_true, or_false, false_or, and_self, or_self, if_true, if_false, List.map_nil, List.map_cons, List.sum_nil, List.sum_cons, Nat.zero_le, Option.toList_some, Option.toList_none, List.cons_append, List.nil_append, ne_eq, not_false_eq_true, not_true_eq_false, nI_1, nI_add, Value.category, Nat.reduceAdd, Nat.reduceMod, Nat.reduceLeDiff, Nat.reduceLT, Nat.reduceEqDiff, Nat.reducePow, Nat.le_refl, Nat.add_left_cancel_iff, Nat.add_eq_left, Nat.left_eq_add, Nat.add_zero, ka, q1, gm_fv_sfa hne, q8]
    exact ⟨rfl, rfl⟩
theorem x_makeFields {a n : Nat} (ka : gm_kd h a = 1) (ha : a < h.1) (hn : n ≤ 8) : gm_Ca E d 105 [.ref a, .int (nI n)] h (gx_v none (gm_sf (gm_nw (gm_sf (gm_nw (gm_sf h a 4 (.int (nI n))) (100, List.replicate n (.int 0)) n) a 5 (.ref h.1)) (100, List.replicate n (.int 0)) n) a 6 (.ref (h.1 + 1)))) := by
  show gm_W E d 105 0 [.ref a, .int (nI n)] [] h _
  have hn6 : n ≤ 60000000 := by omega
  have e1 : a ≠ h.1 := by omega
  have e2 : a ≠ h.1 + 1 := by omega
  simp only [r105_0, r105_0n, r105_1, r105_2, r105_5, r105_5n, r105_6, r105_7, r105_9, r105_9n, r105_12, r105_12n, r105_13, r105_14, r105_16, r105_16n, r105_19, i32_10, reduceIte, gm_cmp1, gm_cmp3, gm_cmp4, gm_kd_sf, gm_ln_sf, gm_sf_1, gm_sf_2, gm_nw_1, gm_nw_2, gm_k_int, gm_k_ref, gm_k_null, gm_k_u, gm_k_long, and_true, true_and, true_or, or_true, or_false, false_or, and_self, or_self, if_true, if_false, List.map_nil, List.map_cons, List.sum_nil, List.sum_cons, Nat.zero_le, Option.toList_some, Option.toList_none, List.cons_append, List.nil_append, ne_eq, not_false_eq_true, not_true_eq_false, nI_1, nI_add, Value.category, Nat.reduceAdd, Nat.reduceMod, Nat.reduceLeDiff, Nat.reduceLT, Nat.reduceEqDiff, Nat.reducePow, Nat.le_refl, Nat.add_left_cancel_iff, Nat.add_eq_left, Nat.left_eq_add, Nat.add_zero, ka, hn6, gm_kd_nw, e1, e2]
  exact ⟨rfl, rfl⟩
theorem x_Descriptor {a : Nat} {u v : Int32} {w : Int64} (ka : gm_kd h a = 1) : gm_Ca E d 102 [.ref a, .int u, .int v, .long w] h (gx_v none (gm_sf (gm_sf (gm_sf h a 0 (.int u)) a 1 (.int v)) a 2 (.long w))) := by
  show gm_W E d 102 0 [.ref a, .int u, .int v, .long w, gm_u] [] h _
  simp only [r102_0, r102_0n, r102_1, r102_4, r102_4n, r102_5, r102_6, r102_9, r102_9n, r102_10, r102_11, r102_14, r102_14n, r102_15, r102_16, r102_19, i32_10, reduceIte, gm_cmp1, gm_cmp3, gm_cmp4, gm_kd_sf, gm_ln_sf, gm_sf_1, gm_sf_2, gm_nw_1, gm_nw_2, gm_k_int, gm_k_ref, gm_k_null, gm_k_u, gm_k_long, and_true, true_and, true_or, or_true, or_false, false_or, and_self, or_self, if_true, if_false, List.map_nil, List.map_cons, List.sum_nil, List.sum_cons, Nat.zero_le, Option.toList_some, Option.toList_none, List.cons_append, List.nil_append, ne_eq, not_false_eq_true, not_true_eq_false, nI_1, nI_add, Value.category, Nat.reduceAdd, Nat.reduceMod, Nat.reduceLeDiff, Nat.reduceLT, Nat.reduceEqDiff, Nat.reducePow, Nat.le_refl, Nat.add_left_cancel_iff, Nat.add_eq_left, Nat.left_eq_add, Nat.add_zero, ka]
  exact ⟨rfl, rfl⟩
def gs_ff (C : gs_C) (q : Int32 × Int32) : Bool := match gs_ix (gs_fs C) q.1 with
    | none => true
    | some j => decide (q.2 = ((gs_fs C).getD j (0, 0)).2) || (decide (6 ≤ q.2) && decide (6 ≤ ((gs_fs C).getD j (0, 0)).2))
theorem x_fieldsFit {a u w c b : Nat} {l : gs_L} {C : gs_C} (hd : 1 ≤ d) (D : gx_d0 h a u w l) (q : gx_cl h x ca F c C b) : gm_Ca E d 109 [.ref a, .ref b] h (gx_v (some (.int (if (gs_df l).all (gs_ff C) = true then 1 else 0))) h) := by
  obtain ⟨d1, d2, d3, d4, d5, d6, d7, d8, d9, d10, d11, d12, d13, d14⟩ := D
  have q' := q
  obtain ⟨-, k3, -, -, -, -, p4, p5, p6, -, -, l4, n1, n2, n3, n4, nn⟩ := q'
  have loop : ∀ (m k : Nat) (w3 : Value), k + m = (gs_df l).length → (∀ i (hi : i < (gs_df l).length), i < k → gs_ff C (gs_df l)[i] = true) → gm_W E d 109 2 [.ref a, .ref b, .int (nI k), w3] [] h (gx_v (some (.int (if (gs_df l).all (gs_ff C) = true then 1 else 0))) h) := by
    intro m
    induction m with
    | zero =>
      intro k w3 hk hall
      have hk : k = (gs_df l).length := by omega
      subst hk
      simp only [r109_0, r109_1, r109_2, r109_3, r109_3n, r109_4, r109_7, r109_10, r109_10n, r109_11, r109_11n, r109_12, r109_15, r109_16, r109_20, r109_21, r109_22, r109_25, r109_25n, r109_26, r109_29, r109_30, r109_31, r109_31n, r109_32, r109_35, r109_36, r109_37, r109_40, r109_40n, r109_41, r109_44, r109_45, r109_46, r109_48, r109_51, r109_51n, r109_52, r109_55, r109_56, r109_57, r109_59, r109_62, r109_63, r109_64, r109_67, r109_70, r109_71, i32_10, reduceIte, gm_cmp1, gm_cmp3, gm_cmp4, gm_kd_sf, gm_ln_sf, gm_sf_1, gm_sf_2, gm_nw_1, gm_nw_2, gm_k_int, gm_k_ref, gm_k_null, gm_k_u, gm_k_long, and_true, true_and, true_or, or_true, or_false, false_or, and_self, or_self, if_true, if_false, List.map_nil, List.map_cons, List.sum_nil, List.sum_cons, Nat.zero_le, Option.toList_some, Option.toList_none, List.cons_append, List.nil_append, ne_eq, not_false_eq_true, not_true_eq_false, nI_1, nI_add, Value.category, Nat.reduceAdd, Nat.reduceMod, Nat.reduceLeDiff, Nat.reduceLT, Nat.reduceEqDiff, Nat.reducePow, Nat.le_refl, Nat.add_left_cancel_iff, Nat.add_eq_left, Nat.left_eq_add, Nat.add_zero, d1, d6, nI_leT (Nat.le_refl (gs_df l).length) (show (gs_df l).length < 2 ^ 31 by omega)]
      have e : (gs_df l).all (gs_ff C) = true := by
        rw [List.all_eq_true]
        intro q hq
        obtain ⟨i, hi, rfl⟩ := List.getElem_of_mem hq
        exact hall i hi hi
      rw [e]
      exact ⟨rfl, rfl⟩
    | succ m ih =>
      intro k w3 hk hall
      have hkl : k < (gs_df l).length := by omega
      have hl31 : (gs_df l).length < 2147483648 := by omega
      obtain ⟨f1, f2, f3, f4⟩ := d14 k _ (List.getElem?_eq_getElem hkl)
      have nx : gs_ff C (gs_df l)[k] = true → ∀ w3, gm_W E d 109 64 [.ref a, .ref b, .int (nI k), w3] [] h (gx_v (some (.int (if (gs_df l).all (gs_ff C) = true then 1 else 0))) h) := by
        intro e w3
        simp only [r109_0, r109_1, r109_3, r109_3n, r109_4, r109_7, r109_10, r109_10n, r109_11, r109_11n, r109_12, r109_15, r109_16, r109_20, r109_21, r109_22, r109_25, r109_25n, r109_26, r109_29, r109_30, r109_31, r109_31n, r109_32, r109_35, r109_36, r109_37, r109_40, r109_40n, r109_41, r109_44, r109_45, r109_46, r109_48, r109_51, r109_51n, r109_52, r109_55, r109_56, r109_57, r109_59, r109_62, r109_63, r109_64, r109_67, r109_70, r109_71, i32_10, reduceIte, gm_cmp1, gm_cmp3, gm_cmp4, gm_kd_sf, gm_ln_sf, gm_sf_1, gm_sf_2, gm_nw_1, gm_nw_2, gm_k_int, gm_k_ref, gm_k_null, gm_k_u, gm_k_long, and_true, true_and, true_or, or_true, or_false, false_or, and_self, or_self, if_true, if_false, List.map_nil, List.map_cons, List.sum_nil, List.sum_cons, Nat.zero_le, Option.toList_some, Option.toList_none, List.cons_append, List.nil_append, ne_eq, not_false_eq_true, not_true_eq_false, nI_1, nI_add, Value.category, Nat.reduceAdd, Nat.reduceMod, Nat.reduceLeDiff, Nat.reduceLT, Nat.reduceEqDiff, Nat.reducePow, Nat.le_refl, Nat.add_left_cancel_iff, Nat.add_eq_left, Nat.left_eq_add, Nat.add_zero]
        refine ih (k + 1) _ (by omega) (fun i hi hik => ?_)
        by_cases ei : i = k
        · subst ei; exact e
        · exact hall i hi (by omega)
      have no : gs_ff C (gs_df l)[k] = false → (gs_df l).all (gs_ff C) = false := by
        intro e
        cases hb : (gs_df l).all (gs_ff C) with
        | false => rfl
        | true =>
          rw [List.all_eq_true] at hb
          have := hb _ (List.getElem_mem hkl)
          rw [e] at this
          cases this
      simp only [r109_0, r109_1, r109_2, r109_3, r109_3n, r109_4, r109_7, r109_10, r109_10n, r109_11, r109_11n, r109_12, r109_15, r109_16, r109_20, r109_21, r109_22, r109_25, r109_25n, r109_26, r109_29, r109_30, r109_31, r109_31n, r109_32, r109_35, r109_36, r109_37, r109_40, r109_40n, r109_41, r109_44, r109_45, r109_46, r109_48, r109_51, r109_51n, r109_52, r109_55, r109_56, r109_57, r109_59, r109_62, r109_63, r109_67, r109_70, r109_71, i32_10, reduceIte, gm_cmp1, gm_cmp3, gm_cmp4, gm_kd_sf, gm_ln_sf, gm_sf_1, gm_sf_2, gm_nw_1, gm_nw_2, gm_k_int, gm_k_ref, gm_k_null, gm_k_u, gm_k_long, and_true, true_and, true_or, or_true, or_false, false_or, and_self, or_self, if_true, if_false, List.map_nil, List.map_cons, List.sum_nil, List.sum_cons, Nat.zero_le, Option.toList_some, Option.toList_none, List.cons_append, List.nil_append, ne_eq, not_false_eq_true, not_true_eq_false, nI_1, nI_add, Value.category, Nat.reduceAdd, Nat.reduceMod, Nat.reduceLeDiff, Nat.reduceLT, Nat.reduceEqDiff, Nat.reducePow, Nat.le_refl, Nat.add_left_cancel_iff, Nat.add_eq_left, Nat.left_eq_add, Nat.add_zero, d1, d6, nI_leF hkl (show (gs_df l).length < 2 ^ 31 by omega), d7, d9, d10, hkl, hl31, f1]
      refine c109_17 (by simp) k3 hd (x_indexOf q) (gx_kn ?_) gx_kx
      cases e : gs_ix (gs_fs C) (gs_df l)[k].1 with
      | none =>
        have ei : gs_ixi (gs_fs C) (gs_df l)[k].1 = -1 := by unfold gs_ixi; rw [e]
        have ef : gs_ff C (gs_df l)[k] = true := by unfold gs_ff; rw [e]
        have m1 : (-1 : Int32) < 0 := by decide
        simp only [r109_0, r109_1, r109_2, r109_3, r109_3n, r109_4, r109_7, r109_10, r109_10n, r109_11, r109_11n, r109_12, r109_15, r109_16, r109_20, r109_21, r109_22, r109_25, r109_25n, r109_26, r109_29, r109_30, r109_31, r109_31n, r109_32, r109_35, r109_36, r109_37, r109_40, r109_40n, r109_41, r109_44, r109_45, r109_46, r109_48, r109_51, r109_51n, r109_52, r109_55, r109_56, r109_57, r109_59, r109_62, r109_63, r109_67, r109_70, r109_71, i32_10, reduceIte, gm_cmp1, gm_cmp3, gm_cmp4, gm_kd_sf, gm_ln_sf, gm_sf_1, gm_sf_2, gm_nw_1, gm_nw_2, gm_k_int, gm_k_ref, gm_k_null, gm_k_u, gm_k_long, and_true, true_and, true_or, or_true, or_false, false_or, and_self, or_self, if_true, if_false, List.map_nil, List.map_cons, List.sum_nil, List.sum_cons, Nat.zero_le, Option.toList_some, Option.toList_none, List.cons_append, List.nil_append, ne_eq, not_false_eq_true, not_true_eq_false, nI_1, nI_add, Value.category, Nat.reduceAdd, Nat.reduceMod, Nat.reduceLeDiff, Nat.reduceLT, Nat.reduceEqDiff, Nat.reducePow, Nat.le_refl, Nat.add_left_cancel_iff, Nat.add_eq_left, Nat.left_eq_add, Nat.add_zero, ei, m1]
        exact nx ef _
      | some j =>
        have hj := gs_ix_lt e
        have hj4 : j < 4 := by omega
        have g2 := (nn j _ (List.getElem?_eq_getElem hj)).2
        have eg : (gs_fs C).getD j (0, 0) = (gs_fs C)[j] := by simp [List.getD, hj]
        have ei : gs_ixi (gs_fs C) (gs_df l)[k].1 = nI j := by unfold gs_ixi; rw [e]
        have ef : gs_ff C (gs_df l)[k] = (decide ((gs_df l)[k].2 = (gs_fs C)[j].2) || (decide (6 ≤ (gs_df l)[k].2) && decide (6 ≤ (gs_fs C)[j].2))) := by unfold gs_ff; rw [e]; dsimp only; rw [eg]
        simp only [r109_0, r109_1, r109_2, r109_3, r109_3n, r109_4, r109_7, r109_10, r109_10n, r109_11, r109_11n, r109_12, r109_15, r109_16, r109_20, r109_21, r109_22, r109_25, r109_25n, r109_26, r109_29, r109_30, r109_31, r109_31n, r109_32, r109_35, r109_36, r109_37, r109_40, r109_40n, r109_41, r109_44, r109_45, r109_46, r109_48, r109_51, r109_51n, r109_52, r109_55, r109_56, r109_57, r109_59, r109_62, r109_63, r109_67, r109_70, r109_71, i32_10, reduceIte, gm_cmp1, gm_cmp3, gm_cmp4, gm_kd_sf, gm_ln_sf, gm_sf_1, gm_sf_2, gm_nw_1, gm_nw_2, gm_k_int, gm_k_ref, gm_k_null, gm_k_u, gm_k_long, and_true, true_and, true_or, or_true, or_false, false_or, and_self, or_self, if_true, if_false, List.map_nil, List.map_cons, List.sum_nil, List.sum_cons, Nat.zero_le, Option.toList_some, Option.toList_none, List.cons_append, List.nil_append, ne_eq, not_false_eq_true, not_true_eq_false, nI_1, nI_add, Value.category, Nat.reduceAdd, Nat.reduceMod, Nat.reduceLeDiff, Nat.reduceLT, Nat.reduceEqDiff, Nat.reducePow, Nat.le_refl, Nat.add_left_cancel_iff, Nat.add_eq_left, Nat.left_eq_add, Nat.add_zero, ei, nI_pos (show j < 2 ^ 31 by omega), d1, d8, d11, d12, hkl, hl31, f2, k3, p5, n3, n4, hj4, g2]
        by_cases t1 : (gs_df l)[k].2 = (gs_fs C)[j].2
        · simp only [t1, reduceIte]
          exact nx (by rw [ef]; simp [t1]) _
        · by_cases t2 : (gs_df l)[k].2 < 6
          · have t2' : ¬ 6 ≤ (gs_df l)[k].2 := Int32.not_le.mpr t2
            have := no (by rw [ef]; simp [t1, t2'])
            simp only [t1, t2, this, reduceIte]
            exact ⟨rfl, rfl⟩
          · have t2' : 6 ≤ (gs_df l)[k].2 := Int32.not_lt.mp t2
            by_cases t3 : 6 ≤ (gs_fs C)[j].2
            · simp only [t1, t2, t3, reduceIte]
              exact nx (by rw [ef]; simp [t2', t3]) _
            · have := no (by rw [ef]; simp [t1, t3])
              simp only [t1, t2, t3, this, reduceIte]
              exact ⟨rfl, rfl⟩
  show gm_W E d 109 0 [.ref a, .ref b, gm_u, gm_u] [] h _
  simp only [r109_0, r109_1, r109_3, r109_3n, r109_4, r109_7, r109_10, r109_10n, r109_11, r109_11n, r109_12, r109_15, r109_16, r109_20, r109_21, r109_22, r109_25, r109_25n, r109_26, r109_29, r109_30, r109_31, r109_31n, r109_32, r109_35, r109_36, r109_37, r109_40, r109_40n, r109_41, r109_44, r109_45, r109_46, r109_48, r109_51, r109_51n, r109_52, r109_55, r109_56, r109_57, r109_59, r109_62, r109_63, r109_64, r109_67, r109_70, r109_71, i32_10, reduceIte, gm_cmp1, gm_cmp3, gm_cmp4, gm_kd_sf, gm_ln_sf, gm_sf_1, gm_sf_2, gm_nw_1, gm_nw_2, gm_k_int, gm_k_ref, gm_k_null, gm_k_u, gm_k_long, and_true, true_and, true_or, or_true, or_false, false_or, and_self, or_self, if_true, if_false, List.map_nil, List.map_cons, List.sum_nil, List.sum_cons, Nat.zero_le, Option.toList_some, Option.toList_none, List.cons_append, List.nil_append, ne_eq, not_false_eq_true, not_true_eq_false, nI_1, nI_add, Value.category, Nat.reduceAdd, Nat.reduceMod, Nat.reduceLeDiff, Nat.reduceLT, Nat.reduceEqDiff, Nat.reducePow, Nat.le_refl, Nat.add_left_cancel_iff, Nat.add_eq_left, Nat.left_eq_add, Nat.add_zero]
  exact loop (gs_df l).length 0 gm_u (by omega) (fun i hi z => by omega)
theorem gs_fits_eq {l : gs_L} {C : gs_C} : gs_fits l C = ((decide (gs_fl l &&& 16 = 0) != decide (gs_kind C = 3)) && (decide (gs_fl l &&& 2 = 0) || decide (gs_kind C = 0) || decide (gs_kind C = 3) || decide (gs_did l = gs_cid C)) && (gs_df l).all (gs_ff C)) := rfl
theorem x_fits {a u w c b : Nat} {l : gs_L} {C : gs_C} (hd : 2 ≤ d) (D : gx_d0 h a u w l) (q : gx_cl h x ca F c C b) : gm_Ca E d 108 [.ref a, .ref b] h (gx_v (some (.int (if gs_fits l C = true then 1 else 0))) h) := by
  have D' := D
  obtain ⟨d1, d2, d3, d4, d5, d6, d7, d8, d9, d10, d11, d12, d13, d14⟩ := D'
  have q' := q
  obtain ⟨-, k3, -, fk, -, fid, -⟩ := q'
  show gm_W E d 108 0 [.ref a, .ref b, gm_u] [] h _
  rw [gs_fits_eq]
  simp only [r108_0, r108_0n, r108_4, r108_4n, r108_5, r108_8, r108_9, r108_12, r108_13, r108_16, r108_17, r108_20, r108_21, r108_22, r108_22n, r108_23, r108_27, r108_30, r108_30n, r108_31, r108_34, r108_37, r108_37n, r108_38, r108_41, r108_42, r108_45, r108_46, r108_49, r108_50, r108_51, r108_52, r108_55, r108_55n, r108_56, r108_59, r108_59n, r108_60, r108_63, r108_64, r108_67, r108_67n, r108_68, r108_68n, r108_72, r108_75, r108_76, r108_79, r108_80, i32_10, reduceIte, gm_cmp1, gm_cmp3, gm_cmp4, gm_kd_sf, gm_ln_sf, gm_sf_1, gm_sf_2, gm_nw_1, gm_nw_2, gm_k_int, gm_k_ref, gm_k_null, gm_k_u, gm_k_long, and_true, true_and, true_or, or_true, or_false, false_or, and_self, or_self, if_true, if_false, List.map_nil, List.map_cons, List.sum_nil, List.sum_cons, Nat.zero_le, Option.toList_some, Option.toList_none, List.cons_append, List.nil_append, ne_eq, not_false_eq_true, not_true_eq_false, nI_1, nI_add, Value.category, Nat.reduceAdd, Nat.reduceMod, Nat.reduceLeDiff, Nat.reduceLT, Nat.reduceEqDiff, Nat.reducePow, Nat.le_refl, Nat.add_left_cancel_iff, Nat.add_eq_left, Nat.left_eq_add, Nat.add_zero]
  refine c108_1 (by simp) d1 (by omega) (x_isConstant (by omega) d1 d5) (gx_kn ?_) gx_kx
  have tail : ∀ (idc : Bool), (gm_W E d 108 51 [.ref a, .ref b, .int (if idc = true then 1 else 0)] [] h (gx_v (some (.int (if ((!idc || decide (gs_did l = gs_cid C)) && (gs_df l).all (gs_ff C)) = true then 1 else 0))) h)) := by
    intro idc
    have last : gm_W E d 108 67 [.ref a, .ref b, .int (if idc = true then 1 else 0)] [] h (gx_v (some (.int (if (gs_df l).all (gs_ff C) = true then 1 else 0))) h) := by
      simp only [r108_0, r108_0n, r108_4, r108_4n, r108_5, r108_8, r108_9, r108_12, r108_13, r108_16, r108_17, r108_20, r108_21, r108_22, r108_22n, r108_23, r108_27, r108_30, r108_30n, r108_31, r108_34, r108_37, r108_37n, r108_38, r108_41, r108_42, r108_45, r108_46, r108_49, r108_50, r108_51, r108_52, r108_55, r108_55n, r108_56, r108_59, r108_59n, r108_60, r108_63, r108_64, r108_67, r108_67n, r108_68, r108_68n, r108_72, r108_75, r108_76, r108_79, r108_80, i32_10, reduceIte, gm_cmp1, gm_cmp3, gm_cmp4, gm_kd_sf, gm_ln_sf, gm_sf_1, gm_sf_2, gm_nw_1, gm_nw_2, gm_k_int, gm_k_ref, gm_k_null, gm_k_u, gm_k_long, and_true, true_and, true_or, or_true, or_false, false_or, and_self, or_self, if_true, if_false, List.map_nil, List.map_cons, List.sum_nil, List.sum_cons, Nat.zero_le, Option.toList_some, Option.toList_none, List.cons_append, List.nil_append, ne_eq, not_false_eq_true, not_true_eq_false, nI_1, nI_add, Value.category, Nat.reduceAdd, Nat.reduceMod, Nat.reduceLeDiff, Nat.reduceLT, Nat.reduceEqDiff, Nat.reducePow, Nat.le_refl, Nat.add_left_cancel_iff, Nat.add_eq_left, Nat.left_eq_add, Nat.add_zero]
      refine c108_69 (by simp) (by simp [gm_en1]) d1 (by omega) (x_fieldsFit (by omega) D q) (gx_kn ?_) gx_kx
      by_cases e : (gs_df l).all (gs_ff C) = true
      · simp only [r108_0, r108_0n, r108_4, r108_4n, r108_5, r108_8, r108_9, r108_12, r108_13, r108_16, r108_17, r108_20, r108_21, r108_22, r108_22n, r108_23, r108_27, r108_30, r108_30n, r108_31, r108_34, r108_37, r108_37n, r108_38, r108_41, r108_42, r108_45, r108_46, r108_49, r108_50, r108_51, r108_52, r108_55, r108_55n, r108_56, r108_59, r108_59n, r108_60, r108_63, r108_64, r108_67, r108_67n, r108_68, r108_68n, r108_72, r108_75, r108_76, r108_79, r108_80, i32_10, reduceIte, gm_cmp1, gm_cmp3, gm_cmp4, gm_kd_sf, gm_ln_sf, gm_sf_1, gm_sf_2, gm_nw_1, gm_nw_2, gm_k_int, gm_k_ref, gm_k_null, gm_k_u, gm_k_long, and_true, true_and, true_or, or_true, or_false, false_or, and_self, or_self, if_true, if_false, List.map_nil, List.map_cons, List.sum_nil, List.sum_cons, Nat.zero_le, Option.toList_some, Option.toList_none, List.cons_append, List.nil_append, ne_eq, not_false_eq_true, not_true_eq_false, nI_1, nI_add, Value.category, Nat.reduceAdd, Nat.reduceMod, Nat.reduceLeDiff, Nat.reduceLT, Nat.reduceEqDiff, Nat.reducePow, Nat.le_refl, Nat.add_left_cancel_iff, Nat.add_eq_left, Nat.left_eq_add, Nat.add_zero, e]; exact ⟨rfl, rfl⟩
      · simp only [r108_0, r108_0n, r108_4, r108_4n, r108_5, r108_8, r108_9, r108_12, r108_13, r108_16, r108_17, r108_20, r108_21, r108_22, r108_22n, r108_23, r108_27, r108_30, r108_30n, r108_31, r108_34, r108_37, r108_37n, r108_38, r108_41, r108_42, r108_45, r108_46, r108_49, r108_50, r108_51, r108_52, r108_55, r108_55n, r108_56, r108_59, r108_59n, r108_60, r108_63, r108_64, r108_67, r108_67n, r108_68, r108_68n, r108_72, r108_75, r108_76, r108_79, r108_80, i32_10, reduceIte, gm_cmp1, gm_cmp3, gm_cmp4, gm_kd_sf, gm_ln_sf, gm_sf_1, gm_sf_2, gm_nw_1, gm_nw_2, gm_k_int, gm_k_ref, gm_k_null, gm_k_u, gm_k_long, and_true, true_and, true_or, or_true, or_false, false_or, and_self, or_self, if_true, if_false, List.map_nil, List.map_cons, List.sum_nil, List.sum_cons, Nat.zero_le, Option.toList_some, Option.toList_none, List.cons_append, List.nil_append, ne_eq, not_false_eq_true, not_true_eq_false, nI_1, nI_add, Value.category, Nat.reduceAdd, Nat.reduceMod, Nat.reduceLeDiff, Nat.reduceLT, Nat.reduceEqDiff, Nat.reducePow, Nat.le_refl, Nat.add_left_cancel_iff, Nat.add_eq_left, Nat.left_eq_add, Nat.add_zero, e]; exact ⟨rfl, rfl⟩
    cases idc with
    | false =>
      simp only [r108_0, r108_0n, r108_4, r108_4n, r108_5, r108_8, r108_9, r108_12, r108_13, r108_16, r108_17, r108_20, r108_21, r108_22, r108_22n, r108_23, r108_27, r108_30, r108_30n, r108_31, r108_34, r108_37, r108_37n, r108_38, r108_41, r108_42, r108_45, r108_46, r108_49, r108_50, r108_51, r108_52, r108_55, r108_55n, r108_56, r108_59, r108_59n, r108_60, r108_63, r108_64, r108_68, r108_68n, r108_72, r108_75, r108_76, r108_79, r108_80, i32_10, reduceIte, gm_cmp1, gm_cmp3, gm_cmp4, gm_kd_sf, gm_ln_sf, gm_sf_1, gm_sf_2, gm_nw_1, gm_nw_2, gm_k_int, gm_k_ref, gm_k_null, gm_k_u, gm_k_long, and_true, true_and, true_or, or_true, or_false, false_or, and_self, or_self, if_true, if_false, List.map_nil, List.map_cons, List.sum_nil, List.sum_cons, Nat.zero_le, Option.toList_some, Option.toList_none, List.cons_append, List.nil_append, ne_eq, not_false_eq_true, not_true_eq_false, nI_1, nI_add, Value.category, Nat.reduceAdd, Nat.reduceMod, Nat.reduceLeDiff, Nat.reduceLT, Nat.reduceEqDiff, Nat.reducePow, Nat.le_refl, Nat.add_left_cancel_iff, Nat.add_eq_left, Nat.left_eq_add, Nat.add_zero, Bool.false_eq_true, Bool.not_false, Bool.true_or, Bool.true_and] at last ⊢
      exact last
    | true =>
      by_cases e : gs_did l = gs_cid C
      · simp only [r108_0, r108_0n, r108_4, r108_4n, r108_5, r108_8, r108_9, r108_12, r108_13, r108_16, r108_17, r108_20, r108_21, r108_22, r108_22n, r108_23, r108_27, r108_30, r108_30n, r108_31, r108_34, r108_37, r108_37n, r108_38, r108_41, r108_42, r108_45, r108_46, r108_49, r108_50, r108_51, r108_52, r108_55, r108_55n, r108_56, r108_59, r108_59n, r108_60, r108_63, r108_64, r108_68, r108_68n, r108_72, r108_75, r108_76, r108_79, r108_80, i32_10, reduceIte, gm_cmp1, gm_cmp3, gm_cmp4, gm_kd_sf, gm_ln_sf, gm_sf_1, gm_sf_2, gm_nw_1, gm_nw_2, gm_k_int, gm_k_ref, gm_k_null, gm_k_u, gm_k_long, and_true, true_and, true_or, or_true, or_false, false_or, and_self, or_self, if_true, if_false, List.map_nil, List.map_cons, List.sum_nil, List.sum_cons, Nat.zero_le, Option.toList_some, Option.toList_none, List.cons_append, List.nil_append, ne_eq, not_false_eq_true, not_true_eq_false, nI_1, nI_add, Value.category, Nat.reduceAdd, Nat.reduceMod, Nat.reduceLeDiff, Nat.reduceLT, Nat.reduceEqDiff, Nat.reducePow, Nat.le_refl, Nat.add_left_cancel_iff, Nat.add_eq_left, Nat.left_eq_add, Nat.add_zero, d1, d4, k3, fid, gx_cmp_eq, e, Bool.not_true, Bool.false_or, decide_true, Bool.true_and] at last ⊢
        exact last
      · simp only [r108_0, r108_0n, r108_4, r108_4n, r108_5, r108_8, r108_9, r108_12, r108_13, r108_16, r108_17, r108_20, r108_21, r108_22, r108_22n, r108_23, r108_27, r108_30, r108_30n, r108_31, r108_34, r108_37, r108_37n, r108_38, r108_41, r108_42, r108_45, r108_46, r108_49, r108_50, r108_51, r108_52, r108_55, r108_55n, r108_56, r108_59, r108_59n, r108_60, r108_63, r108_64, r108_68, r108_68n, r108_72, r108_75, r108_76, r108_79, r108_80, i32_10, reduceIte, gm_cmp1, gm_cmp3, gm_cmp4, gm_kd_sf, gm_ln_sf, gm_sf_1, gm_sf_2, gm_nw_1, gm_nw_2, gm_k_int, gm_k_ref, gm_k_null, gm_k_u, gm_k_long, and_true, true_and, true_or, or_true, or_false, false_or, and_self, or_self, if_true, if_false, List.map_nil, List.map_cons, List.sum_nil, List.sum_cons, Nat.zero_le, Option.toList_some, Option.toList_none, List.cons_append, List.nil_append, ne_eq, not_false_eq_true, not_true_eq_false, nI_1, nI_add, Value.category, Nat.reduceAdd, Nat.reduceMod, Nat.reduceLeDiff, Nat.reduceLT, Nat.reduceEqDiff, Nat.reducePow, Nat.le_refl, Nat.add_left_cancel_iff, Nat.add_eq_left, Nat.left_eq_add, Nat.add_zero, d1, d4, k3, fid, gx_cmp_eq, e, Bool.not_true, Bool.false_or, decide_false, Bool.false_and, Bool.false_eq_true]
        exact ⟨rfl, rfl⟩
  have mid : gm_W E d 108 22 [.ref a, .ref b, gm_u] [] h (gx_v (some (.int (if ((decide (gs_fl l &&& 2 = 0) || decide (gs_kind C = 0) || decide (gs_kind C = 3) || decide (gs_did l = gs_cid C)) && (gs_df l).all (gs_ff C)) = true then 1 else 0))) h) := by
    simp only [r108_0, r108_0n, r108_4, r108_4n, r108_5, r108_8, r108_9, r108_12, r108_13, r108_16, r108_17, r108_20, r108_21, r108_22, r108_22n, r108_23, r108_27, r108_30, r108_30n, r108_31, r108_34, r108_37, r108_37n, r108_38, r108_41, r108_42, r108_45, r108_46, r108_49, r108_50, r108_52, r108_55, r108_55n, r108_56, r108_59, r108_59n, r108_60, r108_63, r108_64, r108_67, r108_67n, r108_68, r108_68n, r108_72, r108_75, r108_76, r108_79, r108_80, i32_10, reduceIte, gm_cmp1, gm_cmp3, gm_cmp4, gm_kd_sf, gm_ln_sf, gm_sf_1, gm_sf_2, gm_nw_1, gm_nw_2, gm_k_int, gm_k_ref, gm_k_null, gm_k_u, gm_k_long, and_true, true_and, true_or, or_true, or_false, false_or, and_self, or_self, if_true, if_false, List.map_nil, List.map_cons, List.sum_nil, List.sum_cons, Nat.zero_le, Option.toList_some, Option.toList_none, List.cons_append, List.nil_append, ne_eq, not_false_eq_true, not_true_eq_false, nI_1, nI_add, Value.category, Nat.reduceAdd, Nat.reduceMod, Nat.reduceLeDiff, Nat.reduceLT, Nat.reduceEqDiff, Nat.reducePow, Nat.le_refl, Nat.add_left_cancel_iff, Nat.add_eq_left, Nat.left_eq_add, Nat.add_zero]
    refine c108_24 (by simp) d1 (by omega) (x_has d1 d5) (gx_kn ?_) gx_kx
    by_cases e1 : gs_fl l &&& 2 = 0
    · have := tail false
      simp only [r108_0, r108_0n, r108_4, r108_4n, r108_5, r108_8, r108_9, r108_12, r108_13, r108_16, r108_17, r108_20, r108_21, r108_22, r108_22n, r108_23, r108_27, r108_30, r108_30n, r108_31, r108_34, r108_37, r108_37n, r108_38, r108_41, r108_42, r108_45, r108_46, r108_49, r108_50, r108_52, r108_55, r108_55n, r108_56, r108_59, r108_59n, r108_60, r108_63, r108_64, r108_67, r108_67n, r108_68, r108_68n, r108_72, r108_75, r108_76, r108_79, r108_80, i32_10, reduceIte, gm_cmp1, gm_cmp3, gm_cmp4, gm_kd_sf, gm_ln_sf, gm_sf_1, gm_sf_2, gm_nw_1, gm_nw_2, gm_k_int, gm_k_ref, gm_k_null, gm_k_u, gm_k_long, and_true, true_and, true_or, or_true, or_false, false_or, and_self, or_self, if_true, if_false, List.map_nil, List.map_cons, List.sum_nil, List.sum_cons, Nat.zero_le, Option.toList_some, Option.toList_none, List.cons_append, List.nil_append, ne_eq, not_false_eq_true, not_true_eq_false, nI_1, nI_add, Value.category, Nat.reduceAdd, Nat.reduceMod, Nat.reduceLeDiff, Nat.reduceLT, Nat.reduceEqDiff, Nat.reducePow, Nat.le_refl, Nat.add_left_cancel_iff, Nat.add_eq_left, Nat.left_eq_add, Nat.add_zero, e1, Bool.not_false, Bool.true_or, decide_true, Bool.false_eq_true] at this ⊢
      exact this
    · by_cases e2 : gs_kind C = 0
      · have := tail false
        simp only [r108_0, r108_0n, r108_4, r108_4n, r108_5, r108_8, r108_9, r108_12, r108_13, r108_16, r108_17, r108_20, r108_21, r108_22, r108_22n, r108_23, r108_27, r108_30, r108_30n, r108_31, r108_34, r108_37, r108_37n, r108_38, r108_41, r108_42, r108_45, r108_46, r108_49, r108_50, r108_52, r108_55, r108_55n, r108_56, r108_59, r108_59n, r108_60, r108_63, r108_64, r108_67, r108_67n, r108_68, r108_68n, r108_72, r108_75, r108_76, r108_79, r108_80, i32_10, reduceIte, gm_cmp1, gm_cmp3, gm_cmp4, gm_kd_sf, gm_ln_sf, gm_sf_1, gm_sf_2, gm_nw_1, gm_nw_2, gm_k_int, gm_k_ref, gm_k_null, gm_k_u, gm_k_long, and_true, true_and, true_or, or_true, or_false, false_or, and_self, or_self, if_true, if_false, List.map_nil, List.map_cons, List.sum_nil, List.sum_cons, Nat.zero_le, Option.toList_some, Option.toList_none, List.cons_append, List.nil_append, ne_eq, not_false_eq_true, not_true_eq_false, nI_1, nI_add, Value.category, Nat.reduceAdd, Nat.reduceMod, Nat.reduceLeDiff, Nat.reduceLT, Nat.reduceEqDiff, Nat.reducePow, Nat.le_refl, Nat.add_left_cancel_iff, Nat.add_eq_left, Nat.left_eq_add, Nat.add_zero, e1, e2, k3, fk, Bool.not_false, Bool.true_or, Bool.or_true, decide_true, Bool.false_eq_true] at this ⊢
        exact this
      · by_cases e3 : gs_kind C = 3
        · have := tail false
          simp only [r108_0, r108_0n, r108_4, r108_4n, r108_5, r108_8, r108_9, r108_12, r108_13, r108_16, r108_17, r108_20, r108_21, r108_22, r108_22n, r108_23, r108_27, r108_30, r108_30n, r108_31, r108_34, r108_37, r108_37n, r108_38, r108_41, r108_42, r108_45, r108_46, r108_49, r108_50, r108_52, r108_55, r108_55n, r108_56, r108_59, r108_59n, r108_60, r108_63, r108_64, r108_67, r108_67n, r108_68, r108_68n, r108_72, r108_75, r108_76, r108_79, r108_80, i32_10, reduceIte, gm_cmp1, gm_cmp3, gm_cmp4, gm_kd_sf, gm_ln_sf, gm_sf_1, gm_sf_2, gm_nw_1, gm_nw_2, gm_k_int, gm_k_ref, gm_k_null, gm_k_u, gm_k_long, and_true, true_and, true_or, or_true, or_false, false_or, and_self, or_self, if_true, if_false, List.map_nil, List.map_cons, List.sum_nil, List.sum_cons, Nat.zero_le, Option.toList_some, Option.toList_none, List.cons_append, List.nil_append, ne_eq, not_false_eq_true, not_true_eq_false, nI_1, nI_add, Value.category, Nat.reduceAdd, Nat.reduceMod, Nat.reduceLeDiff, Nat.reduceLT, Nat.reduceEqDiff, Nat.reducePow, Nat.le_refl, Nat.add_left_cancel_iff, Nat.add_eq_left, Nat.left_eq_add, Nat.add_zero, e1, e2, e3, k3, fk, Bool.not_false, Bool.true_or, Bool.or_true, decide_true, Bool.false_eq_true] at this ⊢
          simpa using this
        · have := tail true
          simp only [r108_0, r108_0n, r108_4, r108_4n, r108_5, r108_8, r108_9, r108_12, r108_13, r108_16, r108_17, r108_20, r108_21, r108_22, r108_22n, r108_23, r108_27, r108_30, r108_30n, r108_31, r108_34, r108_37, r108_37n, r108_38, r108_41, r108_42, r108_45, r108_46, r108_49, r108_50, r108_52, r108_55, r108_55n, r108_56, r108_59, r108_59n, r108_60, r108_63, r108_64, r108_67, r108_67n, r108_68, r108_68n, r108_72, r108_75, r108_76, r108_79, r108_80, i32_10, reduceIte, gm_cmp1, gm_cmp3, gm_cmp4, gm_kd_sf, gm_ln_sf, gm_sf_1, gm_sf_2, gm_nw_1, gm_nw_2, gm_k_int, gm_k_ref, gm_k_null, gm_k_u, gm_k_long, and_true, true_and, true_or, or_true, or_false, false_or, and_self, or_self, if_true, if_false, List.map_nil, List.map_cons, List.sum_nil, List.sum_cons, Nat.zero_le, Option.toList_some, Option.toList_none, List.cons_append, List.nil_append, ne_eq, not_false_eq_true, not_true_eq_false, nI_1, nI_add, Value.category, Nat.reduceAdd, Nat.reduceMod, Nat.reduceLeDiff, Nat.reduceLT, Nat.reduceEqDiff, Nat.reducePow, Nat.le_refl, Nat.add_left_cancel_iff, Nat.add_eq_left, Nat.left_eq_add, Nat.add_zero, e1, e2, e3, k3, fk, Bool.not_true, Bool.false_or, Bool.or_false, decide_false] at this ⊢
          exact this
  by_cases e0 : gs_fl l &&& 16 = 0
  · by_cases e3 : gs_kind C = 3
    · simp only [r108_0, r108_0n, r108_4, r108_4n, r108_5, r108_8, r108_9, r108_12, r108_13, r108_16, r108_17, r108_20, r108_21, r108_23, r108_27, r108_30, r108_30n, r108_31, r108_34, r108_37, r108_37n, r108_38, r108_41, r108_42, r108_45, r108_46, r108_49, r108_50, r108_51, r108_52, r108_55, r108_55n, r108_56, r108_59, r108_59n, r108_60, r108_63, r108_64, r108_67, r108_67n, r108_68, r108_68n, r108_72, r108_75, r108_76, r108_79, r108_80, i32_10, reduceIte, gm_cmp1, gm_cmp3, gm_cmp4, gm_kd_sf, gm_ln_sf, gm_sf_1, gm_sf_2, gm_nw_1, gm_nw_2, gm_k_int, gm_k_ref, gm_k_null, gm_k_u, gm_k_long, and_true, true_and, true_or, or_true, or_false, false_or, and_self, or_self, if_true, if_false, List.map_nil, List.map_cons, List.sum_nil, List.sum_cons, Nat.zero_le, Option.toList_some, Option.toList_none, List.cons_append, List.nil_append, ne_eq, not_false_eq_true, not_true_eq_false, nI_1, nI_add, Value.category, Nat.reduceAdd, Nat.reduceMod, Nat.reduceLeDiff, Nat.reduceLT, Nat.reduceEqDiff, Nat.reducePow, Nat.le_refl, Nat.add_left_cancel_iff, Nat.add_eq_left, Nat.left_eq_add, Nat.add_zero, e0, e3, k3, fk]
      exact ⟨by simp, rfl⟩
    · have hx : (decide (gs_fl l &&& 16 = 0) != decide (gs_kind C = 3)) = true := by simp [e0, e3]
      rw [hx, Bool.true_and]
      generalize (if ((decide (gs_fl l &&& 2 = 0) || decide (gs_kind C = 0) || decide (gs_kind C = 3) || decide (gs_did l = gs_cid C)) && (gs_df l).all (gs_ff C)) = true then (1 : Int32) else 0) = vv at mid ⊢
      simp only [r108_0, r108_0n, r108_4, r108_4n, r108_5, r108_8, r108_9, r108_12, r108_13, r108_16, r108_17, r108_20, r108_21, r108_23, r108_27, r108_30, r108_30n, r108_31, r108_34, r108_37, r108_37n, r108_38, r108_41, r108_42, r108_45, r108_46, r108_49, r108_50, r108_51, r108_52, r108_55, r108_55n, r108_56, r108_59, r108_59n, r108_60, r108_63, r108_64, r108_67, r108_67n, r108_68, r108_68n, r108_72, r108_75, r108_76, r108_79, r108_80, i32_10, reduceIte, gm_cmp1, gm_cmp3, gm_cmp4, gm_kd_sf, gm_ln_sf, gm_sf_1, gm_sf_2, gm_nw_1, gm_nw_2, gm_k_int, gm_k_ref, gm_k_null, gm_k_u, gm_k_long, and_true, true_and, true_or, or_true, or_false, false_or, and_self, or_self, if_true, if_false, List.map_nil, List.map_cons, List.sum_nil, List.sum_cons, Nat.zero_le, Option.toList_some, Option.toList_none, List.cons_append, List.nil_append, ne_eq, not_false_eq_true, not_true_eq_false, nI_1, nI_add, Value.category, Nat.reduceAdd, Nat.reduceMod, Nat.reduceLeDiff, Nat.reduceLT, Nat.reduceEqDiff, Nat.reducePow, Nat.le_refl, Nat.add_left_cancel_iff, Nat.add_eq_left, Nat.left_eq_add, Nat.add_zero, e0, e3, k3, fk]
      exact mid
  · by_cases e3 : gs_kind C = 3
    · have hx : (decide (gs_fl l &&& 16 = 0) != decide (gs_kind C = 3)) = true := by simp [e0, e3]
      rw [hx, Bool.true_and]
      generalize (if ((decide (gs_fl l &&& 2 = 0) || decide (gs_kind C = 0) || decide (gs_kind C = 3) || decide (gs_did l = gs_cid C)) && (gs_df l).all (gs_ff C)) = true then (1 : Int32) else 0) = vv at mid ⊢
      simp only [r108_0, r108_0n, r108_4, r108_4n, r108_5, r108_8, r108_9, r108_12, r108_13, r108_16, r108_17, r108_20, r108_21, r108_23, r108_27, r108_30, r108_30n, r108_31, r108_34, r108_37, r108_37n, r108_38, r108_41, r108_42, r108_45, r108_46, r108_49, r108_50, r108_51, r108_52, r108_55, r108_55n, r108_56, r108_59, r108_59n, r108_60, r108_63, r108_64, r108_67, r108_67n, r108_68, r108_68n, r108_72, r108_75, r108_76, r108_79, r108_80, i32_10, reduceIte, gm_cmp1, gm_cmp3, gm_cmp4, gm_kd_sf, gm_ln_sf, gm_sf_1, gm_sf_2, gm_nw_1, gm_nw_2, gm_k_int, gm_k_ref, gm_k_null, gm_k_u, gm_k_long, and_true, true_and, true_or, or_true, or_false, false_or, and_self, or_self, if_true, if_false, List.map_nil, List.map_cons, List.sum_nil, List.sum_cons, Nat.zero_le, Option.toList_some, Option.toList_none, List.cons_append, List.nil_append, ne_eq, not_false_eq_true, not_true_eq_false, nI_1, nI_add, Value.category, Nat.reduceAdd, Nat.reduceMod, Nat.reduceLeDiff, Nat.reduceLT, Nat.reduceEqDiff, Nat.reducePow, Nat.le_refl, Nat.add_left_cancel_iff, Nat.add_eq_left, Nat.left_eq_add, Nat.add_zero, e0, e3, k3, fk]
      exact mid
    · simp only [r108_0, r108_0n, r108_4, r108_4n, r108_5, r108_8, r108_9, r108_12, r108_13, r108_16, r108_17, r108_20, r108_21, r108_23, r108_27, r108_30, r108_30n, r108_31, r108_34, r108_37, r108_37n, r108_38, r108_41, r108_42, r108_45, r108_46, r108_49, r108_50, r108_51, r108_52, r108_55, r108_55n, r108_56, r108_59, r108_59n, r108_60, r108_63, r108_64, r108_67, r108_67n, r108_68, r108_68n, r108_72, r108_75, r108_76, r108_79, r108_80, i32_10, reduceIte, gm_cmp1, gm_cmp3, gm_cmp4, gm_kd_sf, gm_ln_sf, gm_sf_1, gm_sf_2, gm_nw_1, gm_nw_2, gm_k_int, gm_k_ref, gm_k_null, gm_k_u, gm_k_long, and_true, true_and, true_or, or_true, or_false, false_or, and_self, or_self, if_true, if_false, List.map_nil, List.map_cons, List.sum_nil, List.sum_cons, Nat.zero_le, Option.toList_some, Option.toList_none, List.cons_append, List.nil_append, ne_eq, not_false_eq_true, not_true_eq_false, nI_1, nI_add, Value.category, Nat.reduceAdd, Nat.reduceMod, Nat.reduceLeDiff, Nat.reduceLT, Nat.reduceEqDiff, Nat.reducePow, Nat.le_refl, Nat.add_left_cancel_iff, Nat.add_eq_left, Nat.left_eq_add, Nat.add_zero, e0, e3, k3, fk]
      exact ⟨by simp, rfl⟩
end X9
/-! THE CLASS, 10: flags, the local class of a descriptor; what a read one deeper must do. -/
section Y1
variable {E : Nat → Value} {d x : Nat} {h : gm_H} {ca : Nat → Nat} {K : gs_K} {F G : Nat → Prop} {s : gs_S}
/-- cells that differ at a alone -/
theorem gx_d0.sf {a u w k : Nat} {l : gs_L} {v : Value} (D : gx_d0 h a u w l) (hk : 6 < k) (hu : u ≠ a) (hw : w ≠ a) : gx_d0 (gm_sf h a k v) a u w l := by
  unfold gx_d0 at D ⊢
  simp only [gm_kd_sf, gm_ln_sf, gm_fv_sfj (show 0 ≠ k by omega), gm_fv_sfj (show 1 ≠ k by omega), gm_fv_sfj (show 2 ≠ k by omega), gm_fv_sfj (show 3 ≠ k by omega), gm_fv_sfj (show 4 ≠ k by omega), gm_fv_sfj (show 5 ≠ k by omega), gm_fv_sfj (show 6 ≠ k by omega), gm_fv_sfa hu, gm_fv_sfa hw]
  exact D
theorem gx_d0.tr {h' : gm_H} {a u w : Nat} {l : gs_L} (D : gx_d0 h a u w l) (ea : gm_rd h' a = gm_rd h a) (eu : gm_rd h' u = gm_rd h u) (ew : gm_rd h' w = gm_rd h w) : gx_d0 h' a u w l := by
  unfold gx_d0 at D ⊢
  simp only [gv_kd ea, gv_fv ea, gv_kd eu, gv_ln eu, gv_fv eu, gv_kd ew, gv_ln ew, gv_fv ew]
  exact D
/-- the class that a descriptor's name tells, kept in its field 9; F a: nobody else has it -/
theorem x_matchLocalClass {a u w : Nat} {l : gs_L} (hd : 3 ≤ d) (R : gx_R E h x ca K F s) (D : gx_d0 h a u w l) (hF : F a) (hx : x + 6 < a) (hu : u ≠ a) (hw : w ≠ a) (hn : gs_nf l + gs_nl l ≤ gs_n K) (hG : G a) :
    gm_Ca E d 101 [.ref x, .ref a] h (gx_P E h x ca K F G s (fun _ h' v => v = none ∧ h' = gm_sf h a 9 (gx_ow ca (gs_find K (gs_nf l) (gs_nl l))))
      (gs_mch K l s)) := by
  unfold gs_mch
  show gm_W E d 101 0 [.ref x, .ref a] [] h _
  have D' := D
  obtain ⟨d1, d2, d3, d4, d5, d6, d7, d8, d9, d10, d11, d12, d13, d14⟩ := D'
  have A0 := R.1.1
  simp only [r101_0, r101_0n, r101_1, r101_5, r101_8, r101_8n, r101_9, r101_14, r101_14a, r101_14n, r101_15, r101_15n, r101_16, r101_16n, r101_17, r101_17n, r101_18, r101_18n, r101_19, r101_22, r101_22n, r101_23, r101_26, r101_28, r101_36, r101_36n, r101_39, r101_39n, r101_40, r101_43n, r101_43, r101_46, r101_46n, r101_47, r101_47n, r101_48, r101_54, r101_57, r101_57n, r101_58, r101_63, r101_63a, r101_63n, r101_64, i32_10, reduceIte, gm_cmp1, gm_cmp3, gm_cmp4, gm_kd_sf, gm_ln_sf, gm_sf_1, gm_sf_2, gm_nw_1, gm_nw_2, gm_k_int, gm_k_ref, gm_k_null, gm_k_u, gm_k_long, and_true, true_and, true_or, or_true, or_false, false_or, and_self, or_self, if_true, if_false, List.map_nil, List.map_cons, List.sum_nil, List.sum_cons, Nat.zero_le, Option.toList_some, Option.toList_none, List.cons_append, List.nil_append, ne_eq, not_false_eq_true, not_true_eq_false, nI_1, nI_add, Value.category, Nat.reduceAdd, Nat.reduceMod, Nat.reduceLeDiff, Nat.reduceLT, Nat.reduceEqDiff, Nat.reducePow, Nat.le_refl, Nat.add_left_cancel_iff, Nat.add_eq_left, Nat.left_eq_add, Nat.add_zero]
  refine c101_2 (by simp) d1 (by omega) (x_has d1 d5) (gx_kn ?_) gx_kx
  by_cases h4 : gs_fl l &&& 4 = 0
  · have h4' : ¬ gs_fl l &&& 4 ≠ 0 := fun z => z h4
    rw [if_neg h4']
    simp only [r101_0, r101_0n, r101_1, r101_5, r101_8, r101_8n, r101_9, r101_14, r101_14a, r101_14n, r101_15, r101_15n, r101_16, r101_16n, r101_17, r101_17n, r101_18, r101_18n, r101_19, r101_22, r101_22n, r101_23, r101_26, r101_28, r101_36, r101_36n, r101_39, r101_39n, r101_40, r101_43n, r101_43, r101_46, r101_46n, r101_47, r101_47n, r101_48, r101_54, r101_57, r101_57n, r101_58, r101_63, r101_63a, r101_63n, r101_64, i32_10, reduceIte, gm_cmp1, gm_cmp3, gm_cmp4, gm_kd_sf, gm_ln_sf, gm_sf_1, gm_sf_2, gm_nw_1, gm_nw_2, gm_k_int, gm_k_ref, gm_k_null, gm_k_u, gm_k_long, and_true, true_and, true_or, or_true, or_false, false_or, and_self, or_self, if_true, if_false, List.map_nil, List.map_cons, List.sum_nil, List.sum_cons, Nat.zero_le, Option.toList_some, Option.toList_none, List.cons_append, List.nil_append, ne_eq, not_false_eq_true, not_true_eq_false, nI_1, nI_add, Value.category, Nat.reduceAdd, Nat.reduceMod, Nat.reduceLeDiff, Nat.reduceLT, Nat.reduceEqDiff, Nat.reducePow, Nat.le_refl, Nat.add_left_cancel_iff, Nat.add_eq_left, Nat.left_eq_add, Nat.add_zero, h4, d1, d2, d3]
    refine c101_30 (by simp [Value.category]) A0 (by omega) (x_letterFrom R hn) (gx_kn ?_) gx_kx
    simp only [i32_10, reduceIte, gm_cmp1, gm_cmp3, gm_cmp4, gm_kd_sf, gm_ln_sf, gm_sf_1, gm_sf_2, gm_nw_1, gm_nw_2, gm_k_int, gm_k_ref, gm_k_null, gm_k_u, gm_k_long, and_true, true_and, true_or, or_true, or_false, false_or, and_self, or_self, if_true, if_false, List.map_nil, List.map_cons, List.sum_nil, List.sum_cons, Nat.zero_le, Option.toList_some, Option.toList_none, List.cons_append, List.nil_append, ne_eq, not_false_eq_true, not_true_eq_false, nI_1, nI_add, Value.category, Nat.reduceAdd, Nat.reduceMod, Nat.reduceLeDiff, Nat.reduceLT, Nat.reduceEqDiff, Nat.reducePow, Nat.le_refl, Nat.add_left_cancel_iff, Nat.add_eq_left, Nat.left_eq_add, Nat.add_zero]
    refine c101_33 (by simp [Value.category]) A0 (by omega) (x_classNumbered R) (gx_kn ?_) gx_kx
    have ef : gs_cn K (gs_let K (gs_nf l) (gs_nl l) 65 6) = gs_find K (gs_nf l) (gs_nl l) := rfl
    rw [ef]
    have la : gm_ln h a = 10 := gm_kd_ln d1 (by decide)
    generalize hf : gs_find K (gs_nf l) (gs_nl l) = fo
    have mv : gx_mv h (gm_sf h a 9 (gx_ow ca fo)) x G s := gx_mv.oth (Or.inr hx) (Or.inr hG)
    have co : gx_co h (gm_sf h a 9 (gx_ow ca fo)) s s := ⟨by simp only [gm_sf_1]; exact Nat.le_refl _, by simp only [gm_sf_2]; exact Nat.le_refl _⟩
    have f9 : gm_fv (gm_sf h a 9 (gx_ow ca fo)) a 9 = gx_ow ca fo := gm_fv_sf (by rw [la]; decide)
    have R1 : gx_R E (gm_sf h a 9 (gx_ow ca fo)) x ca K F s := R.out hF hx
    cases fo with
    | none =>
      have f9 : gm_fv (gm_sf h a 9 .null) a 9 = .null := f9
      simp only [r101_0, r101_0n, r101_1, r101_5, r101_8, r101_8n, r101_9, r101_14, r101_14a, r101_14n, r101_15, r101_15n, r101_16, r101_16n, r101_17, r101_17n, r101_18, r101_18n, r101_19, r101_22, r101_22n, r101_23, r101_26, r101_28, r101_36, r101_36n, r101_39, r101_39n, r101_40, r101_43n, r101_43, r101_46, r101_46n, r101_47, r101_47n, r101_48, r101_54, r101_57, r101_57n, r101_58, r101_63, r101_63a, r101_63n, r101_64, i32_10, reduceIte, gm_cmp1, gm_cmp3, gm_cmp4, gm_kd_sf, gm_ln_sf, gm_sf_1, gm_sf_2, gm_nw_1, gm_nw_2, gm_k_int, gm_k_ref, gm_k_null, gm_k_u, gm_k_long, and_true, true_and, true_or, or_true, or_false, false_or, and_self, or_self, if_true, if_false, List.map_nil, List.map_cons, List.sum_nil, List.sum_cons, Nat.zero_le, Option.toList_some, Option.toList_none, List.cons_append, List.nil_append, ne_eq, not_false_eq_true, not_true_eq_false, nI_1, nI_add, Value.category, Nat.reduceAdd, Nat.reduceMod, Nat.reduceLeDiff, Nat.reduceLT, Nat.reduceEqDiff, Nat.reducePow, Nat.le_refl, Nat.add_left_cancel_iff, Nat.add_eq_left, Nat.left_eq_add, Nat.add_zero, d1, gx_ow, f9, Option.bind_none, Option.any_none, Bool.false_eq_true]
      exact ⟨(), s, rfl, ⟨rfl, rfl⟩, R1, mv, gx_le.refl, co⟩
    | some c =>
      have f9 : gm_fv (gm_sf h a 9 (.ref (ca c))) a 9 = .ref (ca c) := f9
      have hs : (gs_cls K c).isSome = true := by
        rw [← ef] at hf
        unfold gs_cn at hf
        split at hf
        · cases hf
        · split at hf
          · rename_i z; cases hf; exact z
          · cases hf
      obtain ⟨C, hC⟩ := Option.isSome_iff_exists.mp hs
      obtain ⟨hc6, -, q⟩ := R1.2.2.1.at hC
      have D1 : gx_d0 (gm_sf h a 9 (gx_ow ca (some c))) a u w l := D.sf (by decide) hu hw
      have k1 : gm_kd (gm_sf h a 9 (.ref (ca c))) a = 1 := by rw [gm_kd_sf]; exact d1
      simp only [r101_0, r101_0n, r101_1, r101_5, r101_8, r101_8n, r101_9, r101_14, r101_14a, r101_14n, r101_15, r101_15n, r101_16, r101_16n, r101_17, r101_17n, r101_18, r101_18n, r101_19, r101_22, r101_22n, r101_23, r101_26, r101_28, r101_36, r101_36n, r101_39, r101_39n, r101_40, r101_43n, r101_43, r101_46, r101_46n, r101_47, r101_47n, r101_48, r101_54, r101_57, r101_57n, r101_58, r101_63, r101_63a, r101_63n, r101_64, i32_10, reduceIte, gm_cmp1, gm_cmp3, gm_cmp4, gm_kd_sf, gm_ln_sf, gm_sf_1, gm_sf_2, gm_nw_1, gm_nw_2, gm_k_int, gm_k_ref, gm_k_null, gm_k_u, gm_k_long, and_true, true_and, true_or, or_true, or_false, false_or, and_self, or_self, if_true, if_false, List.map_nil, List.map_cons, List.sum_nil, List.sum_cons, Nat.zero_le, Option.toList_some, Option.toList_none, List.cons_append, List.nil_append, ne_eq, not_false_eq_true, not_true_eq_false, nI_1, nI_add, Value.category, Nat.reduceAdd, Nat.reduceMod, Nat.reduceLeDiff, Nat.reduceLT, Nat.reduceEqDiff, Nat.reducePow, Nat.le_refl, Nat.add_left_cancel_iff, Nat.add_eq_left, Nat.left_eq_add, Nat.add_zero, d1, gx_ow, f9, Option.bind_some, hC, Option.any_some]
      refine c101_51 (by simp) (by simp [gm_en1]) k1 (by omega) (x_fits (by omega) D1 q) (gx_kn ?_) gx_kx
      by_cases hfit : gs_fits l C = true
      · simp only [r101_0, r101_0n, r101_1, r101_5, r101_8, r101_8n, r101_9, r101_14, r101_14a, r101_14n, r101_15, r101_15n, r101_16, r101_16n, r101_17, r101_17n, r101_18, r101_18n, r101_19, r101_22, r101_22n, r101_23, r101_26, r101_28, r101_36, r101_36n, r101_39, r101_39n, r101_40, r101_43n, r101_43, r101_46, r101_46n, r101_47, r101_47n, r101_48, r101_54, r101_57, r101_57n, r101_58, r101_63, r101_63a, r101_63n, r101_64, i32_10, reduceIte, gm_cmp1, gm_cmp3, gm_cmp4, gm_kd_sf, gm_ln_sf, gm_sf_1, gm_sf_2, gm_nw_1, gm_nw_2, gm_k_int, gm_k_ref, gm_k_null, gm_k_u, gm_k_long, and_true, true_and, true_or, or_true, or_false, false_or, and_self, or_self, if_true, if_false, List.map_nil, List.map_cons, List.sum_nil, List.sum_cons, Nat.zero_le, Option.toList_some, Option.toList_none, List.cons_append, List.nil_append, ne_eq, not_false_eq_true, not_true_eq_false, nI_1, nI_add, Value.category, Nat.reduceAdd, Nat.reduceMod, Nat.reduceLeDiff, Nat.reduceLT, Nat.reduceEqDiff, Nat.reducePow, Nat.le_refl, Nat.add_left_cancel_iff, Nat.add_eq_left, Nat.left_eq_add, Nat.add_zero, hfit, Bool.not_true, Bool.false_eq_true]
        exact ⟨(), s, rfl, ⟨rfl, rfl⟩, R1, mv, gx_le.refl, co⟩
      · have hfit2 : gs_fits l C = false := by simpa using hfit
        simp only [r101_0, r101_0n, r101_1, r101_5, r101_8, r101_8n, r101_9, r101_14, r101_14a, r101_14n, r101_15, r101_15n, r101_16, r101_16n, r101_17, r101_17n, r101_18, r101_18n, r101_19, r101_22, r101_22n, r101_23, r101_26, r101_28, r101_36, r101_36n, r101_39, r101_39n, r101_40, r101_43n, r101_43, r101_46, r101_46n, r101_47, r101_47n, r101_48, r101_54, r101_57, r101_57n, r101_58, r101_63, r101_63a, r101_63n, r101_64, i32_10, reduceIte, gm_cmp1, gm_cmp3, gm_cmp4, gm_kd_sf, gm_ln_sf, gm_sf_1, gm_sf_2, gm_nw_1, gm_nw_2, gm_k_int, gm_k_ref, gm_k_null, gm_k_u, gm_k_long, and_true, true_and, true_or, or_true, or_false, false_or, and_self, or_self, if_true, if_false, List.map_nil, List.map_cons, List.sum_nil, List.sum_cons, Nat.zero_le, Option.toList_some, Option.toList_none, List.cons_append, List.nil_append, ne_eq, not_false_eq_true, not_true_eq_false, nI_1, nI_add, Value.category, Nat.reduceAdd, Nat.reduceMod, Nat.reduceLeDiff, Nat.reduceLT, Nat.reduceEqDiff, Nat.reducePow, Nat.le_refl, Nat.add_left_cancel_iff, Nat.add_eq_left, Nat.left_eq_add, Nat.add_zero, hfit2, Bool.not_false, Bool.false_eq_true]
        exact c101_60 (by simp) R1.1.1 (by omega) (x_fail (G := G) (α := Unit) (val := fun _ h' v => v = none ∧ h' = gm_sf h a 9 (gx_ow ca (gs_find K (gs_nf l) (gs_nl l)))) R1) gx_fn (fun _ _ q => q.reb mv gx_le.refl co (fun _ z => Or.inr z))
  · rw [if_pos h4]
    simp only [r101_0, r101_0n, r101_1, r101_5, r101_8, r101_8n, r101_9, r101_14, r101_14a, r101_14n, r101_15, r101_15n, r101_16, r101_16n, r101_17, r101_17n, r101_18, r101_18n, r101_19, r101_22, r101_22n, r101_23, r101_26, r101_28, r101_36, r101_36n, r101_39, r101_39n, r101_40, r101_43n, r101_43, r101_46, r101_46n, r101_47, r101_47n, r101_48, r101_54, r101_57, r101_57n, r101_58, r101_63, r101_63a, r101_63n, r101_64, i32_10, reduceIte, gm_cmp1, gm_cmp3, gm_cmp4, gm_kd_sf, gm_ln_sf, gm_sf_1, gm_sf_2, gm_nw_1, gm_nw_2, gm_k_int, gm_k_ref, gm_k_null, gm_k_u, gm_k_long, and_true, true_and, true_or, or_true, or_false, false_or, and_self, or_self, if_true, if_false, List.map_nil, List.map_cons, List.sum_nil, List.sum_cons, Nat.zero_le, Option.toList_some, Option.toList_none, List.cons_append, List.nil_append, ne_eq, not_false_eq_true, not_true_eq_false, nI_1, nI_add, Value.category, Nat.reduceAdd, Nat.reduceMod, Nat.reduceLeDiff, Nat.reduceLT, Nat.reduceEqDiff, Nat.reducePow, Nat.le_refl, Nat.add_left_cancel_iff, Nat.add_eq_left, Nat.left_eq_add, Nat.add_zero, h4]
    exact c101_11 (by simp) A0 (by omega) (x_fail R) gx_fn (fun _ _ q => q)
theorem gs_u1_ok {t : Int32} {s1 : gs_S} (w : gs_u1 K s = .ok (t, s1)) : (∃ b, b < 256 ∧ t = nI b) ∧ s1 = gs_p (gs_pl s + 1) s ∧ (gs_pl s ≤ gs_n K → gs_pl s + 1 ≤ gs_n K) := by
  unfold gs_u1 at w
  cases e : gs_nxt K 1 s with
  | error f => rw [gs_b_er e] at w; cases w
  | ok q =>
    obtain ⟨v, s2⟩ := q
    rw [gs_b_ok e] at w
    cases w
    obtain ⟨e1, e2⟩ := gs_nxt_eq e
    refine ⟨⟨gs_ubn K (gs_pl s), gs_ubn_lt, by rw [e1, gs_num1]⟩, e2, fun z => ?_⟩
    rcases gs_nxt_ok e with q | q <;> omega
/-- the flags, kept in field 3 -/
theorem x_readFlags {a : Nat} {id : Int64} (hd : 3 ≤ d) (R : gx_R E h x ca K F s) (ka : gm_kd h a = 1) (fi : gm_fv h a 2 = .long id) (hF : F a) (hx : x + 6 < a) (hah : a < h.1) (hG : G a) :
    gm_Ca E d 98 [.ref x, .ref a] h (gx_P E h x ca K F G s (fun fl h' v => v = none ∧ gx_nal h h' ∧ gm_rd h' a = gm_rd (gm_sf h a 3 (.int fl)) a)
      (gs_flg K id s)) := by
  unfold gs_flg
  show gm_W E d 98 0 [.ref x, .ref a] [] h _
  simp only [r98_0, r98_0n, r98_1, r98_1n, r98_5, r98_8, r98_8n, r98_9, r98_13, r98_16, r98_16n, r98_17, r98_21, r98_24, r98_24n, r98_28, r98_31, r98_31n, r98_32, r98_35, r98_36, r98_37, r98_40, r98_40n, r98_41, r98_46, r98_46a, r98_46n, r98_47, i32_10, reduceIte, gm_cmp1, gm_cmp3, gm_cmp4, gm_kd_sf, gm_ln_sf, gm_sf_1, gm_sf_2, gm_nw_1, gm_nw_2, gm_k_int, gm_k_ref, gm_k_null, gm_k_u, gm_k_long, and_true, true_and, true_or, or_true, or_false, false_or, and_self, or_self, if_true, if_false, List.map_nil, List.map_cons, List.sum_nil, List.sum_cons, Nat.zero_le, Option.toList_some, Option.toList_none, List.cons_append, List.nil_append, ne_eq, not_false_eq_true, not_true_eq_false, nI_1, nI_add, Value.category, Nat.reduceAdd, Nat.reduceMod, Nat.reduceLeDiff, Nat.reduceLT, Nat.reduceEqDiff, Nat.reducePow, Nat.le_refl, Nat.add_left_cancel_iff, Nat.add_eq_left, Nat.left_eq_add, Nat.add_zero]
  refine c98_2 (by simp [Value.category]) R.1.1 (by omega) (x_nextByte (G := fun _ => False) (by omega) R) (fun v h1 q => ?_) (fun _ _ q => (q.wk (fun _ z => z.elim)).ber)
  obtain ⟨fl, s1, e, ⟨rfl, na⟩, R1, mv, le, co⟩ := q
  have era : gm_rd h1 a = gm_rd h a := mv.1.2 a ⟨Or.inr hx, hah, fun z => z⟩
  have k1 : gm_kd h1 a = 1 := (gv_kd era).trans ka
  have f2 : gm_fv h1 a 2 = .long id := (gv_fv era).trans fi
  have la : gm_ln h1 a = 10 := gm_kd_ln k1 (by decide)
  rw [gs_b_ok e]
  obtain ⟨res, hres⟩ : ∃ res : Except Int32 (Int32 × gs_S), res = (if (fl &&& 2 ≠ 0 ∧ fl &&& 4 ≠ 0) ∨ (fl &&& 16 ≠ 0 ∧ id ≠ 0) then .error (-5) else .ok (fl, s1)) := ⟨_, rfl⟩
  show gm_W E d 98 5 _ _ _ (gx_P E h x ca K F G s _ (if (fl &&& 2 ≠ 0 ∧ fl &&& 4 ≠ 0) ∨ (fl &&& 16 ≠ 0 ∧ id ≠ 0) then .error (-5) else .ok (fl, s1)))
  rw [← hres]
  have mv' : gx_mv h h1 x G s := mv.wk (fun _ z => z.elim)
  simp only [r98_0, r98_0n, r98_1, r98_1n, r98_5, r98_8, r98_8n, r98_9, r98_13, r98_16, r98_16n, r98_17, r98_21, r98_24, r98_24n, r98_28, r98_31, r98_31n, r98_32, r98_35, r98_36, r98_37, r98_40, r98_40n, r98_41, r98_46, r98_46a, r98_46n, r98_47, i32_10, reduceIte, gm_cmp1, gm_cmp3, gm_cmp4, gm_kd_sf, gm_ln_sf, gm_sf_1, gm_sf_2, gm_nw_1, gm_nw_2, gm_k_int, gm_k_ref, gm_k_null, gm_k_u, gm_k_long, and_true, true_and, true_or, or_true, or_false, false_or, and_self, or_self, if_true, if_false, List.map_nil, List.map_cons, List.sum_nil, List.sum_cons, Nat.zero_le, Option.toList_some, Option.toList_none, List.cons_append, List.nil_append, ne_eq, not_false_eq_true, not_true_eq_false, nI_1, nI_add, Value.category, Nat.reduceAdd, Nat.reduceMod, Nat.reduceLeDiff, Nat.reduceLT, Nat.reduceEqDiff, Nat.reducePow, Nat.le_refl, Nat.add_left_cancel_iff, Nat.add_eq_left, Nat.left_eq_add, Nat.add_zero, k1]
  obtain ⟨h2, eh2⟩ : ∃ h2, h2 = gm_sf h1 a 3 (.int fl) := ⟨_, rfl⟩
  rw [← eh2]
  have R2 : gx_R E h2 x ca K F s1 := by rw [eh2]; exact R1.out hF hx
  have k2 : gm_kd h2 a = 1 := by rw [eh2, gm_kd_sf]; exact k1
  have f22 : gm_fv h2 a 2 = .long id := by rw [eh2, gm_fv_sfj (by decide)]; exact f2
  have f23 : gm_fv h2 a 3 = .int fl := by rw [eh2]; exact gm_fv_sf (by rw [la]; decide)
  have na2 : gx_nal h h2 := by rw [eh2]; exact na.sf
  have mv2 : gx_mv h h2 x G s := mv'.trans (G1 := G) (s1 := s1) (by rw [eh2]; exact gx_mv.oth (Or.inr hx) (Or.inr hG)) le (fun _ z => Or.inr z)
  have co2 : gx_co h h2 s s1 := by
    have := co.1; have := co.2; have := na.1; have := na.2; have := na2.1; have := na2.2
    unfold gx_co
    omega
  have rd2 : gm_rd h2 a = gm_rd (gm_sf h a 3 (.int fl)) a := by rw [eh2, gm_rd_sf, gm_rd_sf, if_pos rfl, if_pos rfl, era]
  clear eh2
  have bad : gm_W E d 98 40 [.ref x, .ref a] [] h2 (gx_P E h x ca K F G s (fun fl h' v => v = none ∧ gx_nal h h' ∧ gm_rd h' a = gm_rd (gm_sf h a 3 (.int fl)) a) (.error (-5) : Except Int32 (Int32 × gs_S))) := by
    simp only [r98_0, r98_0n, r98_1, r98_1n, r98_5, r98_8, r98_8n, r98_9, r98_13, r98_16, r98_16n, r98_17, r98_21, r98_24, r98_24n, r98_28, r98_31, r98_31n, r98_32, r98_35, r98_36, r98_37, r98_40, r98_40n, r98_41, r98_46, r98_46a, r98_46n, r98_47, i32_10, reduceIte, gm_cmp1, gm_cmp3, gm_cmp4, gm_kd_sf, gm_ln_sf, gm_sf_1, gm_sf_2, gm_nw_1, gm_nw_2, gm_k_int, gm_k_ref, gm_k_null, gm_k_u, gm_k_long, and_true, true_and, true_or, or_true, or_false, false_or, and_self, or_self, if_true, if_false, List.map_nil, List.map_cons, List.sum_nil, List.sum_cons, Nat.zero_le, Option.toList_some, Option.toList_none, List.cons_append, List.nil_append, ne_eq, not_false_eq_true, not_true_eq_false, nI_1, nI_add, Value.category, Nat.reduceAdd, Nat.reduceMod, Nat.reduceLeDiff, Nat.reduceLT, Nat.reduceEqDiff, Nat.reducePow, Nat.le_refl, Nat.add_left_cancel_iff, Nat.add_eq_left, Nat.left_eq_add, Nat.add_zero]
    exact c98_43 (by simp) R2.1.1 (by omega) (x_fail (G := G) (val := fun fl h' v => v = none ∧ gx_nal h h' ∧ gm_rd h' a = gm_rd (gm_sf h a 3 (.int fl)) a) R2) gx_fn (fun _ _ q => q.reb mv2 le co2 (fun _ z => Or.inr z))
  have good : gm_W E d 98 47 [.ref x, .ref a] [] h2 (gx_P E h x ca K F G s (fun fl h' v => v = none ∧ gx_nal h h' ∧ gm_rd h' a = gm_rd (gm_sf h a 3 (.int fl)) a) (.ok (fl, s1) : Except Int32 (Int32 × gs_S))) := by
    simp only [r98_0, r98_0n, r98_1, r98_1n, r98_5, r98_8, r98_8n, r98_9, r98_13, r98_16, r98_16n, r98_17, r98_21, r98_24, r98_24n, r98_28, r98_31, r98_31n, r98_32, r98_35, r98_36, r98_37, r98_40, r98_40n, r98_41, r98_46, r98_46a, r98_46n, r98_47, i32_10, reduceIte, gm_cmp1, gm_cmp3, gm_cmp4, gm_kd_sf, gm_ln_sf, gm_sf_1, gm_sf_2, gm_nw_1, gm_nw_2, gm_k_int, gm_k_ref, gm_k_null, gm_k_u, gm_k_long, and_true, true_and, true_or, or_true, or_false, false_or, and_self, or_self, if_true, if_false, List.map_nil, List.map_cons, List.sum_nil, List.sum_cons, Nat.zero_le, Option.toList_some, Option.toList_none, List.cons_append, List.nil_append, ne_eq, not_false_eq_true, not_true_eq_false, nI_1, nI_add, Value.category, Nat.reduceAdd, Nat.reduceMod, Nat.reduceLeDiff, Nat.reduceLT, Nat.reduceEqDiff, Nat.reducePow, Nat.le_refl, Nat.add_left_cancel_iff, Nat.add_eq_left, Nat.left_eq_add, Nat.add_zero]
    exact ⟨fl, s1, rfl, ⟨rfl, na2, rd2⟩, R2, mv2, le, co2⟩
  have third : (¬ (fl &&& 2 ≠ 0 ∧ fl &&& 4 ≠ 0)) → gm_W E d 98 24 [.ref x, .ref a] [] h2 (gx_P E h x ca K F G s (fun fl h' v => v = none ∧ gx_nal h h' ∧ gm_rd h' a = gm_rd (gm_sf h a 3 (.int fl)) a) res) := by
    intro hn
    simp only [r98_0, r98_0n, r98_1, r98_1n, r98_5, r98_8, r98_8n, r98_9, r98_13, r98_16, r98_16n, r98_17, r98_21, r98_24, r98_24n, r98_28, r98_31, r98_31n, r98_32, r98_35, r98_36, r98_37, r98_41, r98_46, r98_46a, r98_46n, i32_10, reduceIte, gm_cmp1, gm_cmp3, gm_cmp4, gm_kd_sf, gm_ln_sf, gm_sf_1, gm_sf_2, gm_nw_1, gm_nw_2, gm_k_int, gm_k_ref, gm_k_null, gm_k_u, gm_k_long, and_true, true_and, true_or, or_true, or_false, false_or, and_self, or_self, if_true, if_false, List.map_nil, List.map_cons, List.sum_nil, List.sum_cons, Nat.zero_le, Option.toList_some, Option.toList_none, List.cons_append, List.nil_append, ne_eq, not_false_eq_true, not_true_eq_false, nI_1, nI_add, Value.category, Nat.reduceAdd, Nat.reduceMod, Nat.reduceLeDiff, Nat.reduceLT, Nat.reduceEqDiff, Nat.reducePow, Nat.le_refl, Nat.add_left_cancel_iff, Nat.add_eq_left, Nat.left_eq_add, Nat.add_zero]
    refine c98_25 (by simp) k2 (by omega) (x_isConstant (by omega) k2 f23) (gx_kn ?_) gx_kx
    by_cases h16 : fl &&& 16 = 0
    · have : ¬ ((fl &&& 2 ≠ 0 ∧ fl &&& 4 ≠ 0) ∨ (fl &&& 16 ≠ 0 ∧ id ≠ 0)) := fun z => z.elim hn (fun y => y.1 h16)
      rw [if_neg this] at hres
      rw [hres]
      simp only [r98_0, r98_0n, r98_1, r98_1n, r98_5, r98_8, r98_8n, r98_9, r98_13, r98_16, r98_16n, r98_17, r98_21, r98_24, r98_24n, r98_28, r98_31, r98_31n, r98_32, r98_35, r98_36, r98_37, r98_41, r98_46, r98_46a, r98_46n, i32_10, reduceIte, gm_cmp1, gm_cmp3, gm_cmp4, gm_kd_sf, gm_ln_sf, gm_sf_1, gm_sf_2, gm_nw_1, gm_nw_2, gm_k_int, gm_k_ref, gm_k_null, gm_k_u, gm_k_long, and_true, true_and, true_or, or_true, or_false, false_or, and_self, or_self, if_true, if_false, List.map_nil, List.map_cons, List.sum_nil, List.sum_cons, Nat.zero_le, Option.toList_some, Option.toList_none, List.cons_append, List.nil_append, ne_eq, not_false_eq_true, not_true_eq_false, nI_1, nI_add, Value.category, Nat.reduceAdd, Nat.reduceMod, Nat.reduceLeDiff, Nat.reduceLT, Nat.reduceEqDiff, Nat.reducePow, Nat.le_refl, Nat.add_left_cancel_iff, Nat.add_eq_left, Nat.left_eq_add, Nat.add_zero, h16]
      exact good
    · by_cases hid : id = 0
      · have : ¬ ((fl &&& 2 ≠ 0 ∧ fl &&& 4 ≠ 0) ∨ (fl &&& 16 ≠ 0 ∧ id ≠ 0)) := fun z => z.elim hn (fun y => y.2 hid)
        rw [if_neg this] at hres
        rw [hres]
        simp only [r98_0, r98_0n, r98_1, r98_1n, r98_5, r98_8, r98_8n, r98_9, r98_13, r98_16, r98_16n, r98_17, r98_21, r98_24, r98_24n, r98_28, r98_31, r98_31n, r98_32, r98_35, r98_36, r98_37, r98_41, r98_46, r98_46a, r98_46n, i32_10, reduceIte, gm_cmp1, gm_cmp3, gm_cmp4, gm_kd_sf, gm_ln_sf, gm_sf_1, gm_sf_2, gm_nw_1, gm_nw_2, gm_k_int, gm_k_ref, gm_k_null, gm_k_u, gm_k_long, and_true, true_and, true_or, or_true, or_false, false_or, and_self, or_self, if_true, if_false, List.map_nil, List.map_cons, List.sum_nil, List.sum_cons, Nat.zero_le, Option.toList_some, Option.toList_none, List.cons_append, List.nil_append, ne_eq, not_false_eq_true, not_true_eq_false, nI_1, nI_add, Value.category, Nat.reduceAdd, Nat.reduceMod, Nat.reduceLeDiff, Nat.reduceLT, Nat.reduceEqDiff, Nat.reducePow, Nat.le_refl, Nat.add_left_cancel_iff, Nat.add_eq_left, Nat.left_eq_add, Nat.add_zero, h16, k2, f22, gx_cmp_eq, hid]
        exact good
      · rw [if_pos (Or.inr ⟨h16, hid⟩)] at hres
        rw [hres]
        simp only [r98_0, r98_0n, r98_1, r98_1n, r98_5, r98_8, r98_8n, r98_9, r98_13, r98_16, r98_16n, r98_17, r98_21, r98_24, r98_24n, r98_28, r98_31, r98_31n, r98_32, r98_35, r98_36, r98_37, r98_41, r98_46, r98_46a, r98_46n, i32_10, reduceIte, gm_cmp1, gm_cmp3, gm_cmp4, gm_kd_sf, gm_ln_sf, gm_sf_1, gm_sf_2, gm_nw_1, gm_nw_2, gm_k_int, gm_k_ref, gm_k_null, gm_k_u, gm_k_long, and_true, true_and, true_or, or_true, or_false, false_or, and_self, or_self, if_true, if_false, List.map_nil, List.map_cons, List.sum_nil, List.sum_cons, Nat.zero_le, Option.toList_some, Option.toList_none, List.cons_append, List.nil_append, ne_eq, not_false_eq_true, not_true_eq_false, nI_1, nI_add, Value.category, Nat.reduceAdd, Nat.reduceMod, Nat.reduceLeDiff, Nat.reduceLT, Nat.reduceEqDiff, Nat.reducePow, Nat.le_refl, Nat.add_left_cancel_iff, Nat.add_eq_left, Nat.left_eq_add, Nat.add_zero, h16, k2, f22, gx_cmp_eq, hid]
        exact bad
  refine c98_10 (by simp) k2 (by omega) (x_has k2 f23) (gx_kn ?_) gx_kx
  by_cases g2 : fl &&& 2 = 0
  · simp only [r98_0, r98_0n, r98_1, r98_1n, r98_5, r98_8, r98_8n, r98_9, r98_13, r98_16, r98_16n, r98_17, r98_21, r98_28, r98_31, r98_31n, r98_32, r98_35, r98_36, r98_37, r98_41, r98_46, r98_46a, r98_46n, i32_10, reduceIte, gm_cmp1, gm_cmp3, gm_cmp4, gm_kd_sf, gm_ln_sf, gm_sf_1, gm_sf_2, gm_nw_1, gm_nw_2, gm_k_int, gm_k_ref, gm_k_null, gm_k_u, gm_k_long, and_true, true_and, true_or, or_true, or_false, false_or, and_self, or_self, if_true, if_false, List.map_nil, List.map_cons, List.sum_nil, List.sum_cons, Nat.zero_le, Option.toList_some, Option.toList_none, List.cons_append, List.nil_append, ne_eq, not_false_eq_true, not_true_eq_false, nI_1, nI_add, Value.category, Nat.reduceAdd, Nat.reduceMod, Nat.reduceLeDiff, Nat.reduceLT, Nat.reduceEqDiff, Nat.reducePow, Nat.le_refl, Nat.add_left_cancel_iff, Nat.add_eq_left, Nat.left_eq_add, Nat.add_zero, g2]
    exact third (fun z => z.1 g2)
  · simp only [r98_0, r98_0n, r98_1, r98_1n, r98_5, r98_8, r98_8n, r98_9, r98_13, r98_16, r98_16n, r98_17, r98_21, r98_28, r98_31, r98_31n, r98_32, r98_35, r98_36, r98_37, r98_41, r98_46, r98_46a, r98_46n, i32_10, reduceIte, gm_cmp1, gm_cmp3, gm_cmp4, gm_kd_sf, gm_ln_sf, gm_sf_1, gm_sf_2, gm_nw_1, gm_nw_2, gm_k_int, gm_k_ref, gm_k_null, gm_k_u, gm_k_long, and_true, true_and, true_or, or_true, or_false, false_or, and_self, or_self, if_true, if_false, List.map_nil, List.map_cons, List.sum_nil, List.sum_cons, Nat.zero_le, Option.toList_some, Option.toList_none, List.cons_append, List.nil_append, ne_eq, not_false_eq_true, not_true_eq_false, nI_1, nI_add, Value.category, Nat.reduceAdd, Nat.reduceMod, Nat.reduceLeDiff, Nat.reduceLT, Nat.reduceEqDiff, Nat.reducePow, Nat.le_refl, Nat.add_left_cancel_iff, Nat.add_eq_left, Nat.left_eq_add, Nat.add_zero, g2]
    refine c98_18 (by simp) k2 (by omega) (x_has k2 f23) (gx_kn ?_) gx_kx
    by_cases g4 : fl &&& 4 = 0
    · simp only [r98_0, r98_0n, r98_1, r98_1n, r98_5, r98_8, r98_8n, r98_9, r98_13, r98_16, r98_16n, r98_17, r98_21, r98_28, r98_31, r98_31n, r98_32, r98_35, r98_36, r98_37, r98_41, r98_46, r98_46a, r98_46n, i32_10, reduceIte, gm_cmp1, gm_cmp3, gm_cmp4, gm_kd_sf, gm_ln_sf, gm_sf_1, gm_sf_2, gm_nw_1, gm_nw_2, gm_k_int, gm_k_ref, gm_k_null, gm_k_u, gm_k_long, and_true, true_and, true_or, or_true, or_false, false_or, and_self, or_self, if_true, if_false, List.map_nil, List.map_cons, List.sum_nil, List.sum_cons, Nat.zero_le, Option.toList_some, Option.toList_none, List.cons_append, List.nil_append, ne_eq, not_false_eq_true, not_true_eq_false, nI_1, nI_add, Value.category, Nat.reduceAdd, Nat.reduceMod, Nat.reduceLeDiff, Nat.reduceLT, Nat.reduceEqDiff, Nat.reducePow, Nat.le_refl, Nat.add_left_cancel_iff, Nat.add_eq_left, Nat.left_eq_add, Nat.add_zero, g4]
      exact third (fun z => z.2 g4)
    · rw [if_pos (Or.inl ⟨g2, g4⟩)] at hres
      rw [hres]
      simp only [r98_0, r98_0n, r98_1, r98_1n, r98_5, r98_8, r98_8n, r98_9, r98_13, r98_16, r98_16n, r98_17, r98_21, r98_28, r98_31, r98_31n, r98_32, r98_35, r98_36, r98_37, r98_41, r98_46, r98_46a, r98_46n, i32_10, reduceIte, gm_cmp1, gm_cmp3, gm_cmp4, gm_kd_sf, gm_ln_sf, gm_sf_1, gm_sf_2, gm_nw_1, gm_nw_2, gm_k_int, gm_k_ref, gm_k_null, gm_k_u, gm_k_long, and_true, true_and, true_or, or_true, or_false, false_or, and_self, or_self, if_true, if_false, List.map_nil, List.map_cons, List.sum_nil, List.sum_cons, Nat.zero_le, Option.toList_some, Option.toList_none, List.cons_append, List.nil_append, ne_eq, not_false_eq_true, not_true_eq_false, nI_1, nI_add, Value.category, Nat.reduceAdd, Nat.reduceMod, Nat.reduceLeDiff, Nat.reduceLT, Nat.reduceEqDiff, Nat.reducePow, Nat.le_refl, Nat.add_left_cancel_iff, Nat.add_eq_left, Nat.left_eq_add, Nat.add_zero, g4]
      exact bad
end Y1
/-! THE CLASS, 11: rests and a descriptor's fields, with a read one deeper. -/
/-- reading at a depth does what rc does -/
def gx_RC (E : Nat → Value) (x : Nat) (ca : Nat → Nat) (K : gs_K) (d0 dp : Nat) (rc : gs_M Int32) : Prop := ∀ (d : Nat) (h : gm_H) (s : gs_S) (F G : Nat → Prop), d0 ≤ d → gx_R E h x ca K F s → (∀ a, F a → a < h.1) → gm_Ca E d 82 [.ref x, .int (nI dp)] h (gx_P E h x ca K F G s (fun a _ v => v = some (.int a)) (rc s))
section Y2
variable {E : Nat → Value} {d x d0 dp : Nat} {h : gm_H} {ca : Nat → Nat} {K : gs_K} {F G : Nat → Prop} {s : gs_S} {rc : gs_M Int32}
theorem x_passRest (C : gx_RC E x ca K d0 (dp + 1) rc) (hK : gs_rst K = false) (hdp : dp < 1000) (hd : d0 + 1 ≤ d) (hd4 : 4 ≤ d) (R : gx_R E h x ca K F s) (hF : ∀ a, F a → a < h.1) : gm_Ca E d 76 [.ref x, .int (nI dp)] h (gx_P E h x ca K F G s (fun _ _ v => v = none) (gs_rest K rc 701 s)) := by
  have loop : ∀ (m k : Nat) (s : gs_S) (h : gm_H) (w3 : Value), k + m = 701 → gx_R E h x ca K F s → (∀ a, F a → a < h.1) → gm_W E d 76 2 [.ref x, .int (nI dp), .int (nI k), w3] [] h (gx_P E h x ca K F G s (fun _ _ v => v = none) (gs_rest K rc m s)) := by
    intro m
    induction m with
    | zero =>
      intro k s h w3 hk R hF
      have hk : k = 701 := by omega
      subst hk
      have e1 : (700 : Int32) < nI 701 := by decide
      simp only [r76_0, r76_1, r76_2, r76_3, r76_6, r76_9, r76_9n, r76_10, r76_13, r76_13n, r76_14, r76_17, r76_20, r76_20n, r76_21, r76_26, r76_26a, r76_26n, r76_27, r76_27n, r76_28, r76_31, r76_31n, r76_32, r76_35, r76_36, r76_37, r76_38, r76_40, r76_43, r76_43n, r76_44, r76_44i, r76_45, r76_48, r76_49, r76_50, r76_53, r76_54, r76_58, r76_61, r76_61n, r76_65, r76_65a, r76_65n, r76_66, r76_69, r76_69n, r76_70, r76_71, r76_72, r76_76, r76_76a, r76_76n, r76_77, r76_80, r76_83, i32_10, reduceIte, gm_cmp1, gm_cmp3, gm_cmp4, gm_kd_sf, gm_ln_sf, gm_sf_1, gm_sf_2, gm_nw_1, gm_nw_2, gm_k_int, gm_k_ref, gm_k_null, gm_k_u, gm_k_long, and_true, true_and, true_or, or_true, or_false, false_or, and_self, or_self, if_true, if_false, List.map_nil, List.map_cons, List.sum_nil, List.sum_cons, Nat.zero_le, Option.toList_some, Option.toList_none, List.cons_append, List.nil_append, ne_eq, not_false_eq_true, not_true_eq_false, nI_1, nI_add, Value.category, Nat.reduceAdd, Nat.reduceMod, Nat.reduceLeDiff, Nat.reduceLT, Nat.reduceEqDiff, Nat.reducePow, Nat.le_refl, Nat.add_left_cancel_iff, Nat.add_eq_left, Nat.left_eq_add, Nat.add_zero, e1]
      exact ⟨(), s, rfl, rfl, R, gx_mv.refl, gx_le.refl, gx_co.refl⟩
    | succ m ih =>
      intro k s h w3 hk R hF
      have e1 : ¬ (700 : Int32) < nI k := nI_nlt (b := k) (a := 700) (by omega) (by decide)
      obtain ⟨A0, -, A5, -, -, -, -, A2, A2l, -⟩ := R.1
      obtain ⟨-, -, -, -, B6, B7, B8⟩ := R.2.1
      obtain ⟨z1, z2, z3, z4, z5, z6, z7, z8, z9⟩ := R.2.2.2.1
      rw [r76_2]
      by_cases hc : gs_n K ≤ gs_pl s
      · simp only [r76_0, r76_1, r76_3, r76_6, r76_9, r76_9n, r76_10, r76_13, r76_13n, r76_14, r76_17, r76_20, r76_20n, r76_21, r76_26, r76_26a, r76_26n, r76_27, r76_27n, r76_28, r76_31, r76_31n, r76_32, r76_35, r76_36, r76_37, r76_38, r76_40, r76_43, r76_43n, r76_44, r76_44i, r76_45, r76_48, r76_49, r76_50, r76_53, r76_54, r76_58, r76_61, r76_61n, r76_65, r76_65a, r76_65n, r76_66, r76_69, r76_69n, r76_70, r76_71, r76_72, r76_76, r76_76a, r76_76n, r76_77, r76_80, r76_83, i32_10, reduceIte, gm_cmp1, gm_cmp3, gm_cmp4, gm_kd_sf, gm_ln_sf, gm_sf_1, gm_sf_2, gm_nw_1, gm_nw_2, gm_k_int, gm_k_ref, gm_k_null, gm_k_u, gm_k_long, and_true, true_and, true_or, or_true, or_false, false_or, and_self, or_self, if_true, if_false, List.map_nil, List.map_cons, List.sum_nil, List.sum_cons, Nat.zero_le, Option.toList_some, Option.toList_none, List.cons_append, List.nil_append, ne_eq, not_false_eq_true, not_true_eq_false, nI_1, nI_add, Value.category, Nat.reduceAdd, Nat.reduceMod, Nat.reduceLeDiff, Nat.reduceLT, Nat.reduceEqDiff, Nat.reducePow, Nat.le_refl, Nat.add_left_cancel_iff, Nat.add_eq_left, Nat.left_eq_add, Nat.add_zero, e1, A0, z1, B6, nI_ltF hc (show gs_pl s < 2 ^ 31 by omega)]
        have e : gs_rest K rc (m + 1) s = .error (-3) := by
          unfold gs_rest
          rw [if_pos hc, hK]
          rfl
        rw [e]
        exact c76_23 (by simp) A0 (by omega) (x_fail R) gx_fn (fun _ _ q => q)
      · have hp : gs_pl s < gs_n K := by omega
        have hp7 : gs_pl s < 700 := by omega
        by_cases h78 : gs_sb K (gs_pl s) = 120
        · simp only [r76_0, r76_1, r76_3, r76_6, r76_9, r76_9n, r76_10, r76_13, r76_13n, r76_14, r76_17, r76_20, r76_20n, r76_21, r76_26, r76_26a, r76_26n, r76_27, r76_27n, r76_28, r76_31, r76_31n, r76_32, r76_35, r76_36, r76_37, r76_38, r76_40, r76_43, r76_43n, r76_44, r76_44i, r76_45, r76_48, r76_49, r76_50, r76_53, r76_54, r76_58, r76_61, r76_61n, r76_65, r76_65a, r76_65n, r76_66, r76_69, r76_69n, r76_70, r76_71, r76_72, r76_76, r76_76a, r76_76n, r76_77, r76_80, r76_83, i32_10, reduceIte, gm_cmp1, gm_cmp3, gm_cmp4, gm_kd_sf, gm_ln_sf, gm_sf_1, gm_sf_2, gm_nw_1, gm_nw_2, gm_k_int, gm_k_ref, gm_k_null, gm_k_u, gm_k_long, and_true, true_and, true_or, or_true, or_false, false_or, and_self, or_self, if_true, if_false, List.map_nil, List.map_cons, List.sum_nil, List.sum_cons, Nat.zero_le, Option.toList_some, Option.toList_none, List.cons_append, List.nil_append, ne_eq, not_false_eq_true, not_true_eq_false, nI_1, nI_add, Value.category, Nat.reduceAdd, Nat.reduceMod, Nat.reduceLeDiff, Nat.reduceLT, Nat.reduceEqDiff, Nat.reducePow, Nat.le_refl, Nat.add_left_cancel_iff, Nat.add_eq_left, Nat.left_eq_add, Nat.add_zero, e1, A0, z1, B6, nI_ltT hp (show gs_n K < 2 ^ 31 by omega), A5, A2, A2l, hp7, B8 _ hp, h78]
          have e : gs_rest K rc (m + 1) s = .ok ((), gs_p (gs_pl s + 1) s) := by
            unfold gs_rest
            rw [if_neg hc, if_pos h78]
          rw [e]
          refine ⟨(), _, rfl, rfl, R.place (by omega), gx_mv.fld (by decide), gx_le.refl, ?_⟩
          constructor
          · simp only [gm_sf_1]; show _ + gs_pl s ≤ _ + (gs_pl s + 1); omega
          · simp only [gm_sf_2]; show _ + 8 * gs_pl s ≤ _ + 8 * (gs_pl s + 1); omega
        · simp only [r76_0, r76_1, r76_3, r76_6, r76_9, r76_9n, r76_10, r76_13, r76_13n, r76_14, r76_17, r76_20, r76_20n, r76_21, r76_26, r76_26a, r76_26n, r76_27, r76_27n, r76_28, r76_31, r76_31n, r76_32, r76_35, r76_36, r76_37, r76_38, r76_40, r76_43, r76_43n, r76_44, r76_44i, r76_45, r76_48, r76_49, r76_50, r76_53, r76_54, r76_58, r76_61, r76_61n, r76_65, r76_65a, r76_65n, r76_66, r76_69, r76_69n, r76_70, r76_71, r76_72, r76_76, r76_76a, r76_76n, r76_77, r76_80, r76_83, i32_10, reduceIte, gm_cmp1, gm_cmp3, gm_cmp4, gm_kd_sf, gm_ln_sf, gm_sf_1, gm_sf_2, gm_nw_1, gm_nw_2, gm_k_int, gm_k_ref, gm_k_null, gm_k_u, gm_k_long, and_true, true_and, true_or, or_true, or_false, false_or, and_self, or_self, if_true, if_false, List.map_nil, List.map_cons, List.sum_nil, List.sum_cons, Nat.zero_le, Option.toList_some, Option.toList_none, List.cons_append, List.nil_append, ne_eq, not_false_eq_true, not_true_eq_false, nI_1, nI_add, Value.category, Nat.reduceAdd, Nat.reduceMod, Nat.reduceLeDiff, Nat.reduceLT, Nat.reduceEqDiff, Nat.reducePow, Nat.le_refl, Nat.add_left_cancel_iff, Nat.add_eq_left, Nat.left_eq_add, Nat.add_zero, e1, A0, z1, B6, nI_ltT hp (show gs_n K < 2 ^ 31 by omega), A5, A2, A2l, hp7, B8 _ hp, h78]
          refine c76_55 (by simp) (by omega) (x_isBlock _) (gx_kn ?_) gx_kx
          by_cases hb : gs_isB (gs_sb K (gs_pl s)) = true
          · simp only [r76_0, r76_1, r76_3, r76_6, r76_9, r76_9n, r76_10, r76_13, r76_13n, r76_14, r76_17, r76_20, r76_20n, r76_21, r76_26, r76_26a, r76_26n, r76_27, r76_27n, r76_28, r76_31, r76_31n, r76_32, r76_35, r76_36, r76_37, r76_38, r76_40, r76_43, r76_43n, r76_44, r76_44i, r76_45, r76_48, r76_49, r76_50, r76_53, r76_54, r76_58, r76_61, r76_61n, r76_65, r76_65a, r76_65n, r76_66, r76_69, r76_69n, r76_70, r76_71, r76_72, r76_76, r76_76a, r76_76n, r76_77, r76_80, r76_83, i32_10, reduceIte, gm_cmp1, gm_cmp3, gm_cmp4, gm_kd_sf, gm_ln_sf, gm_sf_1, gm_sf_2, gm_nw_1, gm_nw_2, gm_k_int, gm_k_ref, gm_k_null, gm_k_u, gm_k_long, and_true, true_and, true_or, or_true, or_false, false_or, and_self, or_self, if_true, if_false, List.map_nil, List.map_cons, List.sum_nil, List.sum_cons, Nat.zero_le, Option.toList_some, Option.toList_none, List.cons_append, List.nil_append, ne_eq, not_false_eq_true, not_true_eq_false, nI_1, nI_add, Value.category, Nat.reduceAdd, Nat.reduceMod, Nat.reduceLeDiff, Nat.reduceLT, Nat.reduceEqDiff, Nat.reducePow, Nat.le_refl, Nat.add_left_cancel_iff, Nat.add_eq_left, Nat.left_eq_add, Nat.add_zero, hb]
            have e : gs_rest K rc (m + 1) s = gs_b (gs_blk K) (fun _ => gs_rest K rc m) s := by
              conv => lhs; unfold gs_rest
              rw [if_neg hc, if_neg h78, if_pos hb]
            rw [e]
            refine c76_62 (by simp) A0 (by omega) (x_skipBlock (by omega) R) (fun v h1 q => ?_) (fun _ _ q => q.ber)
            obtain ⟨v, s1, w, ⟨rfl, na⟩, R1, mv, le, co⟩ := q
            refine gm_W.mono ?_ (fun r h' q => gx_P.bnd q w mv le co)
            simp only [r76_0, r76_1, r76_3, r76_6, r76_9, r76_9n, r76_10, r76_13, r76_13n, r76_14, r76_17, r76_20, r76_20n, r76_21, r76_26, r76_26a, r76_26n, r76_27, r76_27n, r76_28, r76_31, r76_31n, r76_32, r76_35, r76_36, r76_37, r76_38, r76_40, r76_43, r76_43n, r76_44, r76_44i, r76_45, r76_48, r76_49, r76_50, r76_53, r76_54, r76_58, r76_61, r76_61n, r76_65, r76_65a, r76_65n, r76_66, r76_69, r76_69n, r76_70, r76_71, r76_72, r76_76, r76_76a, r76_76n, r76_77, r76_80, r76_83, i32_10, reduceIte, gm_cmp1, gm_cmp3, gm_cmp4, gm_kd_sf, gm_ln_sf, gm_sf_1, gm_sf_2, gm_nw_1, gm_nw_2, gm_k_int, gm_k_ref, gm_k_null, gm_k_u, gm_k_long, and_true, true_and, true_or, or_true, or_false, false_or, and_self, or_self, if_true, if_false, List.map_nil, List.map_cons, List.sum_nil, List.sum_cons, Nat.zero_le, Option.toList_some, Option.toList_none, List.cons_append, List.nil_append, ne_eq, not_false_eq_true, not_true_eq_false, nI_1, nI_add, Value.category, Nat.reduceAdd, Nat.reduceMod, Nat.reduceLeDiff, Nat.reduceLT, Nat.reduceEqDiff, Nat.reducePow, Nat.le_refl, Nat.add_left_cancel_iff, Nat.add_eq_left, Nat.left_eq_add, Nat.add_zero]
            exact ih (k + 1) s1 h1 _ (by omega) R1 (fun a z => by have := hF a z; have := mv.1.1; omega)
          · simp only [r76_0, r76_1, r76_3, r76_6, r76_9, r76_9n, r76_10, r76_13, r76_13n, r76_14, r76_17, r76_20, r76_20n, r76_21, r76_26, r76_26a, r76_26n, r76_27, r76_27n, r76_28, r76_31, r76_31n, r76_32, r76_35, r76_36, r76_37, r76_38, r76_40, r76_43, r76_43n, r76_44, r76_44i, r76_45, r76_48, r76_49, r76_50, r76_53, r76_54, r76_58, r76_61, r76_61n, r76_65, r76_65a, r76_65n, r76_66, r76_69, r76_69n, r76_70, r76_71, r76_72, r76_76, r76_76a, r76_76n, r76_77, r76_80, r76_83, i32_10, reduceIte, gm_cmp1, gm_cmp3, gm_cmp4, gm_kd_sf, gm_ln_sf, gm_sf_1, gm_sf_2, gm_nw_1, gm_nw_2, gm_k_int, gm_k_ref, gm_k_null, gm_k_u, gm_k_long, and_true, true_and, true_or, or_true, or_false, false_or, and_self, or_self, if_true, if_false, List.map_nil, List.map_cons, List.sum_nil, List.sum_cons, Nat.zero_le, Option.toList_some, Option.toList_none, List.cons_append, List.nil_append, ne_eq, not_false_eq_true, not_true_eq_false, nI_1, nI_add, Value.category, Nat.reduceAdd, Nat.reduceMod, Nat.reduceLeDiff, Nat.reduceLT, Nat.reduceEqDiff, Nat.reducePow, Nat.le_refl, Nat.add_left_cancel_iff, Nat.add_eq_left, Nat.left_eq_add, Nat.add_zero, hb]
            have e : gs_rest K rc (m + 1) s = gs_b rc (fun _ => gs_rest K rc m) s := by
              conv => lhs; unfold gs_rest
              rw [if_neg hc, if_neg h78, if_neg hb]
            rw [e]
            refine c76_73 (by simp) A0 (by omega) (C (d - 1) h s F G (by omega) R hF) (fun v h1 q => ?_) (fun _ _ q => q.ber)
            obtain ⟨v, s1, w, rfl, R1, mv, le, co⟩ := q
            refine gm_W.mono ?_ (fun r h' q => gx_P.bnd q w mv le co)
            simp only [r76_0, r76_1, r76_3, r76_6, r76_9, r76_9n, r76_10, r76_13, r76_13n, r76_14, r76_17, r76_20, r76_20n, r76_21, r76_26, r76_26a, r76_26n, r76_27, r76_27n, r76_28, r76_31, r76_31n, r76_32, r76_35, r76_36, r76_37, r76_38, r76_40, r76_43, r76_43n, r76_44, r76_44i, r76_45, r76_48, r76_49, r76_50, r76_53, r76_54, r76_58, r76_61, r76_61n, r76_65, r76_65a, r76_65n, r76_66, r76_69, r76_69n, r76_70, r76_71, r76_72, r76_76, r76_76a, r76_76n, r76_77, r76_80, r76_83, i32_10, reduceIte, gm_cmp1, gm_cmp3, gm_cmp4, gm_kd_sf, gm_ln_sf, gm_sf_1, gm_sf_2, gm_nw_1, gm_nw_2, gm_k_int, gm_k_ref, gm_k_null, gm_k_u, gm_k_long, and_true, true_and, true_or, or_true, or_false, false_or, and_self, or_self, if_true, if_false, List.map_nil, List.map_cons, List.sum_nil, List.sum_cons, Nat.zero_le, Option.toList_some, Option.toList_none, List.cons_append, List.nil_append, ne_eq, not_false_eq_true, not_true_eq_false, nI_1, nI_add, Value.category, Nat.reduceAdd, Nat.reduceMod, Nat.reduceLeDiff, Nat.reduceLT, Nat.reduceEqDiff, Nat.reducePow, Nat.le_refl, Nat.add_left_cancel_iff, Nat.add_eq_left, Nat.left_eq_add, Nat.add_zero]
            exact ih (k + 1) s1 h1 _ (by omega) R1 (fun a z => by have := hF a z; have := mv.1.1; omega)
  show gm_W E d 76 0 [.ref x, .int (nI dp), gm_u, gm_u] [] h _
  simp only [r76_0, r76_1, r76_3, r76_6, r76_9, r76_9n, r76_10, r76_13, r76_13n, r76_14, r76_17, r76_20, r76_20n, r76_21, r76_26, r76_26a, r76_26n, r76_27, r76_27n, r76_28, r76_31, r76_31n, r76_32, r76_35, r76_36, r76_37, r76_38, r76_40, r76_43, r76_43n, r76_44, r76_44i, r76_45, r76_48, r76_49, r76_50, r76_53, r76_54, r76_58, r76_61, r76_61n, r76_65, r76_65a, r76_65n, r76_66, r76_69, r76_69n, r76_70, r76_71, r76_72, r76_76, r76_76a, r76_76n, r76_77, r76_80, r76_83, i32_10, reduceIte, gm_cmp1, gm_cmp3, gm_cmp4, gm_kd_sf, gm_ln_sf, gm_sf_1, gm_sf_2, gm_nw_1, gm_nw_2, gm_k_int, gm_k_ref, gm_k_null, gm_k_u, gm_k_long, and_true, true_and, true_or, or_true, or_false, false_or, and_self, or_self, if_true, if_false, List.map_nil, List.map_cons, List.sum_nil, List.sum_cons, Nat.zero_le, Option.toList_some, Option.toList_none, List.cons_append, List.nil_append, ne_eq, not_false_eq_true, not_true_eq_false, nI_1, nI_add, Value.category, Nat.reduceAdd, Nat.reduceMod, Nat.reduceLeDiff, Nat.reduceLT, Nat.reduceEqDiff, Nat.reducePow, Nat.le_refl, Nat.add_left_cancel_iff, Nat.add_eq_left, Nat.left_eq_add, Nat.add_zero]
  exact loop 701 0 s h gm_u (by omega) R hF
theorem i2c_b : ∀ b, b < 256 → ((nI b).toUInt32 % 65536).toInt32 = nI b := by decide +kernel
theorem gs_ty_of (b : Nat) : (gs_types.findIdx? (· == nI b) = none ∧ gs_tyi b = -1) ∨ ∃ t, t < 8 ∧ gs_types.findIdx? (· == nI b) = some t ∧ gs_tyi b = nI t := by
  unfold gs_tyi
  cases e : gs_types.findIdx? (· == nI b) with
  | none => exact Or.inl ⟨rfl, rfl⟩
  | some t =>
    refine Or.inr ⟨t, ?_, rfl, rfl⟩
    rw [List.findIdx?_eq_some_iff_getElem] at e
    exact e.1
end Y2
/-! THE CLASS, 12: a descriptor's fields. -/
/-- the fields laid into the descriptor at a, names at u, types at w -/
def gx_lp (h h' : gm_H) (a u w n : Nat) (fs : List (Int32 × Int32)) : Prop := gm_kd h' a = 1 ∧ (∀ k, k ≠ 4 → k ≠ 5 → k ≠ 6 → gm_fv h' a k = gm_fv h a k) ∧ gm_fv h' a 4 = .int (nI n) ∧ gm_fv h' a 5 = .ref u ∧ gm_fv h' a 6 = .ref w ∧ gm_kd h' u = 100 ∧ gm_ln h' u = n ∧ gm_kd h' w = 100 ∧ gm_ln h' w = n
  ∧ ∀ (j : Nat) (q : Int32 × Int32), fs[j]? = some q → gm_fv h' u j = .int q.1 ∧ gm_fv h' w j = .int q.2 ∧ 0 ≤ q.2 ∧ q.2 < 8
section Y3
variable {E : Nat → Value} {d x d0 dp : Nat} {h : gm_H} {ca : Nat → Nat} {K : gs_K} {F G : Nat → Prop} {s : gs_S} {rc : gs_M Int32}
theorem gx_lp.tr {h1 h2 : gm_H} {a u w n : Nat} {fs : List (Int32 × Int32)} (p : gx_lp h h1 a u w n fs) (ea : gm_rd h2 a = gm_rd h1 a) (eu : gm_rd h2 u = gm_rd h1 u) (ew : gm_rd h2 w = gm_rd h1 w) : gx_lp h h2 a u w n fs := by
  unfold gx_lp at p ⊢
  simp only [gv_kd ea, gv_fv ea, gv_kd eu, gv_ln eu, gv_fv eu, gv_kd ew, gv_ln ew, gv_fv ew]
  exact p
theorem x_readStreamFields {a : Nat} {fl : Int32} (C : gx_RC E x ca K d0 (dp + 1) rc) (hd : d0 + 1 ≤ d) (hd5 : 5 ≤ d) (R : gx_R E h x ca K F s) (hF : ∀ b, F b → b < h.1) (ka : gm_kd h a = 1) (f3 : gm_fv h a 3 = .int fl) (hFa : F a) (hx : x + 6 < a) (hG : G a) :
    gm_Ca E d 99 [.ref x, .ref a, .int (nI dp)] h (gx_P E h x ca K F G s (fun fs h' v => v = none ∧ fs.length ≤ 8 ∧ ∃ u w, (h.1 ≤ u ∧ u < h'.1 ∧ h.1 ≤ w ∧ w < h'.1) ∧ gx_lp h h' a u w fs.length fs) (gs_strm K rc fl s)) := by
  have hah := hF a hFa
  show gm_W E d 99 0 [.ref x, .ref a, .int (nI dp), gm_u, gm_u, gm_u, gm_u] [] h _
  simp only [r99_0, r99_0n, r99_1, r99_5, r99_6, r99_7, r99_8, r99_10, r99_13, r99_13n, r99_14, r99_19, r99_19a, r99_19n, r99_20, r99_20n, r99_21, r99_25, r99_26, r99_28, r99_30, r99_31, r99_34, r99_37, r99_37n, r99_41, r99_45, r99_47, r99_49, r99_52, r99_52n, r99_53, r99_58, r99_58a, r99_58n, r99_59, r99_59n, r99_63, r99_65, r99_65n, r99_66, r99_69, r99_71, r99_73, r99_74, r99_74n, r99_75, r99_78, r99_80, r99_80n, r99_81, r99_83, r99_83n, r99_84, r99_87, r99_89, r99_90, r99_92, r99_97, r99_98, r99_100, r99_102, r99_105, r99_105n, r99_106, r99_106n, r99_107, r99_108, r99_109, r99_116, r99_119, r99_119n, r99_120, r99_125, r99_125a, r99_125n, r99_126, r99_129, r99_132, r99_132n, r99_136, r99_139, r99_140, r99_143, r99_143n, r99_144, r99_149, r99_149a, r99_149n, r99_150, i32_10, reduceIte, gm_cmp1, gm_cmp3, gm_cmp4, gm_kd_sf, gm_ln_sf, gm_sf_1, gm_sf_2, gm_nw_1, gm_nw_2, gm_k_int, gm_k_ref, gm_k_null, gm_k_u, gm_k_long, and_true, true_and, true_or, or_true, or_false, false_or, and_self, or_self, if_true, if_false, List.map_nil, List.map_cons, List.sum_nil, List.sum_cons, Nat.zero_le, Option.toList_some, Option.toList_none, List.cons_append, List.nil_append, ne_eq, not_false_eq_true, not_true_eq_false, nI_1, nI_add, Value.category, Nat.reduceAdd, Nat.reduceMod, Nat.reduceLeDiff, Nat.reduceLT, Nat.reduceEqDiff, Nat.reducePow, Nat.le_refl, Nat.add_left_cancel_iff, Nat.add_eq_left, Nat.left_eq_add, Nat.add_zero]
  refine c99_2 (by simp) R.1.1 (by omega) (x_nextNumber (G := fun _ => False) (z := 2) (by omega) R (by decide)) (fun v h1 q => ?_) (fun _ _ q => (q.wk (fun _ z => z.elim)).ber)
  obtain ⟨c, s1, e, ⟨rfl, na⟩, R1, mv, le, co⟩ := q
  obtain ⟨ec, es1⟩ := gs_nxt_eq e
  obtain ⟨n, hn, en⟩ := gs_num2 (K := K) (a := gs_pl s)
  rw [← ec] at en
  unfold gs_strm
  rw [gs_b_ok e, en, nI_clamp (show n < 2 ^ 31 by omega)]
  have mv1 : gx_mv h h1 x G s := mv.wk (fun _ z => z.elim)
  have st1 : gx_st h s x G h1 s1 := ⟨mv1, le, co⟩
  have era : gm_rd h1 a = gm_rd h a := mv.1.2 a ⟨Or.inr hx, hah, fun z => z⟩
  have k1 : gm_kd h1 a = 1 := (gv_kd era).trans ka
  by_cases h8 : 8 < n
  · have e8 : (8 : Int32) < nI n := nI_lt (a := 8) h8 (by omega)
    have e8' : ¬ nI n ≤ 8 := nI_ge (a := 8) h8 (by omega)
    rw [if_pos e8]
    simp only [r99_0, r99_0n, r99_1, r99_5, r99_6, r99_7, r99_8, r99_10, r99_13, r99_13n, r99_14, r99_19, r99_19a, r99_19n, r99_20, r99_20n, r99_21, r99_25, r99_26, r99_28, r99_30, r99_31, r99_34, r99_37, r99_37n, r99_41, r99_45, r99_47, r99_49, r99_52, r99_52n, r99_53, r99_58, r99_58a, r99_58n, r99_59, r99_59n, r99_63, r99_65, r99_65n, r99_66, r99_69, r99_71, r99_73, r99_74, r99_74n, r99_75, r99_78, r99_80, r99_80n, r99_81, r99_83, r99_83n, r99_84, r99_87, r99_89, r99_90, r99_92, r99_97, r99_98, r99_100, r99_102, r99_105, r99_105n, r99_106, r99_106n, r99_107, r99_108, r99_109, r99_116, r99_119, r99_119n, r99_120, r99_125, r99_125a, r99_125n, r99_126, r99_129, r99_132, r99_132n, r99_136, r99_139, r99_140, r99_143, r99_143n, r99_144, r99_149, r99_149a, r99_149n, r99_150, i32_10, reduceIte, gm_cmp1, gm_cmp3, gm_cmp4, gm_kd_sf, gm_ln_sf, gm_sf_1, gm_sf_2, gm_nw_1, gm_nw_2, gm_k_int, gm_k_ref, gm_k_null, gm_k_u, gm_k_long, and_true, true_and, true_or, or_true, or_false, false_or, and_self, or_self, if_true, if_false, List.map_nil, List.map_cons, List.sum_nil, List.sum_cons, Nat.zero_le, Option.toList_some, Option.toList_none, List.cons_append, List.nil_append, ne_eq, not_false_eq_true, not_true_eq_false, nI_1, nI_add, Value.category, Nat.reduceAdd, Nat.reduceMod, Nat.reduceLeDiff, Nat.reduceLT, Nat.reduceEqDiff, Nat.reducePow, Nat.le_refl, Nat.add_left_cancel_iff, Nat.add_eq_left, Nat.left_eq_add, Nat.add_zero, en, e8']
    exact c99_16 (by simp) R1.1.1 (by omega) (x_fail R1) gx_fn (fun _ _ q => q.frm st1)
  have e8 : ¬ (8 : Int32) < nI n := nI_nlt (b := n) (a := 8) (by omega) (by decide)
  have e8' : nI n ≤ 8 := nI_le (b := 8) (by omega) (by decide)
  rw [if_neg e8]
  simp only [r99_0, r99_0n, r99_1, r99_5, r99_6, r99_7, r99_8, r99_10, r99_13, r99_13n, r99_14, r99_19, r99_19a, r99_19n, r99_20, r99_20n, r99_21, r99_25, r99_26, r99_28, r99_30, r99_31, r99_34, r99_37, r99_37n, r99_41, r99_45, r99_47, r99_49, r99_52, r99_52n, r99_53, r99_58, r99_58a, r99_58n, r99_59, r99_59n, r99_63, r99_65, r99_65n, r99_66, r99_69, r99_71, r99_73, r99_74, r99_74n, r99_75, r99_78, r99_80, r99_80n, r99_81, r99_83, r99_83n, r99_84, r99_87, r99_89, r99_90, r99_92, r99_97, r99_98, r99_100, r99_102, r99_105, r99_105n, r99_106, r99_106n, r99_107, r99_108, r99_109, r99_116, r99_119, r99_119n, r99_120, r99_125, r99_125a, r99_125n, r99_126, r99_129, r99_132, r99_132n, r99_136, r99_139, r99_140, r99_143, r99_143n, r99_144, r99_149, r99_149a, r99_149n, r99_150, i32_10, reduceIte, gm_cmp1, gm_cmp3, gm_cmp4, gm_kd_sf, gm_ln_sf, gm_sf_1, gm_sf_2, gm_nw_1, gm_nw_2, gm_k_int, gm_k_ref, gm_k_null, gm_k_u, gm_k_long, and_true, true_and, true_or, or_true, or_false, false_or, and_self, or_self, if_true, if_false, List.map_nil, List.map_cons, List.sum_nil, List.sum_cons, Nat.zero_le, Option.toList_some, Option.toList_none, List.cons_append, List.nil_append, ne_eq, not_false_eq_true, not_true_eq_false, nI_1, nI_add, Value.category, Nat.reduceAdd, Nat.reduceMod, Nat.reduceLeDiff, Nat.reduceLT, Nat.reduceEqDiff, Nat.reducePow, Nat.le_refl, Nat.add_left_cancel_iff, Nat.add_eq_left, Nat.left_eq_add, Nat.add_zero, en, e8']
  refine c99_22 (by simp) k1 (by omega) (x_makeFields k1 (by have := mv.1.1; omega) (by omega)) (gx_kn ?_) gx_kx
  have ht1 := R1.top
  have hah1 : a < h1.1 := by have := mv.1.1; omega
  generalize e2 : gm_sf (gm_nw (gm_sf (gm_nw (gm_sf h1 a 4 (.int (nI n))) (100, List.replicate n (.int 0)) n) a 5 (.ref h1.1)) (100, List.replicate n (.int 0)) n) a 6 (.ref (h1.1 + 1)) = h2
  have c2 : h2.1 = h1.1 + 2 ∧ h2.2.1 = h1.2.1 + n + n := by rw [← e2]; simp only [gm_sf_1, gm_sf_2, gm_nw_1, gm_nw_2, and_self]
  have r2 : ∀ b, b < h1.1 → b ≠ a → gm_rd h2 b = gm_rd h1 b := by
    intro b hb hba
    rw [← e2, gm_rd_sfn hba, gm_rd_nwn (by simp only [gm_sf_1, gm_nw_1]; omega), gm_rd_sfn hba, gm_rd_nwn (by simp only [gm_sf_1]; omega), gm_rd_sfn hba]
  obtain ⟨u, hu⟩ : ∃ u, u = h1.1 := ⟨_, rfl⟩
  obtain ⟨w, hw⟩ : ∃ w, w = h1.1 + 1 := ⟨_, rfl⟩
  have lp2 : gx_lp h h2 a u w n [] := by
    have la : gm_ln h1 a = 10 := gm_kd_ln k1 (by decide)
    have n1 : a ≠ (gm_sf h1 a 4 (.int (nI n))).1 := by rw [gm_sf_1]; omega
    have n2 : a ≠ (gm_sf (gm_nw (gm_sf h1 a 4 (.int (nI n))) (100, List.replicate n (.int 0)) n) a 5 (.ref h1.1)).1 := by simp only [gm_sf_1, gm_nw_1]; omega
    have wa : w ≠ a := by omega
    have ua : u ≠ a := by omega
    have un2 : u ≠ (gm_sf (gm_nw (gm_sf h1 a 4 (.int (nI n))) (100, List.replicate n (.int 0)) n) a 5 (.ref h1.1)).1 := by simp only [gm_sf_1, gm_nw_1]; omega
    have wn2 : w = (gm_sf (gm_nw (gm_sf h1 a 4 (.int (nI n))) (100, List.replicate n (.int 0)) n) a 5 (.ref h1.1)).1 := by simp only [gm_sf_1, gm_nw_1]; omega
    have un1 : u = (gm_sf h1 a 4 (.int (nI n))).1 := by simp only [gm_sf_1]; omega
    rw [← e2]
    refine ⟨?_, fun k h4 h5 h6 => ?_, ?_, ?_, ?_, ?_, ?_, ?_, ?_, fun j q hj => by simp at hj⟩
    · rw [gm_kd_sf, gm_kd_nw n2, gm_kd_sf, gm_kd_nw n1, gm_kd_sf]; exact k1
    · rw [gm_fv_sfj h6, gm_fv_nw n2, gm_fv_sfj h5, gm_fv_nw n1, gm_fv_sfj h4]; exact gv_fv era
    · rw [gm_fv_sfj (by decide), gm_fv_nw n2, gm_fv_sfj (by decide), gm_fv_nw n1, gm_fv_sf (by rw [la]; decide)]
    · rw [gm_fv_sfj (by decide), gm_fv_nw n2, gm_fv_sf (by rw [gm_ln_nw n1, gm_ln_sf, la]; decide), hu]
    · rw [gm_fv_sf (by rw [gm_ln_nw n2, gm_ln_sf, gm_ln_nw n1, gm_ln_sf, la]; decide), hw]
    · rw [gm_kd_sf, gm_kd_nw un2, gm_kd_sf, un1, gm_kd_nw1]; rfl
    · rw [gm_ln_sf, gm_ln_nw un2, gm_ln_sf, un1, gm_ln_nw1]; simp
    · rw [gm_kd_sf, wn2, gm_kd_nw1]; rfl
    · rw [gm_ln_sf, wn2, gm_ln_nw1]; simp
  clear e2
  obtain ⟨F', hF'⟩ : ∃ F' : Nat → Prop, F' = fun b => F b ∨ b = u ∨ b = w := ⟨_, rfl⟩
  have R2 : gx_R E h2 x ca K F' s1 := by
    have q : gx_R E h1 x ca K F' s1 := R1.wk (fun b z => by
      rw [hF'] at z
      rcases z with z | z | z
      · exact Or.inr z
      · left; omega
      · left; omega)
    have hFa' : F' a := by rw [hF']; exact Or.inl hFa
    have g : gx_ag h1 h2 x F' := ⟨by omega, fun b o => r2 b o.2.1 (fun z => o.2.2 (z ▸ hFa'))⟩
    have ro : ∀ i, i ≤ 6 → gm_rd h2 (x + i) = gm_rd h1 (x + i) := fun i hi => r2 _ (by omega) (by omega)
    have r0 := ro 0 (by decide)
    rw [Nat.add_zero] at r0
    refine q.own g ?_ ?_ (fun c _ => gv_fv (ro 1 (by decide))) ?_ (fun i _ => gv_fv (ro 3 (by decide))) (fun i _ => ⟨gv_fv (ro 5 (by decide)), gv_fv (ro 6 (by decide))⟩) rfl rfl
    · have z := q.1
      unfold gx_A at z ⊢
      simp only [gv_kd r0, gv_fv r0, gv_kd (ro 1 (by decide)), gv_ln (ro 1 (by decide)), gv_kd (ro 2 (by decide)), gv_ln (ro 2 (by decide)), gv_kd (ro 3 (by decide)), gv_ln (ro 3 (by decide)), gv_kd (ro 4 (by decide)), gv_fv (ro 4 (by decide)), gv_kd (ro 5 (by decide)), gv_ln (ro 5 (by decide)), gv_kd (ro 6 (by decide)), gv_ln (ro 6 (by decide))]
      obtain ⟨z1, z2, z3, z4, z5, z6, z7, z8, z9, z10, z11, z12, z13, z14, z15, z16, z17, z18, z19⟩ := z
      exact ⟨z1, z2, z3, z4, z5, z6, z7, z8, z9, z10, z11, z12, z13, z14, z15, z16, z17, z18, by omega⟩
    · have z := q.2.1
      unfold gx_B at z ⊢
      simp only [gv_fv r0, gv_fv (ro 2 (by decide))]
      exact z
    · have z := q.2.2.2.1
      unfold gx_M at z ⊢
      simp only [gv_fv r0, gv_fv (ro 4 (by decide))]
      exact z
  have st2 : gx_st h s x G h2 s1 := by
    have mv2 : gx_mv h1 h2 x G s1 := ⟨⟨by omega, fun b o => r2 b o.2.1 (fun z => o.2.2 (z ▸ hG))⟩, fun c => gv_fv (r2 _ (by omega) (by omega)), gv_fv (r2 _ (by omega) (by omega)), fun i _ => gv_fv (r2 _ (by omega) (by omega)), fun i _ => ⟨gv_fv (r2 _ (by omega) (by omega)), gv_fv (r2 _ (by omega) (by omega))⟩⟩
    refine ⟨mv1.trans mv2 le (fun _ z => Or.inr z), le, ?_⟩
    have m1 := na.1
    have m2 := na.2
    have p1 : gs_pl s1 = gs_pl s + 2 := by rw [es1]; rfl
    unfold gx_co
    omega
  have hF2 : ∀ b, F' b → b < h2.1 := by
    intro b z
    rw [hF'] at z
    rcases z with z | z | z
    · have := hF b z; have := mv.1.1; omega
    · omega
    · omega
  have hh1 : h.1 ≤ h1.1 := mv.1.1
  have P0 : gx_P E h x ca K F G s (fun (fs : List (Int32 × Int32)) h' v => v = none ∧ fs.length ≤ 8 ∧ ∃ u w, (h.1 ≤ u ∧ u < h'.1 ∧ h.1 ≤ w ∧ w < h'.1) ∧ gx_lp h h' a u w fs.length fs) (.ok ([], s)) = gx_P E h x ca K F G s (fun (fs : List (Int32 × Int32)) h' v => v = none ∧ fs.length ≤ 8 ∧ ∃ u w, (h.1 ≤ u ∧ u < h'.1 ∧ h.1 ≤ w ∧ w < h'.1) ∧ gx_lp h h' a u w fs.length fs) (.ok ([], s)) := rfl
  clear P0
  have loop : ∀ (m k : Nat) (fs : List (Int32 × Int32)) (sk : gs_S) (hk : gm_H) (w5 w6 : Value), k + m = n → fs.length = k → gx_R E hk x ca K F' sk → (∀ b, F' b → b < hk.1) → gx_st h s x G hk sk → gx_lp h hk a u w n fs →
      gm_W E d 99 28 [.ref x, .ref a, .int (nI dp), .int (nI n), .int (nI k), w5, w6] [] hk (gx_P E h x ca K F G s (fun fs h' v => v = none ∧ fs.length ≤ 8 ∧ ∃ u w, (h.1 ≤ u ∧ u < h'.1 ∧ h.1 ≤ w ∧ w < h'.1) ∧ gx_lp h h' a u w fs.length fs) (gs_b (gs_flds K rc m fs) (fun fs => if fl &&& 16 ≠ 0 ∧ 0 < nI n then gs_x (-5) else gs_r fs) sk)) := by
    intro m
    induction m with
    | zero =>
      intro k fs sk hk w5 w6 hkm hfs Rk hFk stk lp
      have hkm : k = n := by omega
      subst hkm
      have l1 := lp
      obtain ⟨q1, q2, q3, q4, q5, q6, q7, q8, q9, q10⟩ := l1
      have f3k : gm_fv hk a 3 = .int fl := (q2 3 (by decide) (by decide) (by decide)).trans f3
      simp only [r99_0, r99_0n, r99_1, r99_5, r99_6, r99_7, r99_8, r99_10, r99_13, r99_13n, r99_14, r99_19, r99_19a, r99_19n, r99_20, r99_20n, r99_21, r99_25, r99_26, r99_28, r99_30, r99_31, r99_34, r99_37, r99_37n, r99_41, r99_45, r99_47, r99_49, r99_52, r99_52n, r99_53, r99_58, r99_58a, r99_58n, r99_59, r99_59n, r99_63, r99_65, r99_65n, r99_66, r99_69, r99_71, r99_73, r99_74, r99_74n, r99_75, r99_78, r99_80, r99_80n, r99_81, r99_83, r99_83n, r99_84, r99_87, r99_89, r99_90, r99_92, r99_97, r99_98, r99_100, r99_102, r99_105, r99_105n, r99_106, r99_106n, r99_107, r99_108, r99_109, r99_116, r99_119, r99_119n, r99_120, r99_125, r99_125a, r99_125n, r99_126, r99_129, r99_132, r99_132n, r99_136, r99_139, r99_140, r99_143, r99_143n, r99_144, r99_149, r99_149a, r99_149n, r99_150, i32_10, reduceIte, gm_cmp1, gm_cmp3, gm_cmp4, gm_kd_sf, gm_ln_sf, gm_sf_1, gm_sf_2, gm_nw_1, gm_nw_2, gm_k_int, gm_k_ref, gm_k_null, gm_k_u, gm_k_long, and_true, true_and, true_or, or_true, or_false, false_or, and_self, or_self, if_true, if_false, List.map_nil, List.map_cons, List.sum_nil, List.sum_cons, Nat.zero_le, Option.toList_some, Option.toList_none, List.cons_append, List.nil_append, ne_eq, not_false_eq_true, not_true_eq_false, nI_1, nI_add, Value.category, Nat.reduceAdd, Nat.reduceMod, Nat.reduceLeDiff, Nat.reduceLT, Nat.reduceEqDiff, Nat.reducePow, Nat.le_refl, Nat.add_left_cancel_iff, Nat.add_eq_left, Nat.left_eq_add, Nat.add_zero, nI_leT (Nat.le_refl k) (show k < 2 ^ 31 by omega)]
      refine c99_133 (by simp) q1 (by omega) (x_isConstant (by omega) q1 f3k) (gx_kn ?_) gx_kx
      have Rf : gx_R E hk x ca K F sk := Rk.wk (fun b z => Or.inr (by rw [hF']; exact Or.inl z))
      have fin : gx_P E h x ca K F G s (fun (fs : List (Int32 × Int32)) h' v => v = none ∧ fs.length ≤ 8 ∧ ∃ u w, (h.1 ≤ u ∧ u < h'.1 ∧ h.1 ≤ w ∧ w < h'.1) ∧ gx_lp h h' a u w fs.length fs) (.ok (fs, sk)) (.inl none) hk :=
        ⟨fs, sk, rfl, ⟨rfl, by omega, u, w, ⟨by omega, hFk u (by rw [hF']; exact Or.inr (Or.inl rfl)), by omega, hFk w (by rw [hF']; exact Or.inr (Or.inr rfl))⟩, by rw [hfs]; exact lp⟩, Rf, stk.1, stk.2.1, stk.2.2⟩
      have eb : ∀ (f : List (Int32 × Int32) → gs_M (List (Int32 × Int32))), gs_b (gs_flds K rc 0 fs) f sk = f fs sk := fun f => rfl
      rw [eb]
      by_cases h16 : fl &&& 16 = 0
      · have : ¬ (fl &&& 16 ≠ 0 ∧ 0 < nI k) := fun z => z.1 h16
        rw [if_neg this]
        simp only [r99_0, r99_0n, r99_1, r99_5, r99_6, r99_7, r99_8, r99_10, r99_13, r99_13n, r99_14, r99_19, r99_19a, r99_19n, r99_20, r99_20n, r99_21, r99_25, r99_26, r99_28, r99_30, r99_31, r99_34, r99_37, r99_37n, r99_41, r99_45, r99_47, r99_49, r99_52, r99_52n, r99_53, r99_58, r99_58a, r99_58n, r99_59, r99_59n, r99_63, r99_65, r99_65n, r99_66, r99_69, r99_71, r99_73, r99_74, r99_74n, r99_75, r99_78, r99_80, r99_80n, r99_81, r99_83, r99_83n, r99_84, r99_87, r99_89, r99_90, r99_92, r99_97, r99_98, r99_100, r99_102, r99_105, r99_105n, r99_106, r99_106n, r99_107, r99_108, r99_109, r99_116, r99_119, r99_119n, r99_120, r99_125, r99_125a, r99_125n, r99_126, r99_129, r99_132, r99_132n, r99_136, r99_139, r99_140, r99_143, r99_143n, r99_144, r99_149, r99_149a, r99_149n, r99_150, i32_10, reduceIte, gm_cmp1, gm_cmp3, gm_cmp4, gm_kd_sf, gm_ln_sf, gm_sf_1, gm_sf_2, gm_nw_1, gm_nw_2, gm_k_int, gm_k_ref, gm_k_null, gm_k_u, gm_k_long, and_true, true_and, true_or, or_true, or_false, false_or, and_self, or_self, if_true, if_false, List.map_nil, List.map_cons, List.sum_nil, List.sum_cons, Nat.zero_le, Option.toList_some, Option.toList_none, List.cons_append, List.nil_append, ne_eq, not_false_eq_true, not_true_eq_false, nI_1, nI_add, Value.category, Nat.reduceAdd, Nat.reduceMod, Nat.reduceLeDiff, Nat.reduceLT, Nat.reduceEqDiff, Nat.reducePow, Nat.le_refl, Nat.add_left_cancel_iff, Nat.add_eq_left, Nat.left_eq_add, Nat.add_zero, h16]
        exact fin
      · by_cases hk0 : k = 0
        · subst hk0
          have : ¬ (fl &&& 16 ≠ 0 ∧ 0 < nI 0) := fun z => absurd z.2 (by decide)
          rw [if_neg this]
          have l0 : nI 0 ≤ 0 := by decide
          simp only [r99_0, r99_0n, r99_1, r99_5, r99_6, r99_7, r99_8, r99_10, r99_13, r99_13n, r99_14, r99_19, r99_19a, r99_19n, r99_20, r99_20n, r99_21, r99_25, r99_26, r99_28, r99_30, r99_31, r99_34, r99_37, r99_37n, r99_41, r99_45, r99_47, r99_49, r99_52, r99_52n, r99_53, r99_58, r99_58a, r99_58n, r99_59, r99_59n, r99_63, r99_65, r99_65n, r99_66, r99_69, r99_71, r99_73, r99_74, r99_74n, r99_75, r99_78, r99_80, r99_80n, r99_81, r99_83, r99_83n, r99_84, r99_87, r99_89, r99_90, r99_92, r99_97, r99_98, r99_100, r99_102, r99_105, r99_105n, r99_106, r99_106n, r99_107, r99_108, r99_109, r99_116, r99_119, r99_119n, r99_120, r99_125, r99_125a, r99_125n, r99_126, r99_129, r99_132, r99_132n, r99_136, r99_139, r99_140, r99_143, r99_143n, r99_144, r99_149, r99_149a, r99_149n, r99_150, i32_10, reduceIte, gm_cmp1, gm_cmp3, gm_cmp4, gm_kd_sf, gm_ln_sf, gm_sf_1, gm_sf_2, gm_nw_1, gm_nw_2, gm_k_int, gm_k_ref, gm_k_null, gm_k_u, gm_k_long, and_true, true_and, true_or, or_true, or_false, false_or, and_self, or_self, if_true, if_false, List.map_nil, List.map_cons, List.sum_nil, List.sum_cons, Nat.zero_le, Option.toList_some, Option.toList_none, List.cons_append, List.nil_append, ne_eq, not_false_eq_true, not_true_eq_false, nI_1, nI_add, Value.category, Nat.reduceAdd, Nat.reduceMod, Nat.reduceLeDiff, Nat.reduceLT, Nat.reduceEqDiff, Nat.reducePow, Nat.le_refl, Nat.add_left_cancel_iff, Nat.add_eq_left, Nat.left_eq_add, Nat.add_zero, h16, l0]
          exact fin
        · have kp : 0 < nI k := nI_lt (a := 0) (by omega) (by omega)
          have kp' : ¬ nI k ≤ 0 := nI_ge (a := 0) (by omega) (by omega)
          rw [if_pos (show fl &&& 16 ≠ 0 ∧ 0 < nI k from ⟨h16, kp⟩)]
          simp only [r99_0, r99_0n, r99_1, r99_5, r99_6, r99_7, r99_8, r99_10, r99_13, r99_13n, r99_14, r99_19, r99_19a, r99_19n, r99_20, r99_20n, r99_21, r99_25, r99_26, r99_28, r99_30, r99_31, r99_34, r99_37, r99_37n, r99_41, r99_45, r99_47, r99_49, r99_52, r99_52n, r99_53, r99_58, r99_58a, r99_58n, r99_59, r99_59n, r99_63, r99_65, r99_65n, r99_66, r99_69, r99_71, r99_73, r99_74, r99_74n, r99_75, r99_78, r99_80, r99_80n, r99_81, r99_83, r99_83n, r99_84, r99_87, r99_89, r99_90, r99_92, r99_97, r99_98, r99_100, r99_102, r99_105, r99_105n, r99_106, r99_106n, r99_107, r99_108, r99_109, r99_116, r99_119, r99_119n, r99_120, r99_125, r99_125a, r99_125n, r99_126, r99_129, r99_132, r99_132n, r99_136, r99_139, r99_140, r99_143, r99_143n, r99_144, r99_149, r99_149a, r99_149n, r99_150, i32_10, reduceIte, gm_cmp1, gm_cmp3, gm_cmp4, gm_kd_sf, gm_ln_sf, gm_sf_1, gm_sf_2, gm_nw_1, gm_nw_2, gm_k_int, gm_k_ref, gm_k_null, gm_k_u, gm_k_long, and_true, true_and, true_or, or_true, or_false, false_or, and_self, or_self, if_true, if_false, List.map_nil, List.map_cons, List.sum_nil, List.sum_cons, Nat.zero_le, Option.toList_some, Option.toList_none, List.cons_append, List.nil_append, ne_eq, not_false_eq_true, not_true_eq_false, nI_1, nI_add, Value.category, Nat.reduceAdd, Nat.reduceMod, Nat.reduceLeDiff, Nat.reduceLT, Nat.reduceEqDiff, Nat.reducePow, Nat.le_refl, Nat.add_left_cancel_iff, Nat.add_eq_left, Nat.left_eq_add, Nat.add_zero, h16, kp']
          exact c99_146 (by simp) Rf.1.1 (by omega) (x_fail Rf) gx_fn (fun _ _ q => q.frm stk)
    | succ m ih =>
      intro k fs sk hk w5 w6 hkm hfs Rk hFk stk lp
      obtain ⟨-, -, g⟩ := Rk.2.2.1.1.1
      obtain ⟨sa, sv, ea, -, -, ks, -⟩ := g 0 (by decide)
      have ea : E 2 = .ref sa := ea
      have hkn : k < n := by omega
      obtain ⟨res, hres⟩ : ∃ res, res = gs_b (gs_flds K rc (m + 1) fs) (fun fs => if fl &&& 16 ≠ 0 ∧ 0 < nI n then gs_x (-5) else gs_r fs) sk := ⟨_, rfl⟩
      rw [← hres]
      rw [r99_28]
      simp only [r99_0, r99_0n, r99_1, r99_5, r99_6, r99_7, r99_8, r99_10, r99_13, r99_13n, r99_14, r99_19, r99_19a, r99_19n, r99_20, r99_20n, r99_21, r99_25, r99_26, r99_30, r99_31, r99_34, r99_37, r99_37n, r99_41, r99_45, r99_47, r99_49, r99_52, r99_52n, r99_53, r99_58, r99_58a, r99_58n, r99_59, r99_59n, r99_63, r99_65, r99_65n, r99_66, r99_69, r99_71, r99_73, r99_74, r99_74n, r99_75, r99_78, r99_80, r99_80n, r99_81, r99_83, r99_83n, r99_84, r99_87, r99_89, r99_90, r99_92, r99_97, r99_98, r99_100, r99_102, r99_105, r99_105n, r99_106, r99_106n, r99_107, r99_108, r99_109, r99_116, r99_119, r99_119n, r99_120, r99_125, r99_125a, r99_125n, r99_126, r99_129, r99_132, r99_132n, r99_136, r99_139, r99_140, r99_143, r99_143n, r99_144, r99_149, r99_149a, r99_149n, r99_150, i32_10, reduceIte, gm_cmp1, gm_cmp3, gm_cmp4, gm_kd_sf, gm_ln_sf, gm_sf_1, gm_sf_2, gm_nw_1, gm_nw_2, gm_k_int, gm_k_ref, gm_k_null, gm_k_u, gm_k_long, and_true, true_and, true_or, or_true, or_false, false_or, and_self, or_self, if_true, if_false, List.map_nil, List.map_cons, List.sum_nil, List.sum_cons, Nat.zero_le, Option.toList_some, Option.toList_none, List.cons_append, List.nil_append, ne_eq, not_false_eq_true, not_true_eq_false, nI_1, nI_add, Value.category, Nat.reduceAdd, Nat.reduceMod, Nat.reduceLeDiff, Nat.reduceLT, Nat.reduceEqDiff, Nat.reducePow, Nat.le_refl, Nat.add_left_cancel_iff, Nat.add_eq_left, Nat.left_eq_add, Nat.add_zero, nI_leF hkn (show n < 2 ^ 31 by omega), ea]
      refine c99_38 (by simp [Value.category]) Rk.1.1 (by omega) (x_nextByte (G := fun _ => False) (by omega) Rk) (fun v h3 q => ?_) (fun _ _ q => q.er (fun f e => by rw [hres]; exact gs_b_er (gs_b_er e)) stk (fun _ z => z.elim))
      obtain ⟨b, s3, e3, ⟨rfl, na3⟩, R3, mv3, le3, co3⟩ := q
      have st3 := stk.trans mv3 le3 co3 (fun _ z => z.elim)
      obtain ⟨⟨bb, hbb, rfl⟩, es3, -⟩ := gs_u1_ok e3
      have hFw : F' w := by rw [hF']; exact Or.inr (Or.inr rfl)
      have hFu : F' u := by rw [hF']; exact Or.inr (Or.inl rfl)
      have hak := hFk a (by rw [hF']; exact Or.inl hFa)
      have huk := hFk u hFu
      have hwk := hFk w hFw
      have lp3 : gx_lp h h3 a u w n fs := lp.tr (mv3.1.2 a ⟨Or.inr hx, hak, fun z => z⟩) (mv3.1.2 u ⟨Or.inr (by omega), huk, fun z => z⟩) (mv3.1.2 w ⟨Or.inr (by omega), hwk, fun z => z⟩)
      obtain ⟨-, -, g3⟩ := R3.2.2.1.1.1
      obtain ⟨sa3, sv3, ea3, -, -, ks3, -⟩ := g3 0 (by decide)
      have ea3 : E 2 = .ref sa3 := ea3
      rw [ea] at ea3
      cases ea3
      simp only [r99_0, r99_0n, r99_1, r99_5, r99_6, r99_7, r99_8, r99_10, r99_13, r99_13n, r99_14, r99_19, r99_19a, r99_19n, r99_20, r99_20n, r99_21, r99_25, r99_26, r99_30, r99_31, r99_34, r99_37, r99_37n, r99_41, r99_45, r99_47, r99_49, r99_52, r99_52n, r99_53, r99_58, r99_58a, r99_58n, r99_59, r99_59n, r99_63, r99_65, r99_65n, r99_66, r99_69, r99_71, r99_73, r99_74, r99_74n, r99_75, r99_78, r99_80, r99_80n, r99_81, r99_83, r99_83n, r99_84, r99_87, r99_89, r99_90, r99_92, r99_97, r99_98, r99_100, r99_102, r99_105, r99_105n, r99_106, r99_106n, r99_107, r99_108, r99_109, r99_116, r99_119, r99_119n, r99_120, r99_125, r99_125a, r99_125n, r99_126, r99_129, r99_132, r99_132n, r99_136, r99_139, r99_140, r99_143, r99_143n, r99_144, r99_149, r99_149a, r99_149n, r99_150, i32_10, reduceIte, gm_cmp1, gm_cmp3, gm_cmp4, gm_kd_sf, gm_ln_sf, gm_sf_1, gm_sf_2, gm_nw_1, gm_nw_2, gm_k_int, gm_k_ref, gm_k_null, gm_k_u, gm_k_long, and_true, true_and, true_or, or_true, or_false, false_or, and_self, or_self, if_true, if_false, List.map_nil, List.map_cons, List.sum_nil, List.sum_cons, Nat.zero_le, Option.toList_some, Option.toList_none, List.cons_append, List.nil_append, ne_eq, not_false_eq_true, not_true_eq_false, nI_1, nI_add, Value.category, Nat.reduceAdd, Nat.reduceMod, Nat.reduceLeDiff, Nat.reduceLT, Nat.reduceEqDiff, Nat.reducePow, Nat.le_refl, Nat.add_left_cancel_iff, Nat.add_eq_left, Nat.left_eq_add, Nat.add_zero, i2c_b bb hbb]
      refine c99_42 (by simp) ks3 (by omega) (x_indexOf1 (by omega) hbb R3 ea ks3) (gx_kn ?_) gx_kx
      rcases gs_ty_of bb with ⟨ty0, ty1⟩ | ⟨t, ht8, ty0, ty1⟩
      · have m1 : ¬ (0 : Int32) ≤ -1 := by decide
        simp only [r99_0, r99_0n, r99_1, r99_5, r99_6, r99_7, r99_8, r99_10, r99_13, r99_13n, r99_14, r99_19, r99_19a, r99_19n, r99_20, r99_20n, r99_21, r99_25, r99_26, r99_30, r99_31, r99_34, r99_37, r99_37n, r99_41, r99_45, r99_47, r99_49, r99_52, r99_52n, r99_53, r99_58, r99_58a, r99_58n, r99_59, r99_59n, r99_63, r99_65, r99_65n, r99_66, r99_69, r99_71, r99_73, r99_74, r99_74n, r99_75, r99_78, r99_80, r99_80n, r99_81, r99_83, r99_83n, r99_84, r99_87, r99_89, r99_90, r99_92, r99_97, r99_98, r99_100, r99_102, r99_105, r99_105n, r99_106, r99_106n, r99_107, r99_108, r99_109, r99_116, r99_119, r99_119n, r99_120, r99_125, r99_125a, r99_125n, r99_126, r99_129, r99_132, r99_132n, r99_136, r99_139, r99_140, r99_143, r99_143n, r99_144, r99_149, r99_149a, r99_149n, r99_150, i32_10, reduceIte, gm_cmp1, gm_cmp3, gm_cmp4, gm_kd_sf, gm_ln_sf, gm_sf_1, gm_sf_2, gm_nw_1, gm_nw_2, gm_k_int, gm_k_ref, gm_k_null, gm_k_u, gm_k_long, and_true, true_and, true_or, or_true, or_false, false_or, and_self, or_self, if_true, if_false, List.map_nil, List.map_cons, List.sum_nil, List.sum_cons, Nat.zero_le, Option.toList_some, Option.toList_none, List.cons_append, List.nil_append, ne_eq, not_false_eq_true, not_true_eq_false, nI_1, nI_add, Value.category, Nat.reduceAdd, Nat.reduceMod, Nat.reduceLeDiff, Nat.reduceLT, Nat.reduceEqDiff, Nat.reducePow, Nat.le_refl, Nat.add_left_cancel_iff, Nat.add_eq_left, Nat.left_eq_add, Nat.add_zero, ty1, m1]
        refine c99_55 (by simp) R3.1.1 (by omega) (x_fail (G := G) (α := Unit) (val := fun _ _ _ => True) R3) gx_fn (fun _ _ q => q.er (fun f e => ?_) st3 (fun _ z => Or.inr z))
        cases e
        rw [hres]
        refine gs_b_er ?_
        show gs_b (gs_u1 K) _ sk = _
        rw [gs_b_ok e3]
        simp only [ty0]
        rfl
      · simp only [r99_0, r99_0n, r99_1, r99_5, r99_6, r99_7, r99_8, r99_10, r99_13, r99_13n, r99_14, r99_19, r99_19a, r99_19n, r99_20, r99_20n, r99_21, r99_25, r99_26, r99_30, r99_31, r99_34, r99_37, r99_37n, r99_41, r99_45, r99_47, r99_49, r99_52, r99_52n, r99_53, r99_58, r99_58a, r99_58n, r99_59, r99_59n, r99_63, r99_65, r99_65n, r99_66, r99_69, r99_71, r99_73, r99_74, r99_74n, r99_75, r99_78, r99_80, r99_80n, r99_81, r99_83, r99_83n, r99_84, r99_87, r99_89, r99_90, r99_92, r99_97, r99_98, r99_100, r99_102, r99_105, r99_105n, r99_106, r99_106n, r99_107, r99_108, r99_109, r99_116, r99_119, r99_119n, r99_120, r99_125, r99_125a, r99_125n, r99_126, r99_129, r99_132, r99_132n, r99_136, r99_139, r99_140, r99_143, r99_143n, r99_144, r99_149, r99_149a, r99_149n, r99_150, i32_10, reduceIte, gm_cmp1, gm_cmp3, gm_cmp4, gm_kd_sf, gm_ln_sf, gm_sf_1, gm_sf_2, gm_nw_1, gm_nw_2, gm_k_int, gm_k_ref, gm_k_null, gm_k_u, gm_k_long, and_true, true_and, true_or, or_true, or_false, false_or, and_self, or_self, if_true, if_false, List.map_nil, List.map_cons, List.sum_nil, List.sum_cons, Nat.zero_le, Option.toList_some, Option.toList_none, List.cons_append, List.nil_append, ne_eq, not_false_eq_true, not_true_eq_false, nI_1, nI_add, Value.category, Nat.reduceAdd, Nat.reduceMod, Nat.reduceLeDiff, Nat.reduceLT, Nat.reduceEqDiff, Nat.reducePow, Nat.le_refl, Nat.add_left_cancel_iff, Nat.add_eq_left, Nat.left_eq_add, Nat.add_zero, ty1, nI_pos' (show t < 2 ^ 31 by omega)]
        refine c99_60 (by simp) R3.1.1 (by omega) (x_passUtf (G := fun _ => False) (by omega) R3) (fun v h4 q => ?_) (fun _ _ q => q.er (fun f e => ?_) st3 (fun _ z => z.elim))
        rotate_left
        · rw [hres]
          refine gs_b_er ?_
          show gs_b (gs_u1 K) _ sk = _
          rw [gs_b_ok e3]
          simp only [ty0]
          exact gs_b_er e
        obtain ⟨nf, s4, e4, ⟨rfl, na4⟩, R4, mv4, le4, co4⟩ := q
        obtain ⟨-, u2, u3, -⟩ := gs_utf_ok e4 R3.2.2.2.1.2.1
        have st4 := st3.trans mv4 le4 co4 (fun _ z => z.elim)
        have hk3 : hk.1 ≤ h3.1 := mv3.1.1
        have h34 : h3.1 ≤ h4.1 := mv4.1.1
        have lp4 : gx_lp h h4 a u w n fs := lp3.tr (mv4.1.2 a ⟨Or.inr hx, by omega, fun z => z⟩) (mv4.1.2 u ⟨Or.inr (by omega), by omega, fun z => z⟩) (mv4.1.2 w ⟨Or.inr (by omega), by omega, fun z => z⟩)
        have l4 := lp4
        obtain ⟨q1, q2, q3, q4, q5, q6, q7, q8, q9, q10⟩ := l4
        have hn31 : n < 2147483648 := by omega
        have aw : a ≠ w := by omega
        have au : a ≠ u := by omega
        have uw : u ≠ w := by omega
        have xw : x ≠ w := by omega
        have R5 : gx_R E (gm_sf h4 w k (.int (nI t))) x ca K F' s4 := R4.out hFw (by omega)
        have A05 := R5.1.1
        simp only [r99_0, r99_0n, r99_1, r99_5, r99_6, r99_7, r99_8, r99_10, r99_13, r99_13n, r99_14, r99_19, r99_19a, r99_19n, r99_20, r99_20n, r99_21, r99_25, r99_26, r99_30, r99_31, r99_34, r99_37, r99_37n, r99_41, r99_45, r99_47, r99_49, r99_52, r99_52n, r99_53, r99_58, r99_58a, r99_58n, r99_59, r99_59n, r99_63, r99_65, r99_65n, r99_66, r99_69, r99_71, r99_73, r99_74, r99_74n, r99_75, r99_78, r99_80, r99_80n, r99_81, r99_83, r99_83n, r99_84, r99_87, r99_89, r99_90, r99_92, r99_97, r99_98, r99_100, r99_102, r99_105, r99_105n, r99_106, r99_106n, r99_107, r99_108, r99_109, r99_116, r99_119, r99_119n, r99_120, r99_125, r99_125a, r99_125n, r99_126, r99_129, r99_132, r99_132n, r99_136, r99_139, r99_140, r99_143, r99_143n, r99_144, r99_149, r99_149a, r99_149n, r99_150, i32_10, reduceIte, gm_cmp1, gm_cmp3, gm_cmp4, gm_kd_sf, gm_ln_sf, gm_sf_1, gm_sf_2, gm_nw_1, gm_nw_2, gm_k_int, gm_k_ref, gm_k_null, gm_k_u, gm_k_long, and_true, true_and, true_or, or_true, or_false, false_or, and_self, or_self, if_true, if_false, List.map_nil, List.map_cons, List.sum_nil, List.sum_cons, Nat.zero_le, Option.toList_some, Option.toList_none, List.cons_append, List.nil_append, ne_eq, not_false_eq_true, not_true_eq_false, nI_1, nI_add, Value.category, Nat.reduceAdd, Nat.reduceMod, Nat.reduceLeDiff, Nat.reduceLT, Nat.reduceEqDiff, Nat.reducePow, Nat.le_refl, Nat.add_left_cancel_iff, Nat.add_eq_left, Nat.left_eq_add, Nat.add_zero, q1, q5, q8, q9, hkn, hn31, gm_fv_sfa aw, q4, R4.1.1, gm_fv_sfa xw, R4.2.2.2.1.1, nI_sub u2]
        refine c99_94 (by simp [Value.category]) A05 (by omega) (x_letterFrom (f := 97) (m := 26) R5 (by omega)) (gx_kn ?_) gx_kx
        have k5u : gm_kd (gm_sf h4 w k (.int (nI t))) u = 100 := by rw [gm_kd_sf]; exact q6
        have l5u : gm_ln (gm_sf h4 w k (.int (nI t))) u = n := by rw [gm_ln_sf]; exact q7
        obtain ⟨h6, eh6⟩ : ∃ h6, h6 = gm_sf (gm_sf h4 w k (.int (nI t))) u k (.int (gs_let K nf (gs_pl s4 - nf) 97 26)) := ⟨_, rfl⟩
        have R6 : gx_R E h6 x ca K F' s4 := by rw [eh6]; exact R5.out hFu (by omega)
        have st6 : gx_st h s x G h6 s4 := by rw [eh6]; exact (st4.sf (Or.inl (by omega)) (Or.inr (by omega))).sf (Or.inl (by omega)) (Or.inr (by omega))
        have h61 : h6.1 = h4.1 := by rw [eh6]; simp only [gm_sf_1]
        have lp6 : gx_lp h h6 a u w n (fs ++ [(gs_let K nf (gs_pl s4 - nf) 97 26, nI t)]) := by
          rw [eh6]
          refine ⟨by simp only [gm_kd_sf]; exact q1, fun i i4 i5 i6 => by rw [gm_fv_sfa au, gm_fv_sfa aw]; exact q2 i i4 i5 i6, by rw [gm_fv_sfa au, gm_fv_sfa aw]; exact q3, by rw [gm_fv_sfa au, gm_fv_sfa aw]; exact q4, by rw [gm_fv_sfa au, gm_fv_sfa aw]; exact q5, by simp only [gm_kd_sf]; exact q6, by simp only [gm_ln_sf]; exact q7, by simp only [gm_kd_sf]; exact q8, by simp only [gm_ln_sf]; exact q9, fun j q hj => ?_⟩
          by_cases hjk : j < fs.length
          · rw [List.getElem?_append_left hjk] at hj
            rw [gm_fv_sfj (show j ≠ k by omega), gm_fv_sfj (show j ≠ k by omega), gm_fv_sfj (show j ≠ k by omega), gm_fv_sfj (show j ≠ k by omega)]
            exact q10 j q hj
          · have hjl := (List.getElem?_eq_some_iff.mp hj).1
            simp at hjl
            have hjk2 : j = fs.length := by omega
            subst hjk2
            simp at hj
            subst hj
            subst hfs
            refine ⟨gm_fv_sf (by rw [gm_ln_sf, q7]; exact hkn), ?_, nI_pos' (by omega), nI_lt (b := 8) ht8 (by decide)⟩
            rw [gm_fv_sfa (Ne.symm uw)]
            exact gm_fv_sf (by rw [q9]; exact hkn)
        have hF6 : ∀ b, F' b → b < h6.1 := fun b z => by have := hFk b z; omega
        simp only [r99_0, r99_0n, r99_1, r99_5, r99_6, r99_7, r99_8, r99_10, r99_13, r99_13n, r99_14, r99_19, r99_19a, r99_19n, r99_20, r99_20n, r99_21, r99_25, r99_26, r99_30, r99_31, r99_34, r99_37, r99_37n, r99_41, r99_45, r99_47, r99_49, r99_52, r99_52n, r99_53, r99_58, r99_58a, r99_58n, r99_59, r99_59n, r99_63, r99_65, r99_65n, r99_66, r99_69, r99_71, r99_73, r99_74, r99_74n, r99_75, r99_78, r99_80, r99_80n, r99_81, r99_83, r99_83n, r99_84, r99_87, r99_89, r99_90, r99_92, r99_97, r99_98, r99_100, r99_102, r99_105, r99_105n, r99_106, r99_106n, r99_107, r99_108, r99_109, r99_116, r99_119, r99_119n, r99_120, r99_125, r99_125a, r99_125n, r99_129, r99_132, r99_132n, r99_136, r99_139, r99_140, r99_143, r99_143n, r99_144, r99_149, r99_149a, r99_149n, r99_150, i32_10, reduceIte, gm_cmp1, gm_cmp3, gm_cmp4, gm_kd_sf, gm_ln_sf, gm_sf_1, gm_sf_2, gm_nw_1, gm_nw_2, gm_k_int, gm_k_ref, gm_k_null, gm_k_u, gm_k_long, and_true, true_and, true_or, or_true, or_false, false_or, and_self, or_self, if_true, if_false, List.map_nil, List.map_cons, List.sum_nil, List.sum_cons, Nat.zero_le, Option.toList_some, Option.toList_none, List.cons_append, List.nil_append, ne_eq, not_false_eq_true, not_true_eq_false, nI_1, nI_add, Value.category, Nat.reduceAdd, Nat.reduceMod, Nat.reduceLeDiff, Nat.reduceLT, Nat.reduceEqDiff, Nat.reducePow, Nat.le_refl, Nat.add_left_cancel_iff, Nat.add_eq_left, Nat.left_eq_add, Nat.add_zero, k5u, l5u, hkn, hn31]
        rw [← eh6]
        by_cases ht6 : t < 6
        · have t6 : nI t < 6 := nI_lt (b := 6) ht6 (by decide)
          have er : res = gs_b (gs_flds K rc m (fs ++ [(gs_let K nf (gs_pl s4 - nf) 97 26, nI t)])) (fun fs => if fl &&& 16 ≠ 0 ∧ 0 < nI n then gs_x (-5) else gs_r fs) s4 := by
            rw [hres]
            have : gs_flds K rc (m + 1) fs sk = gs_flds K rc m (fs ++ [(gs_let K nf (gs_pl s4 - nf) 97 26, nI t)]) s4 := by
              show gs_b (gs_u1 K) _ sk = _
              rw [gs_b_ok e3]
              simp only [ty0]
              rw [gs_b_ok e4, gs_b_ok (m := gs_g) rfl, if_pos ht6]
            unfold gs_b
            rw [this]
          simp only [r99_0, r99_0n, r99_1, r99_5, r99_6, r99_7, r99_8, r99_10, r99_13, r99_13n, r99_14, r99_19, r99_19a, r99_19n, r99_20, r99_20n, r99_21, r99_25, r99_26, r99_30, r99_31, r99_34, r99_37, r99_37n, r99_41, r99_45, r99_47, r99_49, r99_52, r99_52n, r99_53, r99_58, r99_58a, r99_58n, r99_59, r99_59n, r99_63, r99_65, r99_65n, r99_66, r99_69, r99_71, r99_73, r99_74, r99_74n, r99_75, r99_78, r99_80, r99_80n, r99_81, r99_83, r99_83n, r99_84, r99_87, r99_89, r99_90, r99_92, r99_97, r99_98, r99_100, r99_102, r99_105, r99_105n, r99_106, r99_106n, r99_107, r99_108, r99_109, r99_116, r99_119, r99_119n, r99_120, r99_125, r99_125a, r99_125n, r99_126, r99_129, r99_132, r99_132n, r99_136, r99_139, r99_140, r99_143, r99_143n, r99_144, r99_149, r99_149a, r99_149n, r99_150, i32_10, reduceIte, gm_cmp1, gm_cmp3, gm_cmp4, gm_kd_sf, gm_ln_sf, gm_sf_1, gm_sf_2, gm_nw_1, gm_nw_2, gm_k_int, gm_k_ref, gm_k_null, gm_k_u, gm_k_long, and_true, true_and, true_or, or_true, or_false, false_or, and_self, or_self, if_true, if_false, List.map_nil, List.map_cons, List.sum_nil, List.sum_cons, Nat.zero_le, Option.toList_some, Option.toList_none, List.cons_append, List.nil_append, ne_eq, not_false_eq_true, not_true_eq_false, nI_1, nI_add, Value.category, Nat.reduceAdd, Nat.reduceMod, Nat.reduceLeDiff, Nat.reduceLT, Nat.reduceEqDiff, Nat.reducePow, Nat.le_refl, Nat.add_left_cancel_iff, Nat.add_eq_left, Nat.left_eq_add, Nat.add_zero, t6]
          rw [er]
          exact ih (k + 1) _ s4 h6 _ _ (by omega) (by simp [hfs]) R6 hF6 st6 lp6
        · have t6 : ¬ nI t < 6 := nI_nlt (b := 6) (by omega) (by omega)
          have er : ∀ f : List (Int32 × Int32) → gs_M (List (Int32 × Int32)), gs_b (gs_flds K rc (m + 1) fs) f sk = gs_b (gs_b rc fun v => fun s' => if gs_sort s' v = 1 then gs_flds K rc m (fs ++ [(gs_let K nf (gs_pl s4 - nf) 97 26, nI t)]) s' else .error (-4)) f s4 := by
            intro f
            have : gs_flds K rc (m + 1) fs sk = gs_b rc (fun v => fun s' => if gs_sort s' v = 1 then gs_flds K rc m (fs ++ [(gs_let K nf (gs_pl s4 - nf) 97 26, nI t)]) s' else .error (-4)) s4 := by
              show gs_b (gs_u1 K) _ sk = _
              rw [gs_b_ok e3]
              simp only [ty0]
              rw [gs_b_ok e4, gs_b_ok (m := gs_g) rfl, if_neg ht6]
            unfold gs_b
            rw [this]
            rfl
          rw [er] at hres
          simp only [r99_0, r99_0n, r99_1, r99_5, r99_6, r99_7, r99_8, r99_10, r99_13, r99_13n, r99_14, r99_19, r99_19a, r99_19n, r99_20, r99_20n, r99_21, r99_25, r99_26, r99_30, r99_31, r99_34, r99_37, r99_37n, r99_41, r99_45, r99_47, r99_49, r99_52, r99_52n, r99_53, r99_58, r99_58a, r99_58n, r99_59, r99_59n, r99_63, r99_65, r99_65n, r99_66, r99_69, r99_71, r99_73, r99_74, r99_74n, r99_75, r99_78, r99_80, r99_80n, r99_81, r99_83, r99_83n, r99_84, r99_87, r99_89, r99_90, r99_92, r99_97, r99_98, r99_100, r99_102, r99_105, r99_105n, r99_106, r99_106n, r99_107, r99_108, r99_109, r99_116, r99_119, r99_119n, r99_120, r99_125, r99_125a, r99_125n, r99_126, r99_129, r99_132, r99_132n, r99_136, r99_139, r99_140, r99_143, r99_143n, r99_144, r99_149, r99_149a, r99_149n, r99_150, i32_10, reduceIte, gm_cmp1, gm_cmp3, gm_cmp4, gm_kd_sf, gm_ln_sf, gm_sf_1, gm_sf_2, gm_nw_1, gm_nw_2, gm_k_int, gm_k_ref, gm_k_null, gm_k_u, gm_k_long, and_true, true_and, true_or, or_true, or_false, false_or, and_self, or_self, if_true, if_false, List.map_nil, List.map_cons, List.sum_nil, List.sum_cons, Nat.zero_le, Option.toList_some, Option.toList_none, List.cons_append, List.nil_append, ne_eq, not_false_eq_true, not_true_eq_false, nI_1, nI_add, Value.category, Nat.reduceAdd, Nat.reduceMod, Nat.reduceLeDiff, Nat.reduceLT, Nat.reduceEqDiff, Nat.reducePow, Nat.le_refl, Nat.add_left_cancel_iff, Nat.add_eq_left, Nat.left_eq_add, Nat.add_zero, t6]
          refine c99_110 (by simp [Value.category]) R6.1.1 (by omega) (C (d - 1) h6 s4 F' (fun _ => False) (by omega) R6 hF6) (fun v h7 q => ?_) (fun _ _ q => q.er (fun f e => by rw [hres]; exact gs_b_er (gs_b_er e)) st6 (fun _ z => z.elim))
          obtain ⟨v, s7, e7, rfl, R7, mv7, le7, co7⟩ := q
          have st7 := st6.trans mv7 le7 co7 (fun _ z => z.elim)
          have h67 : h6.1 ≤ h7.1 := mv7.1.1
          have lp7 := lp6.tr (mv7.1.2 a ⟨Or.inr hx, by omega, fun z => z⟩) (mv7.1.2 u ⟨Or.inr (by omega), by omega, fun z => z⟩) (mv7.1.2 w ⟨Or.inr (by omega), by omega, fun z => z⟩)
          simp only [i32_10, reduceIte, gm_cmp1, gm_cmp3, gm_cmp4, gm_kd_sf, gm_ln_sf, gm_sf_1, gm_sf_2, gm_nw_1, gm_nw_2, gm_k_int, gm_k_ref, gm_k_null, gm_k_u, gm_k_long, and_true, true_and, true_or, or_true, or_false, false_or, and_self, or_self, if_true, if_false, List.map_nil, List.map_cons, List.sum_nil, List.sum_cons, Nat.zero_le, Option.toList_some, Option.toList_none, List.cons_append, List.nil_append, ne_eq, not_false_eq_true, not_true_eq_false, nI_1, nI_add, Value.category, Nat.reduceAdd, Nat.reduceMod, Nat.reduceLeDiff, Nat.reduceLT, Nat.reduceEqDiff, Nat.reducePow, Nat.le_refl, Nat.add_left_cancel_iff, Nat.add_eq_left, Nat.left_eq_add, Nat.add_zero]
          refine c99_113 (by simp) R7.1.1 (by omega) (x_isText (by omega) R7) (gx_kn ?_) gx_kx
          by_cases hv : gs_sort s7 v = 1
          · have er2 : res = gs_b (gs_flds K rc m (fs ++ [(gs_let K nf (gs_pl s4 - nf) 97 26, nI t)])) (fun fs => if fl &&& 16 ≠ 0 ∧ 0 < nI n then gs_x (-5) else gs_r fs) s7 := by
              rw [hres]
              exact gs_b_cg (by rw [gs_b_ok e7]; simp only [hv, if_true])
            simp only [r99_0, r99_0n, r99_1, r99_5, r99_6, r99_7, r99_8, r99_10, r99_13, r99_13n, r99_14, r99_19, r99_19a, r99_19n, r99_20, r99_20n, r99_21, r99_25, r99_26, r99_30, r99_31, r99_34, r99_37, r99_37n, r99_41, r99_45, r99_47, r99_49, r99_52, r99_52n, r99_53, r99_58, r99_58a, r99_58n, r99_59, r99_59n, r99_63, r99_65, r99_65n, r99_66, r99_69, r99_71, r99_73, r99_74, r99_74n, r99_75, r99_78, r99_80, r99_80n, r99_81, r99_83, r99_83n, r99_84, r99_87, r99_89, r99_90, r99_92, r99_97, r99_98, r99_100, r99_102, r99_105, r99_105n, r99_106, r99_106n, r99_107, r99_108, r99_109, r99_116, r99_119, r99_119n, r99_120, r99_125, r99_125a, r99_125n, r99_126, r99_129, r99_132, r99_132n, r99_136, r99_139, r99_140, r99_143, r99_143n, r99_144, r99_149, r99_149a, r99_149n, r99_150, i32_10, reduceIte, gm_cmp1, gm_cmp3, gm_cmp4, gm_kd_sf, gm_ln_sf, gm_sf_1, gm_sf_2, gm_nw_1, gm_nw_2, gm_k_int, gm_k_ref, gm_k_null, gm_k_u, gm_k_long, and_true, true_and, true_or, or_true, or_false, false_or, and_self, or_self, if_true, if_false, List.map_nil, List.map_cons, List.sum_nil, List.sum_cons, Nat.zero_le, Option.toList_some, Option.toList_none, List.cons_append, List.nil_append, ne_eq, not_false_eq_true, not_true_eq_false, nI_1, nI_add, Value.category, Nat.reduceAdd, Nat.reduceMod, Nat.reduceLeDiff, Nat.reduceLT, Nat.reduceEqDiff, Nat.reducePow, Nat.le_refl, Nat.add_left_cancel_iff, Nat.add_eq_left, Nat.left_eq_add, Nat.add_zero, hv]
            rw [er2]
            exact ih (k + 1) _ s7 h7 _ _ (by omega) (by simp [hfs]) R7 (fun b z => by have := hF6 b z; omega) st7 lp7
          · simp only [r99_0, r99_0n, r99_1, r99_5, r99_6, r99_7, r99_8, r99_10, r99_13, r99_13n, r99_14, r99_19, r99_19a, r99_19n, r99_20, r99_20n, r99_21, r99_25, r99_26, r99_30, r99_31, r99_34, r99_37, r99_37n, r99_41, r99_45, r99_47, r99_49, r99_52, r99_52n, r99_53, r99_58, r99_58a, r99_58n, r99_59, r99_59n, r99_63, r99_65, r99_65n, r99_66, r99_69, r99_71, r99_73, r99_74, r99_74n, r99_75, r99_78, r99_80, r99_80n, r99_81, r99_83, r99_83n, r99_84, r99_87, r99_89, r99_90, r99_92, r99_97, r99_98, r99_100, r99_102, r99_105, r99_105n, r99_106, r99_106n, r99_107, r99_108, r99_109, r99_116, r99_119, r99_119n, r99_120, r99_125, r99_125a, r99_125n, r99_126, r99_129, r99_132, r99_132n, r99_136, r99_139, r99_140, r99_143, r99_143n, r99_144, r99_149, r99_149a, r99_149n, r99_150, i32_10, reduceIte, gm_cmp1, gm_cmp3, gm_cmp4, gm_kd_sf, gm_ln_sf, gm_sf_1, gm_sf_2, gm_nw_1, gm_nw_2, gm_k_int, gm_k_ref, gm_k_null, gm_k_u, gm_k_long, and_true, true_and, true_or, or_true, or_false, false_or, and_self, or_self, if_true, if_false, List.map_nil, List.map_cons, List.sum_nil, List.sum_cons, Nat.zero_le, Option.toList_some, Option.toList_none, List.cons_append, List.nil_append, ne_eq, not_false_eq_true, not_true_eq_false, nI_1, nI_add, Value.category, Nat.reduceAdd, Nat.reduceMod, Nat.reduceLeDiff, Nat.reduceLT, Nat.reduceEqDiff, Nat.reducePow, Nat.le_refl, Nat.add_left_cancel_iff, Nat.add_eq_left, Nat.left_eq_add, Nat.add_zero, hv]
            refine c99_122 (by simp) R7.1.1 (by omega) (x_fail (G := G) (α := Unit) (val := fun _ _ _ => True) R7) gx_fn (fun _ _ q => q.er (fun f e => ?_) st7 (fun _ z => Or.inr z))
            cases e
            rw [hres]
            refine gs_b_er ?_
            rw [gs_b_ok e7]
            simp only [hv, if_false]
  simp only [r99_0, r99_0n, r99_1, r99_5, r99_6, r99_7, r99_8, r99_10, r99_13, r99_13n, r99_14, r99_19, r99_19a, r99_19n, r99_20, r99_20n, r99_21, r99_25, r99_26, r99_30, r99_31, r99_34, r99_37, r99_37n, r99_41, r99_45, r99_47, r99_49, r99_52, r99_52n, r99_53, r99_58, r99_58a, r99_58n, r99_59, r99_59n, r99_63, r99_65, r99_65n, r99_66, r99_69, r99_71, r99_73, r99_74, r99_74n, r99_75, r99_78, r99_80, r99_80n, r99_81, r99_83, r99_83n, r99_84, r99_87, r99_89, r99_90, r99_92, r99_97, r99_98, r99_100, r99_102, r99_105, r99_105n, r99_106, r99_106n, r99_107, r99_108, r99_109, r99_116, r99_119, r99_119n, r99_120, r99_125, r99_125a, r99_125n, r99_126, r99_129, r99_132, r99_132n, r99_136, r99_139, r99_140, r99_143, r99_143n, r99_144, r99_149, r99_149a, r99_149n, r99_150, i32_10, reduceIte, gm_cmp1, gm_cmp3, gm_cmp4, gm_kd_sf, gm_ln_sf, gm_sf_1, gm_sf_2, gm_nw_1, gm_nw_2, gm_k_int, gm_k_ref, gm_k_null, gm_k_u, gm_k_long, and_true, true_and, true_or, or_true, or_false, false_or, and_self, or_self, if_true, if_false, List.map_nil, List.map_cons, List.sum_nil, List.sum_cons, Nat.zero_le, Option.toList_some, Option.toList_none, List.cons_append, List.nil_append, ne_eq, not_false_eq_true, not_true_eq_false, nI_1, nI_add, Value.category, Nat.reduceAdd, Nat.reduceMod, Nat.reduceLeDiff, Nat.reduceLT, Nat.reduceEqDiff, Nat.reducePow, Nat.le_refl, Nat.add_left_cancel_iff, Nat.add_eq_left, Nat.left_eq_add, Nat.add_zero]
  exact loop n 0 [] s1 h2 gm_u gm_u (by omega) rfl R2 hF2 st2 lp2
end Y3
/-! THE CLASS, 13: a descriptor. -/
section Y4
variable {E : Nat → Value} {d x d0 dp : Nat} {h : gm_H} {ca : Nat → Nat} {K : gs_K} {F G : Nat → Prop} {s : gs_S} {rc : gs_M Int32}
/-- reading a descriptor that is the k-th of those above one another does what m does -/
def gx_DC (E : Nat → Value) (x : Nat) (ca : Nat → Nat) (K : gs_K) (D0 dp k : Nat) (m : gs_M (List gs_L)) : Prop := ∀ (d : Nat) (h : gm_H) (s : gs_S) (F G : Nat → Prop), D0 ≤ d → gx_R E h x ca K F s → (∀ a, F a → a < h.1) →
  gm_Ca E d 97 [.ref x, .int (nI dp), .int (nI k)] h (gx_P E h x ca K F G s (fun L h' v => (∃ w, v = some w ∧ gx_ds h' x ca K F L w) ∧ ∀ s', m s = .ok (L, s') → (L ≠ [] → h'.1 + 3 + gs_pl s ≤ h.1 + gs_pl s' ∧ h'.2.1 + 29 + 8 * gs_pl s ≤ h.2.1 + 8 * gs_pl s') ∧ L.length ≤ gs_dn s') (m s))
theorem gs_ent_f1 {e : Nat} {s1 : gs_S} (w : gs_ent K s = .ok (e, s1)) : gs_hs s1 = gs_hs s := by
  unfold gs_ent gs_u4 gs_b at w
  unfold gs_nxt at w
  by_cases hc : gs_n K - gs_pl s < 4
  · simp [hc] at w
  · simp only [hc, if_false, gs_r] at w
    split at w
    · cases w
    · split at w
      · cases w
      · cases w; rfl
theorem x_readDescriptor1 {k : Nat} {up : Option (gs_M (List gs_L))} (C : gx_RC E x ca K d0 (dp + 1) rc) (hK : gs_rst K = false) (hdp : dp < 1000) (hk : k < 1000) (Hu : match up with
    | none => 8 < k
    | some m => k ≤ 8 ∧ gx_DC E x ca K (d - 1) dp (k + 1) m) (hd : d0 + 2 ≤ d) (hd6 : 6 ≤ d) (R : gx_R E h x ca K F s) (hF : ∀ a, F a → a < h.1) :
    gm_Ca E d 97 [.ref x, .int (nI dp), .int (nI k)] h (gx_P E h x ca K F G s (fun L h' v => (∃ w, v = some w ∧ gx_ds h' x ca K F L w) ∧ ∀ s', gs_dsc1 K rc up s = .ok (L, s') → (L ≠ [] → h'.1 + 3 + gs_pl s ≤ h.1 + gs_pl s' ∧ h'.2.1 + 29 + 8 * gs_pl s ≤ h.2.1 + 8 * gs_pl s') ∧ L.length ≤ gs_dn s') (gs_dsc1 K rc up s)) := by
  obtain ⟨res, hres⟩ : ∃ res, res = gs_dsc1 K rc up s := ⟨_, rfl⟩
  rw [← hres]
  unfold gs_dsc1 at hres
  show gm_W E d 97 0 [.ref x, .int (nI dp), .int (nI k), gm_u, gm_u, gm_u, gm_u, gm_u] [] h _
  simp only [r97_0, r97_0n, r97_4, r97_5, r97_6, r97_8, r97_11, r97_12, r97_12n, r97_13, r97_14, r97_16, r97_19, r97_19n, r97_20, r97_23, r97_26, r97_26n, r97_30, r97_31, r97_31n, r97_33, r97_33n, r97_35n, r97_35, r97_38, r97_38n, r97_39, r97_44, r97_44a, r97_44n, r97_45, r97_45n, r97_47, r97_47n, r97_48, r97_49, r97_51, r97_54, r97_55, r97_57, r97_60, r97_60n, r97_61, r97_66, r97_66a, r97_66n, r97_67, r97_67n, r97_71, r97_73, r97_73n, r97_74, r97_77, r97_79, r97_80, r97_82, r97_85, r97_85i, r97_86, r97_88, r97_90, r97_90n, r97_91, r97_99, r97_99n, r97_101, r97_101n, r97_102, r97_106, r97_108, r97_108n, r97_109, r97_109n, r97_114, r97_114n, r97_115, r97_115n, r97_117, r97_121, r97_121n, r97_122, r97_126, r97_126n, r97_128, r97_128n, r97_129, r97_130, r97_131, r97_132, r97_139, r97_139n, r97_140, r97_140n, r97_145, r97_145n, r97_146, r97_149, r97_152, r97_154, r97_154n, r97_156, r97_156n, r97_157, r97_157n, r97_159, r97_159n, i32_10, reduceIte, gm_cmp1, gm_cmp3, gm_cmp4, gm_kd_sf, gm_ln_sf, gm_sf_1, gm_sf_2, gm_nw_1, gm_nw_2, gm_k_int, gm_k_ref, gm_k_null, gm_k_u, gm_k_long, and_true, true_and, true_or, or_true, or_false, false_or, and_self, or_self, if_true, if_false, List.map_nil, List.map_cons, List.sum_nil, List.sum_cons, Nat.zero_le, Option.toList_some, Option.toList_none, List.cons_append, List.nil_append, ne_eq, not_false_eq_true, not_true_eq_false, nI_1, nI_add, Value.category, Nat.reduceAdd, Nat.reduceMod, Nat.reduceLeDiff, Nat.reduceLT, Nat.reduceEqDiff, Nat.reducePow, Nat.le_refl, Nat.add_left_cancel_iff, Nat.add_eq_left, Nat.left_eq_add, Nat.add_zero]
  refine c97_1 (by simp) R.1.1 (by omega) (x_nextByte (G := fun _ => False) (by omega) R) (fun v h1 q => ?_) (fun _ _ q => q.er (s := s) (h := h) (fun f e => by rw [hres]; exact gs_b_er e) ⟨gx_mv.refl, gx_le.refl, gx_co.refl⟩ (fun _ z => z.elim))
  obtain ⟨t, s1, e1, ⟨rfl, na1⟩, R1, mv1, le1, co1⟩ := q
  rw [gs_b_ok e1] at hres
  have st1 : gx_st h s x G h1 s1 := ⟨mv1.wk (fun _ z => z.elim), le1, co1⟩
  have hF1 : ∀ a, F a → a < h1.1 := fun a z => by have := hF a z; have := mv1.1.1; omega
  by_cases t0 : t = 112
  · rw [if_pos t0] at hres
    subst t0
    simp only [r97_0, r97_0n, r97_4, r97_5, r97_6, r97_8, r97_11, r97_12, r97_12n, r97_13, r97_14, r97_16, r97_19, r97_19n, r97_20, r97_23, r97_26, r97_26n, r97_30, r97_31, r97_31n, r97_33, r97_33n, r97_35n, r97_35, r97_38, r97_38n, r97_39, r97_44, r97_44a, r97_44n, r97_45, r97_45n, r97_47, r97_47n, r97_48, r97_49, r97_51, r97_54, r97_55, r97_57, r97_60, r97_60n, r97_61, r97_66, r97_66a, r97_66n, r97_67, r97_67n, r97_71, r97_73, r97_73n, r97_74, r97_77, r97_79, r97_80, r97_82, r97_85, r97_85i, r97_86, r97_88, r97_90, r97_90n, r97_91, r97_99, r97_99n, r97_101, r97_101n, r97_102, r97_106, r97_108, r97_108n, r97_109, r97_109n, r97_114, r97_114n, r97_115, r97_115n, r97_117, r97_121, r97_121n, r97_122, r97_126, r97_126n, r97_128, r97_128n, r97_129, r97_130, r97_131, r97_132, r97_139, r97_139n, r97_140, r97_140n, r97_145, r97_145n, r97_146, r97_149, r97_152, r97_154, r97_154n, r97_156, r97_156n, r97_157, r97_157n, r97_159, r97_159n, i32_10, reduceIte, gm_cmp1, gm_cmp3, gm_cmp4, gm_kd_sf, gm_ln_sf, gm_sf_1, gm_sf_2, gm_nw_1, gm_nw_2, gm_k_int, gm_k_ref, gm_k_null, gm_k_u, gm_k_long, and_true, true_and, true_or, or_true, or_false, false_or, and_self, or_self, if_true, if_false, List.map_nil, List.map_cons, List.sum_nil, List.sum_cons, Nat.zero_le, Option.toList_some, Option.toList_none, List.cons_append, List.nil_append, ne_eq, not_false_eq_true, not_true_eq_false, nI_1, nI_add, Value.category, Nat.reduceAdd, Nat.reduceMod, Nat.reduceLeDiff, Nat.reduceLT, Nat.reduceEqDiff, Nat.reducePow, Nat.le_refl, Nat.add_left_cancel_iff, Nat.add_eq_left, Nat.left_eq_add, Nat.add_zero]
    rw [hres]
    exact ⟨[], s1, rfl, ⟨⟨.null, rfl, rfl⟩, fun _ _ => ⟨fun z => absurd rfl z, Nat.zero_le _⟩⟩, R1, st1.1, st1.2.1, st1.2.2⟩
  rw [if_neg t0] at hres
  by_cases t1 : t = 113
  · rw [if_pos t1] at hres
    subst t1
    obtain ⟨A0, -, -, -, A10, -, -, -, -, -, -, A4, -, A41, -, -, A6, A6l, -⟩ := R1.1
    have m112 : ¬ (113 : Int32) = 112 := by decide
    simp only [r97_0, r97_0n, r97_4, r97_5, r97_6, r97_8, r97_11, r97_12, r97_12n, r97_13, r97_14, r97_16, r97_19, r97_19n, r97_20, r97_23, r97_26, r97_26n, r97_30, r97_31, r97_31n, r97_33, r97_33n, r97_35n, r97_35, r97_38, r97_38n, r97_39, r97_44, r97_44a, r97_44n, r97_45, r97_45n, r97_47, r97_47n, r97_48, r97_49, r97_51, r97_54, r97_55, r97_57, r97_60, r97_60n, r97_61, r97_66, r97_66a, r97_66n, r97_67, r97_67n, r97_71, r97_73, r97_73n, r97_74, r97_77, r97_79, r97_80, r97_82, r97_85, r97_85i, r97_86, r97_88, r97_90, r97_90n, r97_91, r97_99, r97_99n, r97_101, r97_101n, r97_102, r97_106, r97_108, r97_108n, r97_109, r97_109n, r97_114, r97_114n, r97_115, r97_115n, r97_117, r97_121, r97_121n, r97_122, r97_126, r97_126n, r97_128, r97_128n, r97_129, r97_130, r97_131, r97_132, r97_139, r97_139n, r97_140, r97_140n, r97_145, r97_145n, r97_146, r97_149, r97_152, r97_154, r97_154n, r97_156, r97_156n, r97_157, r97_157n, r97_159, r97_159n, i32_10, reduceIte, gm_cmp1, gm_cmp3, gm_cmp4, gm_kd_sf, gm_ln_sf, gm_sf_1, gm_sf_2, gm_nw_1, gm_nw_2, gm_k_int, gm_k_ref, gm_k_null, gm_k_u, gm_k_long, and_true, true_and, true_or, or_true, or_false, false_or, and_self, or_self, if_true, if_false, List.map_nil, List.map_cons, List.sum_nil, List.sum_cons, Nat.zero_le, Option.toList_some, Option.toList_none, List.cons_append, List.nil_append, ne_eq, not_false_eq_true, not_true_eq_false, nI_1, nI_add, Value.category, Nat.reduceAdd, Nat.reduceMod, Nat.reduceLeDiff, Nat.reduceLT, Nat.reduceEqDiff, Nat.reducePow, Nat.le_refl, Nat.add_left_cancel_iff, Nat.add_eq_left, Nat.left_eq_add, Nat.add_zero, m112, A0, A10, A4, A41]
    refine c97_27 (by simp [Value.category]) A0 (by omega) (x_nextEntry (G := fun _ => False) (by omega) R1) (fun v h2 q => ?_) (fun _ _ q => q.er (fun f e => by rw [hres]; exact gs_b_er e) st1 (fun _ z => z.elim))
    obtain ⟨e, s2, e2, ⟨rfl, na2⟩, R2, mv2, le2, co2⟩ := q
    rw [gs_b_ok e2] at hres
    have st2 := st1.trans mv2 le2 co2 (fun _ z => z.elim)
    obtain ⟨he, es2⟩ := gs_ent_ok e2 R1.2.2.2.1.2.2.2.2.2.2.1 R1.2.2.2.1.2.2.2.2.2.2.2.1
    obtain ⟨A0, -, -, -, A10, -, -, -, -, -, -, A4, -, A41, -, -, A6, A6l, -⟩ := R2.1
    have h234 := R2.2.2.2.1.2.2.2.2.2.2.2.1
    have he2 : e < 234 := by omega
    obtain ⟨H1, H2⟩ := R2.2.2.2.2.2.1 e _ (List.getElem?_eq_getElem he)
    have eg : (gs_hs s2).getD e (-1, []) = (gs_hs s2)[e] := by simp [List.getD, he]
    rw [eg] at hres
    cases hL : (gs_hs s2)[e].2 with
    | nil =>
      rw [hL] at H2
      have H2 : gm_fv h2 (x + 6) e = .null := H2
      simp only [hL] at hres
      simp only [r97_0, r97_0n, r97_4, r97_5, r97_6, r97_8, r97_11, r97_12, r97_12n, r97_13, r97_14, r97_16, r97_19, r97_19n, r97_20, r97_23, r97_26, r97_26n, r97_30, r97_31, r97_31n, r97_33, r97_33n, r97_35n, r97_35, r97_38, r97_38n, r97_39, r97_44, r97_44a, r97_44n, r97_45, r97_45n, r97_47, r97_47n, r97_48, r97_49, r97_51, r97_54, r97_55, r97_57, r97_60, r97_60n, r97_61, r97_66, r97_66a, r97_66n, r97_67, r97_67n, r97_71, r97_73, r97_73n, r97_74, r97_77, r97_79, r97_80, r97_82, r97_85, r97_85i, r97_86, r97_88, r97_90, r97_90n, r97_91, r97_99, r97_99n, r97_101, r97_101n, r97_102, r97_106, r97_108, r97_108n, r97_109, r97_109n, r97_114, r97_114n, r97_115, r97_115n, r97_117, r97_121, r97_121n, r97_122, r97_126, r97_126n, r97_128, r97_128n, r97_129, r97_130, r97_131, r97_132, r97_139, r97_139n, r97_140, r97_140n, r97_145, r97_145n, r97_146, r97_149, r97_152, r97_154, r97_154n, r97_156, r97_156n, r97_157, r97_157n, r97_159, r97_159n, i32_10, reduceIte, gm_cmp1, gm_cmp3, gm_cmp4, gm_kd_sf, gm_ln_sf, gm_sf_1, gm_sf_2, gm_nw_1, gm_nw_2, gm_k_int, gm_k_ref, gm_k_null, gm_k_u, gm_k_long, and_true, true_and, true_or, or_true, or_false, false_or, and_self, or_self, if_true, if_false, List.map_nil, List.map_cons, List.sum_nil, List.sum_cons, Nat.zero_le, Option.toList_some, Option.toList_none, List.cons_append, List.nil_append, ne_eq, not_false_eq_true, not_true_eq_false, nI_1, nI_add, Value.category, Nat.reduceAdd, Nat.reduceMod, Nat.reduceLeDiff, Nat.reduceLT, Nat.reduceEqDiff, Nat.reducePow, Nat.le_refl, Nat.add_left_cancel_iff, Nat.add_eq_left, Nat.left_eq_add, Nat.add_zero, A6, A6l, he2, H2]
      exact c97_41 (by simp) A0 (by omega) (x_fail (G := G) (α := Unit) (val := fun _ _ _ => True) R2) gx_fn (fun _ _ q => q.er (fun f e => by cases e; rw [hres]) st2 (fun _ z => Or.inr z))
    | cons l L =>
      rw [hL] at H2
      simp only [hL] at hres
      have H3 := H2
      obtain ⟨a, u, w, ea, -⟩ := H3
      simp only [r97_0, r97_0n, r97_4, r97_5, r97_6, r97_8, r97_11, r97_12, r97_12n, r97_13, r97_14, r97_16, r97_19, r97_19n, r97_20, r97_23, r97_26, r97_26n, r97_30, r97_31, r97_31n, r97_33, r97_33n, r97_35n, r97_35, r97_38, r97_38n, r97_39, r97_44, r97_44a, r97_44n, r97_45, r97_45n, r97_47, r97_47n, r97_48, r97_49, r97_51, r97_54, r97_55, r97_57, r97_60, r97_60n, r97_61, r97_66, r97_66a, r97_66n, r97_67, r97_67n, r97_71, r97_73, r97_73n, r97_74, r97_77, r97_79, r97_80, r97_82, r97_85, r97_85i, r97_86, r97_88, r97_90, r97_90n, r97_91, r97_99, r97_99n, r97_101, r97_101n, r97_102, r97_106, r97_108, r97_108n, r97_109, r97_109n, r97_114, r97_114n, r97_115, r97_115n, r97_117, r97_121, r97_121n, r97_122, r97_126, r97_126n, r97_128, r97_128n, r97_129, r97_130, r97_131, r97_132, r97_139, r97_139n, r97_140, r97_140n, r97_145, r97_145n, r97_146, r97_149, r97_152, r97_154, r97_154n, r97_156, r97_156n, r97_157, r97_157n, r97_159, r97_159n, i32_10, reduceIte, gm_cmp1, gm_cmp3, gm_cmp4, gm_kd_sf, gm_ln_sf, gm_sf_1, gm_sf_2, gm_nw_1, gm_nw_2, gm_k_int, gm_k_ref, gm_k_null, gm_k_u, gm_k_long, and_true, true_and, true_or, or_true, or_false, false_or, and_self, or_self, if_true, if_false, List.map_nil, List.map_cons, List.sum_nil, List.sum_cons, Nat.zero_le, Option.toList_some, Option.toList_none, List.cons_append, List.nil_append, ne_eq, not_false_eq_true, not_true_eq_false, nI_1, nI_add, Value.category, Nat.reduceAdd, Nat.reduceMod, Nat.reduceLeDiff, Nat.reduceLT, Nat.reduceEqDiff, Nat.reducePow, Nat.le_refl, Nat.add_left_cancel_iff, Nat.add_eq_left, Nat.left_eq_add, Nat.add_zero, A6, A6l, he2, ea]
      rw [hres]
      refine ⟨_, s2, rfl, ⟨⟨.ref a, rfl, by rw [← ea]; exact H2⟩, fun s' es => ?_⟩, R2, st2.1, st2.2.1, st2.2.2⟩
      cases es
      refine ⟨fun _ => ?_, by rw [← hL]; exact R2.2.2.2.2.2.2.2 e _ (List.getElem?_eq_getElem he)⟩
      obtain ⟨-, eu1, -⟩ := gs_u1_ok e1
      have p1 : gs_pl s1 = gs_pl s + 1 := by rw [eu1]; rfl
      have p2 : gs_pl s2 = gs_pl s1 + 4 := by rw [es2]; rfl
      have := na1.1; have := na1.2; have := na2.1; have := na2.2
      omega
  rw [if_neg t1] at hres
  have bad : ∀ (w3 w4 w5 w6 w7 : Value), res = .error (-4) → gm_W E d 97 60 [.ref x, .int (nI dp), .int (nI k), w3, w4, w5, w6, w7] [] h1 (gx_P E h x ca K F G s (fun L h' v => (∃ w, v = some w ∧ gx_ds h' x ca K F L w) ∧ ∀ s', res = .ok (L, s') → (L ≠ [] → h'.1 + 3 + gs_pl s ≤ h.1 + gs_pl s' ∧ h'.2.1 + 29 + 8 * gs_pl s ≤ h.2.1 + 8 * gs_pl s') ∧ L.length ≤ gs_dn s') res) := by
    intro w3 w4 w5 w6 w7 e
    simp only [r97_0, r97_0n, r97_4, r97_5, r97_6, r97_8, r97_11, r97_12, r97_12n, r97_13, r97_14, r97_16, r97_19, r97_19n, r97_20, r97_23, r97_26, r97_26n, r97_30, r97_31, r97_31n, r97_33, r97_33n, r97_35n, r97_35, r97_38, r97_38n, r97_39, r97_44, r97_44a, r97_44n, r97_45, r97_45n, r97_47, r97_47n, r97_48, r97_49, r97_51, r97_54, r97_55, r97_57, r97_60, r97_60n, r97_61, r97_66, r97_66a, r97_66n, r97_67, r97_67n, r97_71, r97_73, r97_73n, r97_74, r97_77, r97_79, r97_80, r97_82, r97_85, r97_85i, r97_86, r97_88, r97_90, r97_90n, r97_91, r97_99, r97_99n, r97_101, r97_101n, r97_102, r97_106, r97_108, r97_108n, r97_109, r97_109n, r97_114, r97_114n, r97_115, r97_115n, r97_117, r97_121, r97_121n, r97_122, r97_126, r97_126n, r97_128, r97_128n, r97_129, r97_130, r97_131, r97_132, r97_139, r97_139n, r97_140, r97_140n, r97_145, r97_145n, r97_146, r97_149, r97_152, r97_154, r97_154n, r97_156, r97_156n, r97_157, r97_157n, r97_159, r97_159n, i32_10, reduceIte, gm_cmp1, gm_cmp3, gm_cmp4, gm_kd_sf, gm_ln_sf, gm_sf_1, gm_sf_2, gm_nw_1, gm_nw_2, gm_k_int, gm_k_ref, gm_k_null, gm_k_u, gm_k_long, and_true, true_and, true_or, or_true, or_false, false_or, and_self, or_self, if_true, if_false, List.map_nil, List.map_cons, List.sum_nil, List.sum_cons, Nat.zero_le, Option.toList_some, Option.toList_none, List.cons_append, List.nil_append, ne_eq, not_false_eq_true, not_true_eq_false, nI_1, nI_add, Value.category, Nat.reduceAdd, Nat.reduceMod, Nat.reduceLeDiff, Nat.reduceLT, Nat.reduceEqDiff, Nat.reducePow, Nat.le_refl, Nat.add_left_cancel_iff, Nat.add_eq_left, Nat.left_eq_add, Nat.add_zero]
    exact c97_63 (by simp) R1.1.1 (by omega) (x_fail (G := G) (α := Unit) (val := fun _ _ _ => True) R1) gx_fn (fun _ _ q => q.er (fun f e2 => by cases e2; exact e) st1 (fun _ z => Or.inr z))
  by_cases t2 : t = 114
  · have t2' : ¬ t ≠ 114 := fun z => z t2
    rw [if_neg t2'] at hres
    subst t2
    have m112 : ¬ (114 : Int32) = 112 := by decide
    have m113 : ¬ (114 : Int32) = 113 := by decide
    cases up with
    | none =>
      have k8 : ¬ nI k ≤ 8 := nI_ge (a := 8) Hu (by omega)
      simp only [r97_0, r97_0n, r97_4, r97_5, r97_6, r97_8, r97_11, r97_12, r97_12n, r97_13, r97_14, r97_16, r97_19, r97_19n, r97_20, r97_23, r97_26, r97_26n, r97_30, r97_31, r97_31n, r97_33, r97_33n, r97_35n, r97_35, r97_38, r97_38n, r97_39, r97_44, r97_44a, r97_44n, r97_45, r97_45n, r97_47, r97_47n, r97_48, r97_49, r97_51, r97_54, r97_55, r97_57, r97_61, r97_66, r97_66a, r97_66n, r97_67, r97_67n, r97_71, r97_73, r97_73n, r97_74, r97_77, r97_79, r97_80, r97_82, r97_85, r97_85i, r97_86, r97_88, r97_90, r97_90n, r97_91, r97_99, r97_99n, r97_101, r97_101n, r97_102, r97_106, r97_108, r97_108n, r97_109, r97_109n, r97_114, r97_114n, r97_115, r97_115n, r97_117, r97_121, r97_121n, r97_122, r97_126, r97_126n, r97_128, r97_128n, r97_129, r97_130, r97_131, r97_132, r97_139, r97_139n, r97_140, r97_140n, r97_145, r97_145n, r97_146, r97_149, r97_152, r97_154, r97_154n, r97_156, r97_156n, r97_157, r97_157n, r97_159, r97_159n, i32_10, reduceIte, gm_cmp1, gm_cmp3, gm_cmp4, gm_kd_sf, gm_ln_sf, gm_sf_1, gm_sf_2, gm_nw_1, gm_nw_2, gm_k_int, gm_k_ref, gm_k_null, gm_k_u, gm_k_long, and_true, true_and, true_or, or_true, or_false, false_or, and_self, or_self, if_true, if_false, List.map_nil, List.map_cons, List.sum_nil, List.sum_cons, Nat.zero_le, Option.toList_some, Option.toList_none, List.cons_append, List.nil_append, ne_eq, not_false_eq_true, not_true_eq_false, nI_1, nI_add, Value.category, Nat.reduceAdd, Nat.reduceMod, Nat.reduceLeDiff, Nat.reduceLT, Nat.reduceEqDiff, Nat.reducePow, Nat.le_refl, Nat.add_left_cancel_iff, Nat.add_eq_left, Nat.left_eq_add, Nat.add_zero, m112, m113, k8]
      exact bad _ _ _ _ _ hres
    | some m =>
      obtain ⟨k8', DC⟩ := Hu
      have k8 : nI k ≤ 8 := nI_le (b := 8) k8' (by decide)
      simp only [r97_0, r97_0n, r97_4, r97_5, r97_6, r97_8, r97_11, r97_12, r97_12n, r97_13, r97_14, r97_16, r97_19, r97_19n, r97_20, r97_23, r97_26, r97_26n, r97_30, r97_31, r97_31n, r97_33, r97_33n, r97_35n, r97_35, r97_38, r97_38n, r97_39, r97_44, r97_44a, r97_44n, r97_45, r97_45n, r97_47, r97_47n, r97_48, r97_49, r97_51, r97_54, r97_55, r97_57, r97_61, r97_66, r97_66a, r97_66n, r97_67, r97_67n, r97_71, r97_73, r97_73n, r97_74, r97_77, r97_79, r97_80, r97_82, r97_85, r97_85i, r97_86, r97_88, r97_90, r97_90n, r97_91, r97_99, r97_99n, r97_101, r97_101n, r97_102, r97_106, r97_108, r97_108n, r97_109, r97_109n, r97_114, r97_114n, r97_115, r97_115n, r97_117, r97_121, r97_121n, r97_122, r97_126, r97_126n, r97_128, r97_128n, r97_129, r97_130, r97_131, r97_132, r97_139, r97_139n, r97_140, r97_140n, r97_145, r97_145n, r97_146, r97_149, r97_152, r97_154, r97_154n, r97_156, r97_156n, r97_157, r97_157n, r97_159, r97_159n, i32_10, reduceIte, gm_cmp1, gm_cmp3, gm_cmp4, gm_kd_sf, gm_ln_sf, gm_sf_1, gm_sf_2, gm_nw_1, gm_nw_2, gm_k_int, gm_k_ref, gm_k_null, gm_k_u, gm_k_long, and_true, true_and, true_or, or_true, or_false, false_or, and_self, or_self, if_true, if_false, List.map_nil, List.map_cons, List.sum_nil, List.sum_cons, Nat.zero_le, Option.toList_some, Option.toList_none, List.cons_append, List.nil_append, ne_eq, not_false_eq_true, not_true_eq_false, nI_1, nI_add, Value.category, Nat.reduceAdd, Nat.reduceMod, Nat.reduceLeDiff, Nat.reduceLT, Nat.reduceEqDiff, Nat.reducePow, Nat.le_refl, Nat.add_left_cancel_iff, Nat.add_eq_left, Nat.left_eq_add, Nat.add_zero, m112, m113, k8]
      refine c97_68 (by simp) R1.1.1 (by omega) (x_passUtf (G := fun _ => False) (by omega) R1) (fun v h2 q => ?_) (fun _ _ q => q.er (fun f e => by rw [hres]; exact gs_b_er e) st1 (fun _ z => z.elim))
      obtain ⟨nf, s2, e2, ⟨rfl, na2⟩, R2, mv2, le2, co2⟩ := q
      dsimp only at hres
      rw [gs_b_ok e2, gs_b_ok (m := gs_g) rfl] at hres
      obtain ⟨u1, u2, u3, u4⟩ := gs_utf_ok e2 R1.2.2.2.1.2.1
      obtain ⟨-, eu1, -⟩ := gs_u1_ok e1
      have st2 := st1.trans mv2 le2 co2 (fun _ z => z.elim)
      have hF2 : ∀ a, F a → a < h2.1 := fun a z => by have := hF1 a z; have := mv2.1.1; omega
      have ht2 := R2.top
      obtain ⟨nl, hnl⟩ : ∃ nl, nl = gs_pl s2 - nf := ⟨_, rfl⟩
      rw [← hnl] at hres
      -- the new descriptor
      obtain ⟨a, ha⟩ : ∃ a, a = h2.1 := ⟨_, rfl⟩
      obtain ⟨F', hF'⟩ : ∃ F' : Nat → Prop, F' = fun b => F b ∨ b = a := ⟨_, rfl⟩
      have hFa : F' a := by rw [hF']; exact Or.inr rfl
      have hFF : ∀ b, F b → F' b := fun b z => by rw [hF']; exact Or.inl z
      have naF : ¬ F a := fun z => by have := hF2 a z; omega
      obtain ⟨hn, hne⟩ : ∃ hn, hn = gm_nw h2 (1, [.int 0, .int 0, .long 0, .int 0, .int 0, .null, .null, .null, .int 0, .null]) 10 := ⟨_, rfl⟩
      have Rn : gx_R E hn x ca K F' s2 := by
        rw [hne]
        exact (R2.wk (F' := F') (fun b z => by
          rw [hF'] at z
          rcases z with z | z
          · exact Or.inr z
          · left; omega)).new
      have kn : gm_kd hn a = 1 := by rw [hne, ha, gm_kd_nw1]; rfl
      have hn1 : hn.1 = h2.1 + 1 ∧ hn.2.1 = h2.2.1 + 10 := by rw [hne]; exact ⟨rfl, rfl⟩
      have stn : gx_st h s x G hn s2 := by
        refine ⟨st2.1.trans (G1 := G) (by rw [hne]; exact gx_mv.new ht2) st2.2.1 (fun _ z => Or.inr z), st2.2.1, ?_⟩
        have := na1.1; have := na1.2; have := na2.1; have := na2.2
        have p1 : gs_pl s1 = gs_pl s + 1 := by rw [eu1]; rfl
        unfold gx_co
        omega
      have hFn : ∀ b, F' b → b < hn.1 := fun b z => by
        rw [hF'] at z
        rcases z with z | z
        · have := hF2 b z; omega
        · omega
      simp only [r97_0, r97_0n, r97_4, r97_5, r97_6, r97_8, r97_11, r97_12, r97_12n, r97_13, r97_14, r97_16, r97_19, r97_19n, r97_20, r97_23, r97_26, r97_26n, r97_30, r97_31, r97_31n, r97_33, r97_33n, r97_35n, r97_35, r97_38, r97_38n, r97_39, r97_44, r97_44a, r97_44n, r97_45, r97_45n, r97_47, r97_47n, r97_48, r97_49, r97_51, r97_54, r97_55, r97_57, r97_61, r97_66, r97_66a, r97_66n, r97_67, r97_67n, r97_71, r97_73, r97_73n, r97_74, r97_77, r97_79, r97_80, r97_82, r97_85, r97_85i, r97_86, r97_88, r97_90, r97_90n, r97_91, r97_99, r97_99n, r97_101, r97_101n, r97_102, r97_106, r97_108, r97_108n, r97_109, r97_109n, r97_114, r97_114n, r97_115, r97_115n, r97_117, r97_121, r97_121n, r97_122, r97_126, r97_126n, r97_128, r97_128n, r97_129, r97_130, r97_131, r97_132, r97_139, r97_139n, r97_140, r97_140n, r97_145, r97_145n, r97_146, r97_149, r97_152, r97_154, r97_154n, r97_156, r97_156n, r97_157, r97_157n, r97_159, r97_159n, i32_10, reduceIte, gm_cmp1, gm_cmp3, gm_cmp4, gm_kd_sf, gm_ln_sf, gm_sf_1, gm_sf_2, gm_nw_1, gm_nw_2, gm_k_int, gm_k_ref, gm_k_null, gm_k_u, gm_k_long, and_true, true_and, true_or, or_true, or_false, false_or, and_self, or_self, if_true, if_false, List.map_nil, List.map_cons, List.sum_nil, List.sum_cons, Nat.zero_le, Option.toList_some, Option.toList_none, List.cons_append, List.nil_append, ne_eq, not_false_eq_true, not_true_eq_false, nI_1, nI_add, Value.category, Nat.reduceAdd, Nat.reduceMod, Nat.reduceLeDiff, Nat.reduceLT, Nat.reduceEqDiff, Nat.reducePow, Nat.le_refl, Nat.add_left_cancel_iff, Nat.add_eq_left, Nat.left_eq_add, Nat.add_zero, R2.1.1, R2.2.2.2.1.1, nI_sub u2, ← hnl]
      rw [← hne, ← ha]
      refine c97_93 (by simp [Value.category]) Rn.1.1 (by omega) (x_nextNumber (G := fun _ => False) (z := 8) (by omega) Rn (by decide)) (fun v h3 q => ?_) (fun _ _ q => q.er (fun f e => by rw [hres]; exact gs_b_er e) stn (fun _ z => z.elim))
      obtain ⟨id, s3, e3, ⟨rfl, na3⟩, R3, mv3, le3, co3⟩ := q
      rw [gs_b_ok e3] at hres
      have st3 := stn.trans mv3 le3 co3 (fun _ z => z.elim)
      have r3a : gm_rd h3 a = gm_rd hn a := mv3.1.2 a ⟨Or.inr (by omega), by omega, fun z => z⟩
      have k3 : gm_kd h3 a = 1 := (gv_kd r3a).trans kn
      simp only [i32_10, reduceIte, gm_cmp1, gm_cmp3, gm_cmp4, gm_kd_sf, gm_ln_sf, gm_sf_1, gm_sf_2, gm_nw_1, gm_nw_2, gm_k_int, gm_k_ref, gm_k_null, gm_k_u, gm_k_long, and_true, true_and, true_or, or_true, or_false, false_or, and_self, or_self, if_true, if_false, List.map_nil, List.map_cons, List.sum_nil, List.sum_cons, Nat.zero_le, Option.toList_some, Option.toList_none, List.cons_append, List.nil_append, ne_eq, not_false_eq_true, not_true_eq_false, nI_1, nI_add, Value.category, Nat.reduceAdd, Nat.reduceMod, Nat.reduceLeDiff, Nat.reduceLT, Nat.reduceEqDiff, Nat.reducePow, Nat.le_refl, Nat.add_left_cancel_iff, Nat.add_eq_left, Nat.left_eq_add, Nat.add_zero]
      refine c97_96 (by simp [Value.category]) (by omega) (x_Descriptor k3) (gx_kn ?_) gx_kx
      obtain ⟨h4, h4e⟩ : ∃ h4, h4 = gm_sf (gm_sf (gm_sf h3 a 0 (.int (nI nf))) a 1 (.int (nI nl))) a 2 (.long id) := ⟨_, rfl⟩
      rw [← h4e]
      have la : gm_ln h3 a = 10 := gm_kd_ln k3 (by decide)
      have hxa : x + 6 < a := by omega
      have hGa : h.1 ≤ a := by have := st2.1.1.1; omega
      have R4 : gx_R E h4 x ca K F' s3 := by rw [h4e]; exact ((R3.out hFa hxa).out hFa hxa).out hFa hxa
      have st4 : gx_st h s x G h4 s3 := by rw [h4e]; exact ((st3.sf (Or.inl hGa) (Or.inr hxa)).sf (Or.inl hGa) (Or.inr hxa)).sf (Or.inl hGa) (Or.inr hxa)
      have h41 : h4.1 = h3.1 := by rw [h4e]; simp only [gm_sf_1]
      have k4 : gm_kd h4 a = 1 := by rw [h4e]; simp only [gm_kd_sf]; exact k3
      have f40 : gm_fv h4 a 0 = .int (nI nf) := by rw [h4e, gm_fv_sfj (by decide), gm_fv_sfj (by decide), gm_fv_sf (by rw [la]; decide)]
      have f41 : gm_fv h4 a 1 = .int (nI nl) := by rw [h4e, gm_fv_sfj (by decide), gm_fv_sf (by simp only [gm_ln_sf]; rw [la]; decide)]
      have f42 : gm_fv h4 a 2 = .long id := by rw [h4e, gm_fv_sf (by simp only [gm_ln_sf]; rw [la]; decide)]
      have h23 : hn.1 ≤ h3.1 := mv3.1.1
      simp only [r97_0, r97_0n, r97_4, r97_5, r97_6, r97_8, r97_11, r97_12, r97_12n, r97_13, r97_14, r97_16, r97_19, r97_19n, r97_20, r97_23, r97_26, r97_26n, r97_30, r97_31, r97_31n, r97_33, r97_33n, r97_35n, r97_35, r97_38, r97_38n, r97_39, r97_44, r97_44a, r97_44n, r97_45, r97_45n, r97_47, r97_47n, r97_48, r97_49, r97_51, r97_54, r97_55, r97_57, r97_61, r97_66, r97_66a, r97_66n, r97_67, r97_67n, r97_71, r97_73, r97_73n, r97_74, r97_77, r97_79, r97_80, r97_82, r97_85, r97_85i, r97_86, r97_88, r97_90, r97_90n, r97_91, r97_99, r97_99n, r97_101, r97_101n, r97_102, r97_106, r97_108, r97_108n, r97_109, r97_109n, r97_114, r97_114n, r97_115, r97_115n, r97_117, r97_121, r97_121n, r97_122, r97_126, r97_126n, r97_128, r97_128n, r97_129, r97_130, r97_131, r97_132, r97_139, r97_139n, r97_140, r97_140n, r97_145, r97_145n, r97_146, r97_149, r97_152, r97_154, r97_154n, r97_156, r97_156n, r97_157, r97_157n, r97_159, r97_159n, i32_10, reduceIte, gm_cmp1, gm_cmp3, gm_cmp4, gm_kd_sf, gm_ln_sf, gm_sf_1, gm_sf_2, gm_nw_1, gm_nw_2, gm_k_int, gm_k_ref, gm_k_null, gm_k_u, gm_k_long, and_true, true_and, true_or, or_true, or_false, false_or, and_self, or_self, if_true, if_false, List.map_nil, List.map_cons, List.sum_nil, List.sum_cons, Nat.zero_le, Option.toList_some, Option.toList_none, List.cons_append, List.nil_append, ne_eq, not_false_eq_true, not_true_eq_false, nI_1, nI_add, Value.category, Nat.reduceAdd, Nat.reduceMod, Nat.reduceLeDiff, Nat.reduceLT, Nat.reduceEqDiff, Nat.reducePow, Nat.le_refl, Nat.add_left_cancel_iff, Nat.add_eq_left, Nat.left_eq_add, Nat.add_zero]
      refine c97_103 (by simp) R4.1.1 (by omega) (x_addEntry (G := fun _ => False) (by omega) R4) (fun v h5 q => ?_) (fun _ _ q => q.er (fun f e => by rw [hres]; exact gs_b_er e) st4 (fun _ z => z.elim))
      obtain ⟨e, s5, e5, ⟨rfl, na5⟩, R5, mv5, le5, co5⟩ := q
      rw [gs_b_ok e5] at hres
      obtain ⟨ee, es5⟩ := gs_addE_ok e5
      have st5 := st4.trans mv5 le5 co5 (fun _ z => z.elim)
      have h45 : h4.1 ≤ h5.1 := mv5.1.1
      have r5a : gm_rd h5 a = gm_rd h4 a := mv5.1.2 a ⟨Or.inr hxa, by omega, fun z => z⟩
      have k5 : gm_kd h5 a = 1 := (gv_kd r5a).trans k4
      have f52 : gm_fv h5 a 2 = .long id := (gv_fv r5a).trans f42
      have la5 : gm_ln h5 a = 10 := gm_kd_ln k5 (by decide)
      simp only [r97_0, r97_0n, r97_4, r97_5, r97_6, r97_8, r97_11, r97_12, r97_12n, r97_13, r97_14, r97_16, r97_19, r97_19n, r97_20, r97_23, r97_26, r97_26n, r97_30, r97_31, r97_31n, r97_33, r97_33n, r97_35n, r97_35, r97_38, r97_38n, r97_39, r97_44, r97_44a, r97_44n, r97_45, r97_45n, r97_47, r97_47n, r97_48, r97_49, r97_51, r97_54, r97_55, r97_57, r97_61, r97_66, r97_66a, r97_66n, r97_67, r97_67n, r97_71, r97_73, r97_73n, r97_74, r97_77, r97_79, r97_80, r97_82, r97_85, r97_85i, r97_86, r97_88, r97_90, r97_90n, r97_91, r97_99, r97_99n, r97_101, r97_101n, r97_102, r97_106, r97_108, r97_108n, r97_109, r97_109n, r97_114, r97_114n, r97_115, r97_115n, r97_117, r97_121, r97_121n, r97_122, r97_126, r97_126n, r97_128, r97_128n, r97_129, r97_130, r97_131, r97_132, r97_139, r97_139n, r97_140, r97_140n, r97_145, r97_145n, r97_146, r97_149, r97_152, r97_154, r97_154n, r97_156, r97_156n, r97_157, r97_157n, r97_159, r97_159n, i32_10, reduceIte, gm_cmp1, gm_cmp3, gm_cmp4, gm_kd_sf, gm_ln_sf, gm_sf_1, gm_sf_2, gm_nw_1, gm_nw_2, gm_k_int, gm_k_ref, gm_k_null, gm_k_u, gm_k_long, and_true, true_and, true_or, or_true, or_false, false_or, and_self, or_self, if_true, if_false, List.map_nil, List.map_cons, List.sum_nil, List.sum_cons, Nat.zero_le, Option.toList_some, Option.toList_none, List.cons_append, List.nil_append, ne_eq, not_false_eq_true, not_true_eq_false, nI_1, nI_add, Value.category, Nat.reduceAdd, Nat.reduceMod, Nat.reduceLeDiff, Nat.reduceLT, Nat.reduceEqDiff, Nat.reducePow, Nat.le_refl, Nat.add_left_cancel_iff, Nat.add_eq_left, Nat.left_eq_add, Nat.add_zero]
      refine c97_111 (by simp) (by simp [gm_en1]) R5.1.1 (by omega) (x_readFlags (G := fun b => b = a) (by omega) R5 k5 f52 hFa hxa (by omega) rfl) (fun v h6 q => ?_) (fun _ _ q => q.er (fun f e => by rw [hres]; exact gs_b_er e) st5 (fun b z => Or.inl (by omega)))
      obtain ⟨fl, s6, e6, ⟨rfl, na6, rd6⟩, R6, mv6, le6, co6⟩ := q
      rw [gs_b_ok e6] at hres
      have st6 := st5.trans mv6 le6 co6 (fun b z => Or.inl (by omega))
      have h56 : h5.1 ≤ h6.1 := mv6.1.1
      have k6 : gm_kd h6 a = 1 := (gv_kd rd6).trans (by rw [gm_kd_sf]; exact k5)
      have f6 : ∀ j, j ≠ 3 → gm_fv h6 a j = gm_fv h5 a j := fun j hj => (gv_fv rd6).trans (gm_fv_sfj hj)
      have f63 : gm_fv h6 a 3 = .int fl := (gv_fv rd6).trans (gm_fv_sf (by rw [la5]; decide))
      have hF6 : ∀ b, F' b → b < h6.1 := fun b z => by have := hFn b z; omega
      simp only [r97_0, r97_0n, r97_4, r97_5, r97_6, r97_8, r97_11, r97_12, r97_12n, r97_13, r97_14, r97_16, r97_19, r97_19n, r97_20, r97_23, r97_26, r97_26n, r97_30, r97_31, r97_31n, r97_33, r97_33n, r97_35n, r97_35, r97_38, r97_38n, r97_39, r97_44, r97_44a, r97_44n, r97_45, r97_45n, r97_47, r97_47n, r97_48, r97_49, r97_51, r97_54, r97_55, r97_57, r97_61, r97_66, r97_66a, r97_66n, r97_67, r97_67n, r97_71, r97_73, r97_73n, r97_74, r97_77, r97_79, r97_80, r97_82, r97_85, r97_85i, r97_86, r97_88, r97_90, r97_90n, r97_91, r97_99, r97_99n, r97_101, r97_101n, r97_102, r97_106, r97_108, r97_108n, r97_109, r97_109n, r97_114, r97_114n, r97_115, r97_115n, r97_117, r97_121, r97_121n, r97_122, r97_126, r97_126n, r97_128, r97_128n, r97_129, r97_130, r97_131, r97_132, r97_139, r97_139n, r97_140, r97_140n, r97_145, r97_145n, r97_146, r97_149, r97_152, r97_154, r97_154n, r97_156, r97_156n, r97_157, r97_157n, r97_159, r97_159n, i32_10, reduceIte, gm_cmp1, gm_cmp3, gm_cmp4, gm_kd_sf, gm_ln_sf, gm_sf_1, gm_sf_2, gm_nw_1, gm_nw_2, gm_k_int, gm_k_ref, gm_k_null, gm_k_u, gm_k_long, and_true, true_and, true_or, or_true, or_false, false_or, and_self, or_self, if_true, if_false, List.map_nil, List.map_cons, List.sum_nil, List.sum_cons, Nat.zero_le, Option.toList_some, Option.toList_none, List.cons_append, List.nil_append, ne_eq, not_false_eq_true, not_true_eq_false, nI_1, nI_add, Value.category, Nat.reduceAdd, Nat.reduceMod, Nat.reduceLeDiff, Nat.reduceLT, Nat.reduceEqDiff, Nat.reducePow, Nat.le_refl, Nat.add_left_cancel_iff, Nat.add_eq_left, Nat.left_eq_add, Nat.add_zero]
      refine c97_118 (by simp) (by simp [gm_en1]) R6.1.1 (by omega) (x_readStreamFields (G := fun b => b = a) C (by omega) (by omega) R6 hF6 k6 f63 hFa hxa rfl) (fun v h7 q => ?_) (fun _ _ q => q.er (fun f e => by rw [hres]; exact gs_b_er e) st6 (fun b z => Or.inl (by omega)))
      obtain ⟨fs, s7, e7, ⟨rfl, fs8, u, w, ⟨hu1, hu2, hw1, hw2⟩, lp7⟩, R7, mv7, le7, co7⟩ := q
      rw [gs_b_ok e7] at hres
      have st7 := st6.trans mv7 le7 co7 (fun b z => Or.inl (by omega))
      have h67 : h6.1 ≤ h7.1 := mv7.1.1
      have hF7 : ∀ b, F' b → b < h7.1 := fun b z => by have := hF6 b z; omega
      simp only [r97_0, r97_0n, r97_4, r97_5, r97_6, r97_8, r97_11, r97_12, r97_12n, r97_13, r97_14, r97_16, r97_19, r97_19n, r97_20, r97_23, r97_26, r97_26n, r97_30, r97_31, r97_31n, r97_33, r97_33n, r97_35n, r97_35, r97_38, r97_38n, r97_39, r97_44, r97_44a, r97_44n, r97_45, r97_45n, r97_47, r97_47n, r97_48, r97_49, r97_51, r97_54, r97_55, r97_57, r97_61, r97_66, r97_66a, r97_66n, r97_67, r97_67n, r97_71, r97_73, r97_73n, r97_74, r97_77, r97_79, r97_80, r97_82, r97_85, r97_85i, r97_86, r97_88, r97_90, r97_90n, r97_91, r97_99, r97_99n, r97_101, r97_101n, r97_102, r97_106, r97_108, r97_108n, r97_109, r97_109n, r97_114, r97_114n, r97_115, r97_115n, r97_117, r97_121, r97_121n, r97_122, r97_126, r97_126n, r97_128, r97_128n, r97_129, r97_130, r97_131, r97_132, r97_139, r97_139n, r97_140, r97_140n, r97_145, r97_145n, r97_146, r97_149, r97_152, r97_154, r97_154n, r97_156, r97_156n, r97_157, r97_157n, r97_159, r97_159n, i32_10, reduceIte, gm_cmp1, gm_cmp3, gm_cmp4, gm_kd_sf, gm_ln_sf, gm_sf_1, gm_sf_2, gm_nw_1, gm_nw_2, gm_k_int, gm_k_ref, gm_k_null, gm_k_u, gm_k_long, and_true, true_and, true_or, or_true, or_false, false_or, and_self, or_self, if_true, if_false, List.map_nil, List.map_cons, List.sum_nil, List.sum_cons, Nat.zero_le, Option.toList_some, Option.toList_none, List.cons_append, List.nil_append, ne_eq, not_false_eq_true, not_true_eq_false, nI_1, nI_add, Value.category, Nat.reduceAdd, Nat.reduceMod, Nat.reduceLeDiff, Nat.reduceLT, Nat.reduceEqDiff, Nat.reducePow, Nat.le_refl, Nat.add_left_cancel_iff, Nat.add_eq_left, Nat.left_eq_add, Nat.add_zero]
      refine c97_123 (by simp) R7.1.1 (by omega) (x_passRest (G := fun _ => False) C hK hdp (by omega) (by omega) R7 hF7) (fun v h8 q => ?_) (fun _ _ q => q.er (fun f e => by rw [hres]; exact gs_b_er e) st7 (fun _ z => z.elim))
      obtain ⟨_, s8, e8, rfl, R8, mv8, le8, co8⟩ := q
      rw [gs_b_ok e8] at hres
      have st8 := st7.trans mv8 le8 co8 (fun _ z => z.elim)
      have h78 : h7.1 ≤ h8.1 := mv8.1.1
      have hF8 : ∀ b, F' b → b < h8.1 := fun b z => by have := hF7 b z; omega
      have lp8 := lp7.tr (mv8.1.2 a ⟨Or.inr hxa, by omega, fun z => z⟩) (mv8.1.2 u ⟨Or.inr (by omega), by omega, fun z => z⟩) (mv8.1.2 w ⟨Or.inr (by omega), by omega, fun z => z⟩)
      simp only [r97_0, r97_0n, r97_4, r97_5, r97_6, r97_8, r97_11, r97_12, r97_12n, r97_13, r97_14, r97_16, r97_19, r97_19n, r97_20, r97_23, r97_26, r97_26n, r97_30, r97_31, r97_31n, r97_33, r97_33n, r97_35n, r97_35, r97_38, r97_38n, r97_39, r97_44, r97_44a, r97_44n, r97_45, r97_45n, r97_47, r97_47n, r97_48, r97_49, r97_51, r97_54, r97_55, r97_57, r97_61, r97_66, r97_66a, r97_66n, r97_67, r97_67n, r97_71, r97_73, r97_73n, r97_74, r97_77, r97_79, r97_80, r97_82, r97_85, r97_85i, r97_86, r97_88, r97_90, r97_90n, r97_91, r97_99, r97_99n, r97_101, r97_101n, r97_102, r97_106, r97_108, r97_108n, r97_109, r97_109n, r97_114, r97_114n, r97_115, r97_115n, r97_117, r97_121, r97_121n, r97_122, r97_126, r97_126n, r97_128, r97_128n, r97_129, r97_130, r97_131, r97_132, r97_139, r97_139n, r97_140, r97_140n, r97_145, r97_145n, r97_146, r97_149, r97_152, r97_154, r97_154n, r97_156, r97_156n, r97_157, r97_157n, r97_159, r97_159n, i32_10, reduceIte, gm_cmp1, gm_cmp3, gm_cmp4, gm_kd_sf, gm_ln_sf, gm_sf_1, gm_sf_2, gm_nw_1, gm_nw_2, gm_k_int, gm_k_ref, gm_k_null, gm_k_u, gm_k_long, and_true, true_and, true_or, or_true, or_false, false_or, and_self, or_self, if_true, if_false, List.map_nil, List.map_cons, List.sum_nil, List.sum_cons, Nat.zero_le, Option.toList_some, Option.toList_none, List.cons_append, List.nil_append, ne_eq, not_false_eq_true, not_true_eq_false, nI_1, nI_add, Value.category, Nat.reduceAdd, Nat.reduceMod, Nat.reduceLeDiff, Nat.reduceLT, Nat.reduceEqDiff, Nat.reducePow, Nat.le_refl, Nat.add_left_cancel_iff, Nat.add_eq_left, Nat.left_eq_add, Nat.add_zero]
      refine c97_133 (by simp [Value.category]) R8.1.1 (by omega) (DC (d - 1) h8 s8 F' (fun _ => False) (Nat.le_refl _) R8 hF8) (fun v h9 q => ?_) (fun _ _ q => q.er (fun f e => by rw [hres]; exact gs_b_er e) st8 (fun _ z => z.elim))
      obtain ⟨L, s9, e9, ⟨⟨vp, rfl, ds9⟩, sur9⟩, R9, mv9, le9, co9⟩ := q
      rw [gs_b_ok e9] at hres
      have st9 := st8.trans mv9 le9 co9 (fun _ z => z.elim)
      have h89 : h8.1 ≤ h9.1 := mv9.1.1
      have lp9 := lp8.tr (mv9.1.2 a ⟨Or.inr hxa, by omega, fun z => z⟩) (mv9.1.2 u ⟨Or.inr (by omega), by omega, fun z => z⟩) (mv9.1.2 w ⟨Or.inr (by omega), by omega, fun z => z⟩)
      have lp9' := lp9
      obtain ⟨q1, q2, q3, q4, q5, q6, q7, q8, q9, q10⟩ := lp9'
      have la9 : gm_ln h9 a = 10 := gm_kd_ln q1 (by decide)
      obtain ⟨l, hl⟩ : ∃ l : gs_L, l = (nf, nl, id, fl, fs, gs_find K nf nl) := ⟨_, rfl⟩
      rw [← hl] at hres
      have D9 : gx_d0 h9 a u w l := by
        rw [hl]
        refine ⟨q1, ?_, ?_, ?_, ?_, q3, q4, q5, q6, q7, q8, q9, fs8, q10⟩
        · rw [q2 0 (by decide) (by decide) (by decide), f6 0 (by decide), gv_fv r5a]; exact f40
        · rw [q2 1 (by decide) (by decide) (by decide), f6 1 (by decide), gv_fv r5a]; exact f41
        · rw [q2 2 (by decide) (by decide) (by decide), f6 2 (by decide), gv_fv r5a]; exact f42
        · rw [q2 3 (by decide) (by decide) (by decide)]; exact f63
      simp only [i32_10, reduceIte, gm_cmp1, gm_cmp3, gm_cmp4, gm_kd_sf, gm_ln_sf, gm_sf_1, gm_sf_2, gm_nw_1, gm_nw_2, gm_k_int, gm_k_ref, gm_k_null, gm_k_u, gm_k_long, and_true, true_and, true_or, or_true, or_false, false_or, and_self, or_self, if_true, if_false, List.map_nil, List.map_cons, List.sum_nil, List.sum_cons, Nat.zero_le, Option.toList_some, Option.toList_none, List.cons_append, List.nil_append, ne_eq, not_false_eq_true, not_true_eq_false, nI_1, nI_add, Value.category, Nat.reduceAdd, Nat.reduceMod, Nat.reduceLeDiff, Nat.reduceLT, Nat.reduceEqDiff, Nat.reducePow, Nat.le_refl, Nat.add_left_cancel_iff, Nat.add_eq_left, Nat.left_eq_add, Nat.add_zero]
      have en1 : (gm_en1 [Value.ref a, vp]).length ≤ 2 := by
        cases L with
        | nil => have : vp = .null := ds9; rw [this]; simp [gm_en1]
        | cons l L => obtain ⟨b, _, _, e, _⟩ := ds9; rw [e]; simp [gm_en1]
      refine c97_136 (by simp) en1 q1 (by omega) (x_putUnder q1 ds9 hFa) (gx_kn ?_) gx_kx
      obtain ⟨h10, h10e⟩ : ∃ h10, h10 = gm_sf (gm_sf h9 a 7 vp) a 8 (.int (nI L.length)) := ⟨_, rfl⟩
      rw [← h10e]
      have ua : u ≠ a := by omega
      have wa : w ≠ a := by omega
      have R10 : gx_R E h10 x ca K F' s9 := by rw [h10e]; exact (R9.out hFa hxa).out hFa hxa
      have st10 : gx_st h s x G h10 s9 := by rw [h10e]; exact (st9.sf (Or.inl hGa) (Or.inr hxa)).sf (Or.inl hGa) (Or.inr hxa)
      have h101 : h10.1 = h9.1 := by rw [h10e]; simp only [gm_sf_1]
      have D10 : gx_d0 h10 a u w l := by rw [h10e]; exact (D9.sf (by decide) ua wa).sf (by decide) ua wa
      have f107 : gm_fv h10 a 7 = vp := by rw [h10e, gm_fv_sfj (by decide), gm_fv_sf (by rw [la9]; decide)]
      have f108 : gm_fv h10 a 8 = .int (nI L.length) := by rw [h10e, gm_fv_sf (by rw [gm_ln_sf, la9]; decide)]
      have ds10 : gx_ds h10 x ca K F' L vp := by rw [h10e]; exact (ds9.tr (gx_ag.sf fun z => z.2.2 hFa)).tr (gx_ag.sf fun z => z.2.2 hFa)
      have la10 : gm_ln h10 a = 10 := gm_kd_ln D10.1 (by decide)
      simp only [r97_0, r97_0n, r97_4, r97_5, r97_6, r97_8, r97_11, r97_12, r97_12n, r97_13, r97_14, r97_16, r97_19, r97_19n, r97_20, r97_23, r97_26, r97_26n, r97_30, r97_31, r97_31n, r97_33, r97_33n, r97_35n, r97_35, r97_38, r97_38n, r97_39, r97_44, r97_44a, r97_44n, r97_45, r97_45n, r97_47, r97_47n, r97_48, r97_49, r97_51, r97_54, r97_55, r97_57, r97_61, r97_66, r97_66a, r97_66n, r97_67, r97_67n, r97_71, r97_73, r97_73n, r97_74, r97_77, r97_79, r97_80, r97_82, r97_85, r97_85i, r97_86, r97_88, r97_90, r97_90n, r97_91, r97_99, r97_99n, r97_101, r97_101n, r97_102, r97_106, r97_108, r97_108n, r97_109, r97_109n, r97_114, r97_114n, r97_115, r97_115n, r97_117, r97_121, r97_121n, r97_122, r97_126, r97_126n, r97_128, r97_128n, r97_129, r97_130, r97_131, r97_132, r97_139, r97_139n, r97_140, r97_140n, r97_145, r97_145n, r97_146, r97_149, r97_152, r97_154, r97_154n, r97_156, r97_156n, r97_157, r97_157n, r97_159, r97_159n, i32_10, reduceIte, gm_cmp1, gm_cmp3, gm_cmp4, gm_kd_sf, gm_ln_sf, gm_sf_1, gm_sf_2, gm_nw_1, gm_nw_2, gm_k_int, gm_k_ref, gm_k_null, gm_k_u, gm_k_long, and_true, true_and, true_or, or_true, or_false, false_or, and_self, or_self, if_true, if_false, List.map_nil, List.map_cons, List.sum_nil, List.sum_cons, Nat.zero_le, Option.toList_some, Option.toList_none, List.cons_append, List.nil_append, ne_eq, not_false_eq_true, not_true_eq_false, nI_1, nI_add, Value.category, Nat.reduceAdd, Nat.reduceMod, Nat.reduceLeDiff, Nat.reduceLT, Nat.reduceEqDiff, Nat.reducePow, Nat.le_refl, Nat.add_left_cancel_iff, Nat.add_eq_left, Nat.left_eq_add, Nat.add_zero]
      refine c97_142 (by simp) (by simp [gm_en1]) R10.1.1 (by omega) (x_matchLocalClass (G := fun b => b = a) (by omega) R10 D10 hFa hxa ua wa (by rw [hl]; show nf + nl ≤ gs_n K; omega) rfl) (fun v h11 q => ?_) (fun _ _ q => q.er (fun f e => by rw [hres]; exact gs_b_er e) st10 (fun b z => Or.inl (by omega)))
      obtain ⟨_, s11, e11, ⟨rfl, eh11⟩, R11, mv11, le11, co11⟩ := q
      rw [gs_b_ok e11] at hres
      have st11 := st10.trans mv11 le11 co11 (fun b z => Or.inl (by omega))
      have es11 : s11 = s9 := by
        unfold gs_mch at e11
        split at e11
        · cases e11
        · split at e11
          · cases e11
          · cases e11; rfl
      have D11 : gx_d0 h11 a u w l := by rw [eh11]; exact D10.sf (by decide) ua wa
      have ds11 : gx_ds h11 x ca K F' L vp := by rw [eh11]; exact ds10.tr (gx_ag.sf fun z => z.2.2 hFa)
      have h111 : h11.1 = h10.1 := by rw [eh11, gm_sf_1]
      have f117 : gm_fv h11 a 7 = vp := by rw [eh11, gm_fv_sfj (by decide)]; exact f107
      have f118 : gm_fv h11 a 8 = .int (nI L.length) := by rw [eh11, gm_fv_sfj (by decide)]; exact f108
      have f119 : gm_fv h11 a 9 = gx_ow ca (gs_own l) := by
        rw [eh11, gm_fv_sf (by rw [la10]; decide), hl]
        rfl
      have RF : gx_R E h11 x ca K F s11 := R11.wk (fun b z => Or.inr (hFF b z))
      have okf : ∀ b, x + 6 < b → b < h11.1 → h.1 ≤ b → gx_ok h11 x F b := fun b z1 z2 z3 => ⟨Or.inr z1, z2, fun z => by have := hF b z; omega⟩
      have dsF : gx_ds h11 x ca K F (l :: L) (.ref a) := by
        obtain ⟨d1, d2, d3, d4, d5, d6, d7, d8, d9, d10, d11, d12, d13, d14⟩ := D11
        refine ⟨a, u, w, rfl, okf a hxa (by omega) hGa, okf u (by omega) (by omega) (by omega), okf w (by omega) (by omega) (by omega), d1, d2, d3, d4, d5, d6, d7, d8, f118, f119, d9, d10, d11, d12, ⟨d13, ?_⟩, ?_, ?_, d14, ?_⟩
        · intro c hc
          obtain ⟨C', hC'⟩ := Option.isSome_iff_exists.mp hc
          obtain ⟨-, -, ⟨-, -, o3⟩, -⟩ := R.2.2.1.at hC'
          have := o3.2.1
          have := st6.1.1.1
          omega
        · rw [hl]; show nf + nl ≤ gs_n K; omega
        · intro c hc
          rw [hl] at hc
          have hc : gs_find K nf nl = some c := hc
          rw [gs_cn_def] at hc
          split at hc
          · cases hc
          · split at hc
            · rename_i z
              cases hc
              obtain ⟨C', hC'⟩ := Option.isSome_iff_exists.mp z
              exact ⟨(R11.2.2.1.wf _ _ hC').1, z⟩
            · cases hc
        · rw [f117]
          exact ds11.wk (fun b z => Or.inr (hFF b z))
      obtain ⟨A0, -, -, -, A10, -, -, -, -, -, -, A4, -, A41, -, -, A6, A6l, -⟩ := R11.1
      have hle : (gs_hs s).length ≤ e := by
        have := st4.2.1.2
        omega
      have hlt : e < (gs_hs s11).length := by
        have h1 := le6.2
        have h2 := le7.2
        have h3 := le8.2
        have h4 := le9.2
        have h5 : (gs_hs s5).length = (gs_hs s3).length + 1 := by rw [es5]; simp [gs_hs]
        rw [es11]
        omega
      have h234 := R11.2.2.2.1.2.2.2.2.2.2.2.1
      have he2 : e < 234 := by omega
      have hLn : (l :: L).length ≤ gs_dn s11 + 1 := by
        have := (sur9 s9 e9).2
        rw [es11]
        simp
        omega
      have hee : (gs_hs s11)[e].2 = [] := by
        have hes : e < (gs_hs s5).length := by rw [es5]; simp [gs_hs] at ee ⊢; omega
        have e5n : gm_fv h5 (x + 6) e = .null := by
          obtain ⟨-, q⟩ := R5.2.2.2.2.2.1 e (-1, []) (by
            rw [es5]
            show (gs_hs s3 ++ [(-1, [])])[e]? = _
            rw [ee]
            simp)
          exact q
        have e6n := ((mv6.2.2.2.2 e hes).2).trans e5n
        have e7n := ((mv7.2.2.2.2 e (Nat.lt_of_lt_of_le hes le6.2)).2).trans e6n
        have e8n := ((mv8.2.2.2.2 e (Nat.lt_of_lt_of_le hes (Nat.le_trans le6.2 le7.2))).2).trans e7n
        have e9n := ((mv9.2.2.2.2 e (Nat.lt_of_lt_of_le hes (Nat.le_trans le6.2 (Nat.le_trans le7.2 le8.2)))).2).trans e8n
        have e10n : gm_fv h10 (x + 6) e = .null := by rw [h10e, gm_fv_sfa (by omega), gm_fv_sfa (by omega)]; exact e9n
        have e11n : gm_fv h11 (x + 6) e = .null := by rw [eh11, gm_fv_sfa (by omega)]; exact e10n
        obtain ⟨-, q⟩ := R11.2.2.2.2.2.1 e _ (List.getElem?_eq_getElem hlt)
        rw [e11n] at q
        cases hz : (gs_hs s11)[e].2 with
        | nil => rfl
        | cons l0 L0 =>
          rw [hz] at q
          obtain ⟨_, _, _, z, _⟩ := q
          cases z
      have l6 : (1 : Nat) < 6 := by decide
      simp only [r97_0, r97_0n, r97_4, r97_5, r97_6, r97_8, r97_11, r97_12, r97_12n, r97_13, r97_14, r97_16, r97_19, r97_19n, r97_20, r97_23, r97_26, r97_26n, r97_30, r97_31, r97_31n, r97_33, r97_33n, r97_35n, r97_35, r97_38, r97_38n, r97_39, r97_44, r97_44a, r97_44n, r97_45, r97_45n, r97_47, r97_47n, r97_48, r97_49, r97_51, r97_54, r97_55, r97_57, r97_61, r97_66, r97_66a, r97_66n, r97_67, r97_67n, r97_71, r97_73, r97_73n, r97_74, r97_77, r97_79, r97_80, r97_82, r97_85, r97_85i, r97_86, r97_88, r97_90, r97_90n, r97_91, r97_99, r97_99n, r97_101, r97_101n, r97_102, r97_106, r97_108, r97_108n, r97_109, r97_109n, r97_114, r97_114n, r97_115, r97_115n, r97_117, r97_121, r97_121n, r97_122, r97_126, r97_126n, r97_128, r97_128n, r97_129, r97_130, r97_131, r97_132, r97_139, r97_139n, r97_140, r97_140n, r97_145, r97_145n, r97_146, r97_149, r97_152, r97_154, r97_154n, r97_156, r97_156n, r97_157, r97_157n, r97_159, r97_159n, i32_10, reduceIte, gm_cmp1, gm_cmp3, gm_cmp4, gm_kd_sf, gm_ln_sf, gm_sf_1, gm_sf_2, gm_nw_1, gm_nw_2, gm_k_int, gm_k_ref, gm_k_null, gm_k_u, gm_k_long, and_true, true_and, true_or, or_true, or_false, false_or, and_self, or_self, if_true, if_false, List.map_nil, List.map_cons, List.sum_nil, List.sum_cons, Nat.zero_le, Option.toList_some, Option.toList_none, List.cons_append, List.nil_append, ne_eq, not_false_eq_true, not_true_eq_false, nI_1, nI_add, Value.category, Nat.reduceAdd, Nat.reduceMod, Nat.reduceLeDiff, Nat.reduceLT, Nat.reduceEqDiff, Nat.reducePow, Nat.le_refl, Nat.add_left_cancel_iff, Nat.add_eq_left, Nat.left_eq_add, Nat.add_zero, A0, A10, A4, A41, D11.1, A6, A6l, he2]
      rw [hres]
      have sur : h11.1 + 3 + gs_pl s ≤ h.1 + gs_pl s11 ∧ h11.2.1 + 29 + 8 * gs_pl s ≤ h.2.1 + 8 * gs_pl s11 := by
        have p1 : gs_pl s1 = gs_pl s + 1 := by rw [eu1]; rfl
        have p3 : gs_pl s3 = gs_pl s2 + 8 := by rw [(gs_nxt_eq e3).2]; rfl
        have z4 : h4.2.1 = h3.2.1 := by rw [h4e]; simp only [gm_sf_2]
        have z10 : h10.2.1 = h9.2.1 := by rw [h10e]; simp only [gm_sf_2]
        obtain ⟨a1, b1⟩ := na1
        obtain ⟨a2, b2⟩ := na2
        obtain ⟨a3, b3⟩ := na3
        obtain ⟨a5, b5⟩ := co5
        obtain ⟨a6, b6⟩ := co6
        obtain ⟨a7, b7⟩ := co7
        obtain ⟨a8, b8⟩ := co8
        obtain ⟨a9, b9⟩ := co9
        obtain ⟨a11, b11⟩ := co11
        omega
      refine ⟨l :: L, _, rfl, ⟨⟨.ref a, rfl, dsF.tr (gx_ag.sf (gx_ok.no (by omega)))⟩, fun s' es => by cases es; exact ⟨fun _ => by simp only [gm_sf_1, gm_sf_2]; exact sur, (RF.setD hlt dsF hee hLn).2.2.2.2.2.2.2 e (((gs_hs s11)[e]).1, l :: L) (by show ((gs_hs s11).modify e _)[e]? = _; rw [List.getElem?_modify, List.getElem?_eq_getElem hlt]; simp)⟩⟩, RF.setD hlt dsF hee hLn, st11.1.tr (gx_mv.dsc hle), ?_, ?_⟩
      · refine st11.2.1.trans ⟨Nat.le_refl _, ?_⟩
        simp [gs_hs]
      · exact st11.2.2.trans ⟨by simp only [gm_sf_1]; exact Nat.le_refl _, by simp only [gm_sf_2]; exact Nat.le_refl _⟩
  · rw [if_pos t2] at hres
    simp only [r97_0, r97_0n, r97_4, r97_5, r97_6, r97_8, r97_11, r97_12, r97_12n, r97_13, r97_14, r97_16, r97_19, r97_19n, r97_20, r97_23, r97_26, r97_26n, r97_30, r97_31, r97_31n, r97_33, r97_33n, r97_35n, r97_35, r97_38, r97_38n, r97_39, r97_44, r97_44a, r97_44n, r97_45, r97_45n, r97_47, r97_47n, r97_48, r97_49, r97_51, r97_54, r97_55, r97_57, r97_61, r97_66, r97_66a, r97_66n, r97_67, r97_67n, r97_71, r97_73, r97_73n, r97_74, r97_77, r97_79, r97_80, r97_82, r97_85, r97_85i, r97_86, r97_88, r97_90, r97_90n, r97_91, r97_99, r97_99n, r97_101, r97_101n, r97_102, r97_106, r97_108, r97_108n, r97_109, r97_109n, r97_114, r97_114n, r97_115, r97_115n, r97_117, r97_121, r97_121n, r97_122, r97_126, r97_126n, r97_128, r97_128n, r97_129, r97_130, r97_131, r97_132, r97_139, r97_139n, r97_140, r97_140n, r97_145, r97_145n, r97_146, r97_149, r97_152, r97_154, r97_154n, r97_156, r97_156n, r97_157, r97_157n, r97_159, r97_159n, i32_10, reduceIte, gm_cmp1, gm_cmp3, gm_cmp4, gm_kd_sf, gm_ln_sf, gm_sf_1, gm_sf_2, gm_nw_1, gm_nw_2, gm_k_int, gm_k_ref, gm_k_null, gm_k_u, gm_k_long, and_true, true_and, true_or, or_true, or_false, false_or, and_self, or_self, if_true, if_false, List.map_nil, List.map_cons, List.sum_nil, List.sum_cons, Nat.zero_le, Option.toList_some, Option.toList_none, List.cons_append, List.nil_append, ne_eq, not_false_eq_true, not_true_eq_false, nI_1, nI_add, Value.category, Nat.reduceAdd, Nat.reduceMod, Nat.reduceLeDiff, Nat.reduceLT, Nat.reduceEqDiff, Nat.reducePow, Nat.le_refl, Nat.add_left_cancel_iff, Nat.add_eq_left, Nat.left_eq_add, Nat.add_zero, t0, t1, t2]
    exact bad _ _ _ _ _ hres
end Y4
