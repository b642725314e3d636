/-! THE CLASS, 7: slots filled, extra, records, primitives. -/
section X7
variable {E : Nat → Value} {d x : Nat} {h : gm_H} {ca : Nat → Nat} {K : gs_K} {F G : Nat → Prop} {s : gs_S}
/-- the values' row of the object at t filled, nothing else changed -/
def gx_fil (h h' : gm_H) (t : Nat) (L : List Int64) : Prop := (h'.1 = h.1 ∧ h'.2.1 = h.2.1) ∧ (∀ b, b ≠ t + 1 → gm_rd h' b = gm_rd h b) ∧ gm_kd h' (t + 1) = 101 ∧ gm_ln h' (t + 1) = L.length ∧ ∀ (j : Nat) (v : Int64), L[j]? = some v → gm_fv h' (t + 1) j = .long v
theorem x_fillSlots {c t : Nat} {C : gs_C} (hd : 2 ≤ d) (R : gx_C E h x ca K F) (hC : gs_cls K c = some C) (hx : x + 6 < t) (k1 : gm_kd h t = 4) (k2 : gm_kd h (t + 1) = 101) (hl : gm_ln h (t + 1) = gs_slots K (some c)) :
    gm_Ca E d 121 [.ref (ca c), .ref (t + 1)] h (fun r h' => r = .inl none ∧ gx_fil h h' t (gs_slot0 K (some c))) := by
  have hw := R.wf
  obtain ⟨L, hL⟩ : ∃ L, L = gs_slot0 K (some c) := ⟨_, rfl⟩
  have hlen : L.length = gs_slots K (some c) := by rw [hL]; exact gs_slot0_len
  have h24 : gs_slots K (some c) ≤ 24 := R.slots
  rw [← hL]
  -- a heap on the way
  obtain ⟨W, hW⟩ : ∃ W : gm_H → Prop, W = fun hk => (hk.1 = h.1 ∧ hk.2.1 = h.2.1) ∧ (∀ b, b ≠ t + 1 → gm_rd hk b = gm_rd h b) ∧ gm_kd hk (t + 1) = 101 ∧ gm_ln hk (t + 1) = L.length := ⟨_, rfl⟩
  have Wsf : ∀ {hk j v}, W hk → W (gm_sf hk (t + 1) j v) := by
    intro hk j v w
    rw [hW] at w ⊢
    exact ⟨⟨by simp only [gm_sf_1]; exact w.1.1, by simp only [gm_sf_2]; exact w.1.2⟩, fun b hb => by rw [gm_rd_sfn hb]; exact w.2.1 b hb, by simp only [gm_kd_sf]; exact w.2.2.1, by simp only [gm_ln_sf]; exact w.2.2.2⟩
  have WR : ∀ {hk}, W hk → gx_C E hk x ca K F := by
    intro hk w
    rw [hW] at w
    exact gx_C.md ⟨w.1.1, fun a _ h2 => w.2.1 a h2⟩ k1 k2 R (fun c _ => gv_fv (w.2.1 _ (by omega)))
  have outer : ∀ (m : Nat) (u : Option Nat) (hk : gm_H) (w3 w4 : Value) (T : List Int64), (∀ c', u = some c' → c' < m ∧ (gs_cls K c').isSome = true) → W hk → L = gs_slot0 K u ++ T → (∀ (j : Nat) (v : Int64), gs_slots K u ≤ j → L[j]? = some v → gm_fv hk (t + 1) j = .long v) →
      gm_W E d 121 2 [.ref (ca c), .ref (t + 1), gx_ow ca u, w3, w4] [] hk (fun r h' => r = .inl none ∧ gx_fil h h' t L) := by
    intro m
    induction m with
    | zero =>
      intro u hk w3 w4 T hu w hT hj
      cases u with
      | none =>
        simp only [r121_0, r121_0n, r121_1, r121_1n, r121_2, r121_2n, r121_3n, r121_3, r121_6, r121_6n, r121_10, r121_11, r121_12, r121_14, r121_16, r121_16n, r121_17, r121_20, r121_23, r121_24, r121_26, r121_27, r121_27n, r121_28, r121_29, r121_32, r121_32n, r121_33, r121_34, r121_36, r121_37, r121_37n, r121_38, r121_38n, r121_39, r121_42, r121_44, r121_48, r121_49, r121_50, r121_53, r121_56, r121_56n, r121_57, r121_60, r121_60n, r121_61, r121_64, i32_10, reduceIte, gm_cmp1, gm_cmp3, gm_cmp4, gm_kd_sf, gm_ln_sf, gm_sf_1, gm_sf_2, gm_nw_1, gm_nw_2, gm_k_int, gm_k_ref, gm_k_null, gm_k_u, gm_k_long, and_true, true_and, true_or, or_true, or_false, false_or, and_self, or_self, if_true, if_false, List.map_nil, List.map_cons, List.sum_nil, List.sum_cons, Nat.zero_le, Option.toList_some, Option.toList_none, List.cons_append, List.nil_append, ne_eq, not_false_eq_true, not_true_eq_false, nI_1, nI_add, Value.category, Nat.reduceAdd, Nat.reduceMod, Nat.reduceLeDiff, Nat.reduceLT, Nat.reduceEqDiff, Nat.reducePow, Nat.le_refl, Nat.add_left_cancel_iff, Nat.add_eq_left, Nat.left_eq_add, Nat.add_zero, gx_ow]
        rw [hW] at w
        exact ⟨w.1, w.2.1, w.2.2.1, w.2.2.2, fun j v e => hj j v (Nat.zero_le _) e⟩
      | some c' => exact absurd (hu c' rfl).1 (by omega)
    | succ m ih =>
      intro u hk w3 w4 T hu w hT hj
      cases u with
      | none =>
        simp only [r121_0, r121_0n, r121_1, r121_1n, r121_2, r121_2n, r121_3n, r121_3, r121_6, r121_6n, r121_10, r121_11, r121_12, r121_14, r121_16, r121_16n, r121_17, r121_20, r121_23, r121_24, r121_26, r121_27, r121_27n, r121_28, r121_29, r121_32, r121_32n, r121_33, r121_34, r121_36, r121_37, r121_37n, r121_38, r121_38n, r121_39, r121_42, r121_44, r121_48, r121_49, r121_50, r121_53, r121_56, r121_56n, r121_57, r121_60, r121_60n, r121_61, r121_64, i32_10, reduceIte, gm_cmp1, gm_cmp3, gm_cmp4, gm_kd_sf, gm_ln_sf, gm_sf_1, gm_sf_2, gm_nw_1, gm_nw_2, gm_k_int, gm_k_ref, gm_k_null, gm_k_u, gm_k_long, and_true, true_and, true_or, or_true, or_false, false_or, and_self, or_self, if_true, if_false, List.map_nil, List.map_cons, List.sum_nil, List.sum_cons, Nat.zero_le, Option.toList_some, Option.toList_none, List.cons_append, List.nil_append, ne_eq, not_false_eq_true, not_true_eq_false, nI_1, nI_add, Value.category, Nat.reduceAdd, Nat.reduceMod, Nat.reduceLeDiff, Nat.reduceLT, Nat.reduceEqDiff, Nat.reducePow, Nat.le_refl, Nat.add_left_cancel_iff, Nat.add_eq_left, Nat.left_eq_add, Nat.add_zero, gx_ow]
        rw [hW] at w
        exact ⟨w.1, w.2.1, w.2.2.1, w.2.2.2, fun j v e => hj j v (Nat.zero_le _) e⟩
      | some c' =>
        obtain ⟨h1, h2⟩ := hu c' rfl
        obtain ⟨C', hC'⟩ := Option.isSome_iff_exists.mp h2
        have e0 : gs_slots K (some c') = (gs_fs C').length + gs_first K C' := gs_slots_cons hw hC'
        rw [gs_slot0_cons hw hC', List.append_assoc] at hT
        have lf : (gs_slot0 K (gs_sup C')).length = gs_first K C' := gs_slot0_len
        have l4 := R.le4 hC'
        have lL : gs_first K C' + (gs_fs C').length ≤ L.length := by
          have := congrArg List.length hT
          simp at this
          omega
        have val : ∀ k (hk : k < (gs_fs C').length), L[gs_first K C' + k]? = some (gs_v0 C' (gs_fs C')[k].2) := by
          intro k hk
          rw [hT, List.getElem?_append_right (by omega), List.getElem?_append_left (by simp; omega)]
          simp [lf, hk]
        -- the inner row
        have inner : ∀ (i k : Nat) (hk : gm_H), k + i = (gs_fs C').length → W hk → (∀ (j : Nat) (v : Int64), (gs_first K C' ≤ j ∧ j < gs_first K C' + k) ∨ gs_first K C' + (gs_fs C').length ≤ j → L[j]? = some v → gm_fv hk (t + 1) j = .long v) →
            gm_W E d 121 14 [.ref (ca c), .ref (t + 1), .ref (ca c'), .int (nI (gs_first K C')), .int (nI k)] [] hk (fun r h' => r = .inl none ∧ gx_fil h h' t L) := by
          intro i
          induction i with
          | zero =>
            intro k hk hki w hj
            have hki : k = (gs_fs C').length := by omega
            subst hki
            obtain ⟨-, -, -, q3, -, -, fs, -, -, -, f6, -⟩ := (WR w).at hC'
            have nx := ih (gs_sup C') hk (.int (nI (gs_first K C'))) (.int (nI (gs_fs C').length)) _ (fun c2 e2 => ⟨by have := ((hw c' C' hC').2 c2 e2).1; omega, ((hw c' C' hC').2 c2 e2).2⟩) w hT (fun j v h5 h6 => hj j v (by unfold gs_first at *; omega) h6)
            cases hs : gs_sup C' with
            | none =>
              rw [hs] at fs nx
              have fs : gm_fv hk (ca c') 2 = .null := fs
              simp only [r121_0, r121_0n, r121_1, r121_1n, r121_3n, r121_3, r121_6, r121_6n, r121_10, r121_11, r121_12, r121_14, r121_16, r121_16n, r121_17, r121_20, r121_23, r121_24, r121_26, r121_27, r121_27n, r121_28, r121_29, r121_32, r121_32n, r121_33, r121_34, r121_36, r121_37, r121_37n, r121_38, r121_38n, r121_39, r121_42, r121_44, r121_48, r121_49, r121_50, r121_53, r121_56, r121_56n, r121_57, r121_60, r121_60n, r121_61, r121_64, i32_10, reduceIte, gm_cmp1, gm_cmp3, gm_cmp4, gm_kd_sf, gm_ln_sf, gm_sf_1, gm_sf_2, gm_nw_1, gm_nw_2, gm_k_int, gm_k_ref, gm_k_null, gm_k_u, gm_k_long, and_true, true_and, true_or, or_true, or_false, false_or, and_self, or_self, if_true, if_false, List.map_nil, List.map_cons, List.sum_nil, List.sum_cons, Nat.zero_le, Option.toList_some, Option.toList_none, List.cons_append, List.nil_append, ne_eq, not_false_eq_true, not_true_eq_false, nI_1, nI_add, Value.category, Nat.reduceAdd, Nat.reduceMod, Nat.reduceLeDiff, Nat.reduceLT, Nat.reduceEqDiff, Nat.reducePow, Nat.le_refl, Nat.add_left_cancel_iff, Nat.add_eq_left, Nat.left_eq_add, Nat.add_zero, q3, f6, fs, nI_leT (Nat.le_refl (gs_fs C').length) (show (gs_fs C').length < 2 ^ 31 by omega)]
              exact nx
            | some c2 =>
              rw [hs] at fs nx
              have fs : gm_fv hk (ca c') 2 = .ref (ca c2) := fs
              simp only [r121_0, r121_0n, r121_1, r121_1n, r121_3n, r121_3, r121_6, r121_6n, r121_10, r121_11, r121_12, r121_14, r121_16, r121_16n, r121_17, r121_20, r121_23, r121_24, r121_26, r121_27, r121_27n, r121_28, r121_29, r121_32, r121_32n, r121_33, r121_34, r121_36, r121_37, r121_37n, r121_38, r121_38n, r121_39, r121_42, r121_44, r121_48, r121_49, r121_50, r121_53, r121_56, r121_56n, r121_57, r121_60, r121_60n, r121_61, r121_64, i32_10, reduceIte, gm_cmp1, gm_cmp3, gm_cmp4, gm_kd_sf, gm_ln_sf, gm_sf_1, gm_sf_2, gm_nw_1, gm_nw_2, gm_k_int, gm_k_ref, gm_k_null, gm_k_u, gm_k_long, and_true, true_and, true_or, or_true, or_false, false_or, and_self, or_self, if_true, if_false, List.map_nil, List.map_cons, List.sum_nil, List.sum_cons, Nat.zero_le, Option.toList_some, Option.toList_none, List.cons_append, List.nil_append, ne_eq, not_false_eq_true, not_true_eq_false, nI_1, nI_add, Value.category, Nat.reduceAdd, Nat.reduceMod, Nat.reduceLeDiff, Nat.reduceLT, Nat.reduceEqDiff, Nat.reducePow, Nat.le_refl, Nat.add_left_cancel_iff, Nat.add_eq_left, Nat.left_eq_add, Nat.add_zero, q3, f6, fs, nI_leT (Nat.le_refl (gs_fs C').length) (show (gs_fs C').length < 2 ^ 31 by omega)]
              exact nx
          | succ i ihi =>
            intro k hk hki w hj
            obtain ⟨-, -, q⟩ := (WR w).at hC'
            have q' := q
            obtain ⟨-, q3, -, -, -, -, p4, p5, p6, -, -, -, n1, n2, n3, n4, nn⟩ := q'
            have hkl : k < (gs_fs C').length := by omega
            have hk4 : k < 4 := by omega
            have f2 := (nn k _ (List.getElem?_eq_getElem hkl)).2
            have wW := w
            rw [hW] at wW
            obtain ⟨-, -, wk, wl⟩ := wW
            rw [r121_14]
            simp only [r121_0, r121_0n, r121_1, r121_1n, r121_2, r121_2n, r121_3n, r121_3, r121_6, r121_6n, r121_10, r121_11, r121_12, r121_16, r121_16n, r121_17, r121_20, r121_23, r121_24, r121_26, r121_27, r121_27n, r121_28, r121_29, r121_32, r121_32n, r121_33, r121_34, r121_36, r121_37, r121_37n, r121_38, r121_38n, r121_39, r121_42, r121_44, r121_48, r121_49, r121_50, r121_53, r121_56, r121_56n, r121_57, r121_60, r121_60n, r121_61, r121_64, i32_10, reduceIte, gm_cmp1, gm_cmp3, gm_cmp4, gm_kd_sf, gm_ln_sf, gm_sf_1, gm_sf_2, gm_nw_1, gm_nw_2, gm_k_int, gm_k_ref, gm_k_null, gm_k_u, gm_k_long, and_true, true_and, true_or, or_true, or_false, false_or, and_self, or_self, if_true, if_false, List.map_nil, List.map_cons, List.sum_nil, List.sum_cons, Nat.zero_le, Option.toList_some, Option.toList_none, List.cons_append, List.nil_append, ne_eq, not_false_eq_true, not_true_eq_false, nI_1, nI_add, Value.category, Nat.reduceAdd, Nat.reduceMod, Nat.reduceLeDiff, Nat.reduceLT, Nat.reduceEqDiff, Nat.reducePow, Nat.le_refl, Nat.add_left_cancel_iff, Nat.add_eq_left, Nat.left_eq_add, Nat.add_zero, q3, p6, nI_leF hkl (show (gs_fs C').length < 2 ^ 31 by omega), wk, wl, nI_leF (show gs_first K C' + k < L.length by omega) (show L.length < 2 ^ 31 by omega), p5, n3, n4, hk4, f2]
            refine c121_45 (by simp [Value.category]) q3 (by omega) (x_valueAtFirst q) (gx_kn ?_) gx_kx
            have hjl : gs_first K C' + k < L.length := by omega
            have hl31 : L.length < 2147483648 := by omega
            simp only [r121_0, r121_0n, r121_1, r121_1n, r121_2, r121_2n, r121_3n, r121_3, r121_6, r121_6n, r121_10, r121_11, r121_12, r121_16, r121_16n, r121_17, r121_20, r121_23, r121_24, r121_26, r121_27, r121_27n, r121_28, r121_29, r121_32, r121_32n, r121_33, r121_34, r121_36, r121_37, r121_37n, r121_38, r121_38n, r121_39, r121_42, r121_44, r121_48, r121_49, r121_50, r121_53, r121_56, r121_56n, r121_57, r121_60, r121_60n, r121_61, r121_64, i32_10, reduceIte, gm_cmp1, gm_cmp3, gm_cmp4, gm_kd_sf, gm_ln_sf, gm_sf_1, gm_sf_2, gm_nw_1, gm_nw_2, gm_k_int, gm_k_ref, gm_k_null, gm_k_u, gm_k_long, and_true, true_and, true_or, or_true, or_false, false_or, and_self, or_self, if_true, if_false, List.map_nil, List.map_cons, List.sum_nil, List.sum_cons, Nat.zero_le, Option.toList_some, Option.toList_none, List.cons_append, List.nil_append, ne_eq, not_false_eq_true, not_true_eq_false, nI_1, nI_add, Value.category, Nat.reduceAdd, Nat.reduceMod, Nat.reduceLeDiff, Nat.reduceLT, Nat.reduceEqDiff, Nat.reducePow, Nat.le_refl, Nat.add_left_cancel_iff, Nat.add_eq_left, Nat.left_eq_add, Nat.add_zero, wk, wl, hjl, hl31, gs_v0i_64]
            refine ihi (k + 1) _ (by omega) (Wsf w) (fun j v hj1 hj2 => ?_)
            by_cases e : j = gs_first K C' + k
            · subst e
              rw [val k hkl] at hj2
              cases hj2
              exact gm_fv_sf (by rw [wl]; omega)
            · rw [gm_fv_sfj e]
              exact hj j v (by omega) hj2
        show gm_W E d 121 2 [.ref (ca c), .ref (t + 1), .ref (ca c'), w3, w4] [] hk _
        obtain ⟨-, -, -, q3, -⟩ := (WR w).at hC'
        simp only [r121_0, r121_0n, r121_1, r121_1n, r121_2, r121_2n, r121_3n, r121_3, r121_6, r121_6n, r121_10, r121_11, r121_12, r121_16, r121_16n, r121_17, r121_20, r121_23, r121_24, r121_26, r121_27, r121_27n, r121_28, r121_29, r121_32, r121_32n, r121_33, r121_34, r121_36, r121_37, r121_37n, r121_38, r121_38n, r121_39, r121_42, r121_44, r121_48, r121_49, r121_50, r121_53, r121_56, r121_56n, r121_57, r121_60, r121_60n, r121_61, r121_64, i32_10, reduceIte, gm_cmp1, gm_cmp3, gm_cmp4, gm_kd_sf, gm_ln_sf, gm_sf_1, gm_sf_2, gm_nw_1, gm_nw_2, gm_k_int, gm_k_ref, gm_k_null, gm_k_u, gm_k_long, and_true, true_and, true_or, or_true, or_false, false_or, and_self, or_self, if_true, if_false, List.map_nil, List.map_cons, List.sum_nil, List.sum_cons, Nat.zero_le, Option.toList_some, Option.toList_none, List.cons_append, List.nil_append, ne_eq, not_false_eq_true, not_true_eq_false, nI_1, nI_add, Value.category, Nat.reduceAdd, Nat.reduceMod, Nat.reduceLeDiff, Nat.reduceLT, Nat.reduceEqDiff, Nat.reducePow, Nat.le_refl, Nat.add_left_cancel_iff, Nat.add_eq_left, Nat.left_eq_add, Nat.add_zero]
        refine c121_7 (by simp) q3 (by omega) (x_firstSlot (by omega) (WR w) hC') (gx_kn ?_) gx_kx
        simp only [r121_0, r121_0n, r121_1, r121_1n, r121_2, r121_2n, r121_3n, r121_3, r121_6, r121_6n, r121_10, r121_11, r121_12, r121_16, r121_16n, r121_17, r121_20, r121_23, r121_24, r121_26, r121_27, r121_27n, r121_28, r121_29, r121_32, r121_32n, r121_33, r121_34, r121_36, r121_37, r121_37n, r121_38, r121_38n, r121_39, r121_42, r121_44, r121_48, r121_49, r121_50, r121_53, r121_56, r121_56n, r121_57, r121_60, r121_60n, r121_61, r121_64, i32_10, reduceIte, gm_cmp1, gm_cmp3, gm_cmp4, gm_kd_sf, gm_ln_sf, gm_sf_1, gm_sf_2, gm_nw_1, gm_nw_2, gm_k_int, gm_k_ref, gm_k_null, gm_k_u, gm_k_long, and_true, true_and, true_or, or_true, or_false, false_or, and_self, or_self, if_true, if_false, List.map_nil, List.map_cons, List.sum_nil, List.sum_cons, Nat.zero_le, Option.toList_some, Option.toList_none, List.cons_append, List.nil_append, ne_eq, not_false_eq_true, not_true_eq_false, nI_1, nI_add, Value.category, Nat.reduceAdd, Nat.reduceMod, Nat.reduceLeDiff, Nat.reduceLT, Nat.reduceEqDiff, Nat.reducePow, Nat.le_refl, Nat.add_left_cancel_iff, Nat.add_eq_left, Nat.left_eq_add, Nat.add_zero]
        exact inner (gs_fs C').length 0 hk (by omega) w (fun j v h5 h6 => hj j v (by omega) h6)
  show gm_W E d 121 0 [.ref (ca c), .ref (t + 1), gm_u, gm_u, gm_u] [] h _
  simp only [r121_0, r121_0n, r121_1, r121_1n, r121_3n, r121_3, r121_6, r121_6n, r121_10, r121_11, r121_12, r121_14, r121_16, r121_16n, r121_17, r121_20, r121_23, r121_24, r121_26, r121_27, r121_27n, r121_28, r121_29, r121_32, r121_32n, r121_33, r121_34, r121_36, r121_37, r121_37n, r121_38, r121_38n, r121_39, r121_42, r121_44, r121_48, r121_49, r121_50, r121_53, r121_56, r121_56n, r121_57, r121_60, r121_60n, r121_61, r121_64, i32_10, reduceIte, gm_cmp1, gm_cmp3, gm_cmp4, gm_kd_sf, gm_ln_sf, gm_sf_1, gm_sf_2, gm_nw_1, gm_nw_2, gm_k_int, gm_k_ref, gm_k_null, gm_k_u, gm_k_long, and_true, true_and, true_or, or_true, or_false, false_or, and_self, or_self, if_true, if_false, List.map_nil, List.map_cons, List.sum_nil, List.sum_cons, Nat.zero_le, Option.toList_some, Option.toList_none, List.cons_append, List.nil_append, ne_eq, not_false_eq_true, not_true_eq_false, nI_1, nI_add, Value.category, Nat.reduceAdd, Nat.reduceMod, Nat.reduceLeDiff, Nat.reduceLT, Nat.reduceEqDiff, Nat.reducePow, Nat.le_refl, Nat.add_left_cancel_iff, Nat.add_eq_left, Nat.left_eq_add, Nat.add_zero]
  refine outer 6 (some c) h gm_u gm_u [] (fun c' e => by cases e; exact ⟨(hw c C hC).1, by rw [hC]; rfl⟩) ?_ (by rw [hL]; simp) (fun j v h5 h6 => ?_)
  · rw [hW]; exact ⟨⟨rfl, rfl⟩, fun _ _ => rfl, k2, by rw [hl, hlen]⟩
  · have := (List.getElem?_eq_some_iff.mp h6).1
    omega
theorem x_takeExtra {o t : Nat} {ob : gs_O} (hd : 1 ≤ d) (R : gx_R E h x ca K F s) (ho : (gs_hp s)[o]? = some ob) (ht : gm_fv h (x + 3) o = .ref t) (hG : G t) : gm_Ca E d 95 [.ref x, .ref t] h (gx_P E h x ca K F G s (fun _ h' v => v = none ∧ gx_nal h h') (gs_extra K o s)) := by
  show gm_W E d 95 0 [.ref x, .ref t, gm_u] [] h _
  obtain ⟨A0, -, A5, -, -, -, -, A2, A2l, -⟩ := R.1
  obtain ⟨-, -, -, -, B6, B7, B8⟩ := R.2.1
  obtain ⟨z1, z2, z3, z4, z5, z6, z7, z8, z9⟩ := R.2.2.2.1
  obtain ⟨ta, T⟩ := R.2.2.2.2.1
  obtain ⟨b1, b2, b3⟩ := T.2 o ob ho
  rw [ht] at b1
  cases b1
  have hadd : nI (gs_pl s) + 2 = nI (gs_pl s + 2) := nI_add _ 2
  have fin : gm_W E d 95 31 [.ref x, .ref (ta o), .int (nI (gs_pl s + 2))] [] h (gx_P E h x ca K F G s (fun _ h' v => v = none ∧ gx_nal h h') (.ok ((), s) : Except Int32 (Unit × gs_S))) := by
    simp only [r95_0, r95_0n, r95_1, r95_4, r95_5, r95_6, r95_7, r95_7n, r95_8, r95_11, r95_12, r95_13, r95_14, r95_17, r95_17n, r95_18, r95_21, r95_21n, r95_22, r95_25, r95_26, r95_28, r95_31, r95_32, r95_32n, r95_33, r95_36, r95_36n, r95_37, r95_40, r95_41, r95_42, r95_43, r95_46, r95_47, r95_48, r95_51, r95_51n, r95_52, r95_52n, r95_53, r95_54, r95_58, r95_59, r95_62, i32_10, reduceIte, gm_cmp1, gm_cmp3, gm_cmp4, gm_kd_sf, gm_ln_sf, gm_sf_1, gm_sf_2, gm_nw_1, gm_nw_2, gm_k_int, gm_k_ref, gm_k_null, gm_k_u, gm_k_long, and_true, true_and, true_or, or_true, or_false, false_or, and_self, or_self, if_true, if_false, List.map_nil, List.map_cons, List.sum_nil, List.sum_cons, Nat.zero_le, Option.toList_some, Option.toList_none, List.cons_append, List.nil_append, ne_eq, not_false_eq_true, not_true_eq_false, nI_1, nI_add, Value.category, Nat.reduceAdd, Nat.reduceMod, Nat.reduceLeDiff, Nat.reduceLT, Nat.reduceEqDiff, Nat.reducePow, Nat.le_refl, Nat.add_left_cancel_iff, Nat.add_eq_left, Nat.left_eq_add, Nat.add_zero]
    exact ⟨(), s, rfl, ⟨rfl, gx_nal.refl⟩, R, gx_mv.refl, gx_le.refl, gx_co.refl⟩
  have fin2 : gm_W E d 95 62 [.ref x, .ref (ta o), .int (nI (gs_pl s + 2))] [] h (gx_P E h x ca K F G s (fun _ h' v => v = none ∧ gx_nal h h') (.ok ((), s) : Except Int32 (Unit × gs_S))) := by
    simp only [r95_0, r95_0n, r95_1, r95_4, r95_5, r95_6, r95_7, r95_7n, r95_8, r95_11, r95_12, r95_13, r95_14, r95_17, r95_17n, r95_18, r95_21, r95_21n, r95_22, r95_25, r95_26, r95_28, r95_31, r95_32, r95_32n, r95_33, r95_36, r95_36n, r95_37, r95_40, r95_41, r95_42, r95_43, r95_46, r95_47, r95_48, r95_51, r95_51n, r95_52, r95_52n, r95_53, r95_54, r95_58, r95_59, r95_62, i32_10, reduceIte, gm_cmp1, gm_cmp3, gm_cmp4, gm_kd_sf, gm_ln_sf, gm_sf_1, gm_sf_2, gm_nw_1, gm_nw_2, gm_k_int, gm_k_ref, gm_k_null, gm_k_u, gm_k_long, and_true, true_and, true_or, or_true, or_false, false_or, and_self, or_self, if_true, if_false, List.map_nil, List.map_cons, List.sum_nil, List.sum_cons, Nat.zero_le, Option.toList_some, Option.toList_none, List.cons_append, List.nil_append, ne_eq, not_false_eq_true, not_true_eq_false, nI_1, nI_add, Value.category, Nat.reduceAdd, Nat.reduceMod, Nat.reduceLeDiff, Nat.reduceLT, Nat.reduceEqDiff, Nat.reducePow, Nat.le_refl, Nat.add_left_cancel_iff, Nat.add_eq_left, Nat.left_eq_add, Nat.add_zero]
    exact ⟨(), s, rfl, ⟨rfl, gx_nal.refl⟩, R, gx_mv.refl, gx_le.refl, gx_co.refl⟩
  have lt4 : (nI (gs_n K) - nI (gs_pl s + 2) < 4) = (gs_n K - gs_pl s < 6) := by
    by_cases e : gs_pl s + 2 ≤ gs_n K
    · rw [nI_sub e]
      exact propext ((nI_ltI (b := 4) (by omega) (by decide)).trans (by omega))
    · have e1 : gs_n K - gs_pl s < 6 := by omega
      refine propext ⟨fun _ => e1, fun _ => ?_⟩
      obtain ⟨m, hm⟩ : ∃ m, m = gs_pl s + 2 - gs_n K := ⟨_, rfl⟩
      have em : nI (gs_pl s + 2) = nI (gs_n K) + nI m := by rw [nI_add]; congr 1; omega
      have e3 : m = 1 ∨ m = 2 := by omega
      rw [em]
      have e4 : nI (gs_n K) - (nI (gs_n K) + nI m) = - nI m := by rw [Int32.sub_eq_add_neg, Int32.neg_add, Int32.sub_eq_add_neg, ← Int32.add_assoc, Int32.add_right_neg, Int32.zero_add]
      rw [e4]
      rcases e3 with rfl | rfl <;> decide
  unfold gs_extra
  by_cases h1 : gs_n K - gs_pl s < 6
  · simp only [r95_0, r95_0n, r95_1, r95_4, r95_5, r95_6, r95_7, r95_7n, r95_8, r95_11, r95_12, r95_13, r95_14, r95_17, r95_17n, r95_18, r95_21, r95_21n, r95_22, r95_25, r95_26, r95_28, r95_32, r95_32n, r95_33, r95_36, r95_36n, r95_37, r95_40, r95_41, r95_42, r95_43, r95_46, r95_47, r95_48, r95_51, r95_51n, r95_52, r95_52n, r95_53, r95_54, r95_58, r95_59, i32_10, reduceIte, gm_cmp1, gm_cmp3, gm_cmp4, gm_kd_sf, gm_ln_sf, gm_sf_1, gm_sf_2, gm_nw_1, gm_nw_2, gm_k_int, gm_k_ref, gm_k_null, gm_k_u, gm_k_long, and_true, true_and, true_or, or_true, or_false, false_or, and_self, or_self, if_true, if_false, List.map_nil, List.map_cons, List.sum_nil, List.sum_cons, Nat.zero_le, Option.toList_some, Option.toList_none, List.cons_append, List.nil_append, ne_eq, not_false_eq_true, not_true_eq_false, nI_1, nI_add, Value.category, Nat.reduceAdd, Nat.reduceMod, Nat.reduceLeDiff, Nat.reduceLT, Nat.reduceEqDiff, Nat.reducePow, Nat.le_refl, Nat.add_left_cancel_iff, Nat.add_eq_left, Nat.left_eq_add, Nat.add_zero, A0, z1, B6, hadd, lt4, h1]
    exact fin
  · have hp : gs_pl s < gs_n K := by omega
    have hp1 : gs_pl s + 1 < gs_n K := by omega
    have hp7 : gs_pl s < 700 := by omega
    have hp17 : gs_pl s + 1 < 700 := by omega
    by_cases h2 : gs_sb K (gs_pl s) = 119
    · by_cases h3 : gs_sb K (gs_pl s + 1) &&& 255 < 4
      · simp only [r95_0, r95_0n, r95_1, r95_4, r95_5, r95_6, r95_7, r95_7n, r95_8, r95_11, r95_12, r95_13, r95_14, r95_17, r95_17n, r95_18, r95_21, r95_21n, r95_22, r95_25, r95_26, r95_28, r95_32, r95_32n, r95_33, r95_36, r95_36n, r95_37, r95_40, r95_41, r95_42, r95_43, r95_46, r95_47, r95_48, r95_51, r95_51n, r95_52, r95_52n, r95_53, r95_54, r95_58, r95_59, i32_10, reduceIte, gm_cmp1, gm_cmp3, gm_cmp4, gm_kd_sf, gm_ln_sf, gm_sf_1, gm_sf_2, gm_nw_1, gm_nw_2, gm_k_int, gm_k_ref, gm_k_null, gm_k_u, gm_k_long, and_true, true_and, true_or, or_true, or_false, false_or, and_self, or_self, if_true, if_false, List.map_nil, List.map_cons, List.sum_nil, List.sum_cons, Nat.zero_le, Option.toList_some, Option.toList_none, List.cons_append, List.nil_append, ne_eq, not_false_eq_true, not_true_eq_false, nI_1, nI_add, Value.category, Nat.reduceAdd, Nat.reduceMod, Nat.reduceLeDiff, Nat.reduceLT, Nat.reduceEqDiff, Nat.reducePow, Nat.le_refl, Nat.add_left_cancel_iff, Nat.add_eq_left, Nat.left_eq_add, Nat.add_zero, A0, z1, B6, hadd, lt4, h1, A5, A2, A2l, hp7, B8 _ hp, h2, hp17, B8 _ hp1, h3, reduceIte, ne_eq, not_true_eq_false]
        exact fin2
      · simp only [r95_0, r95_0n, r95_1, r95_4, r95_5, r95_6, r95_7, r95_7n, r95_8, r95_11, r95_12, r95_13, r95_14, r95_17, r95_17n, r95_18, r95_21, r95_21n, r95_22, r95_25, r95_26, r95_28, r95_32, r95_32n, r95_33, r95_36, r95_36n, r95_37, r95_40, r95_41, r95_42, r95_43, r95_46, r95_47, r95_48, r95_51, r95_51n, r95_52, r95_52n, r95_53, r95_54, r95_58, r95_59, i32_10, reduceIte, gm_cmp1, gm_cmp3, gm_cmp4, gm_kd_sf, gm_ln_sf, gm_sf_1, gm_sf_2, gm_nw_1, gm_nw_2, gm_k_int, gm_k_ref, gm_k_null, gm_k_u, gm_k_long, and_true, true_and, true_or, or_true, or_false, false_or, and_self, or_self, if_true, if_false, List.map_nil, List.map_cons, List.sum_nil, List.sum_cons, Nat.zero_le, Option.toList_some, Option.toList_none, List.cons_append, List.nil_append, ne_eq, not_false_eq_true, not_true_eq_false, nI_1, nI_add, Value.category, Nat.reduceAdd, Nat.reduceMod, Nat.reduceLeDiff, Nat.reduceLT, Nat.reduceEqDiff, Nat.reducePow, Nat.le_refl, Nat.add_left_cancel_iff, Nat.add_eq_left, Nat.left_eq_add, Nat.add_zero, A0, z1, B6, hadd, lt4, h1, A5, A2, A2l, hp7, B8 _ hp, h2, hp17, B8 _ hp1, h3, reduceIte, ne_eq, not_true_eq_false]
        refine c95_55 (by simp [Value.category]) A0 hd (x_numberAt (z := 4) R (by omega)) (gx_kn ?_) gx_kx
        simp only [r95_0, r95_0n, r95_1, r95_4, r95_5, r95_6, r95_7, r95_7n, r95_8, r95_11, r95_12, r95_13, r95_14, r95_17, r95_17n, r95_18, r95_21, r95_21n, r95_22, r95_25, r95_26, r95_28, r95_31, r95_32, r95_32n, r95_33, r95_36, r95_36n, r95_37, r95_40, r95_41, r95_42, r95_43, r95_46, r95_47, r95_48, r95_51, r95_51n, r95_52, r95_52n, r95_53, r95_54, r95_58, r95_59, r95_62, i32_10, reduceIte, gm_cmp1, gm_cmp3, gm_cmp4, gm_kd_sf, gm_ln_sf, gm_sf_1, gm_sf_2, gm_nw_1, gm_nw_2, gm_k_int, gm_k_ref, gm_k_null, gm_k_u, gm_k_long, and_true, true_and, true_or, or_true, or_false, false_or, and_self, or_self, if_true, if_false, List.map_nil, List.map_cons, List.sum_nil, List.sum_cons, Nat.zero_le, Option.toList_some, Option.toList_none, List.cons_append, List.nil_append, ne_eq, not_false_eq_true, not_true_eq_false, nI_1, nI_add, Value.category, Nat.reduceAdd, Nat.reduceMod, Nat.reduceLeDiff, Nat.reduceLT, Nat.reduceEqDiff, Nat.reducePow, Nat.le_refl, Nat.add_left_cancel_iff, Nat.add_eq_left, Nat.left_eq_add, Nat.add_zero, b3.1]
        have lt : gm_ln h (ta o) = 5 := gm_kd_ln b3.1 (by decide)
        refine ⟨(), _, rfl, ⟨rfl, gx_nal.refl.sf⟩, R.modT ht ho ⟨gm_sf_1, fun a h1 _ => gm_rd_sfn h1⟩ (fun q => ?_) rfl, gx_mv.oth b2.1.1 (Or.inr hG), ⟨by simp [gs_hp], Nat.le_refl _⟩, ?_⟩
        · obtain ⟨q1, q2, q3, q4, q5, q6, q7, q8, q9, q10⟩ := q
          refine ⟨by rw [gm_kd_sf]; exact q1, by rw [gm_fv_sfj (by decide)]; exact q2, by rw [gm_fv_sfj (by decide)]; exact q3, by rw [gm_fv_sfj (by decide)]; exact q4, by rw [gm_fv_sfj (by decide)]; exact q5, gm_fv_sf (by rw [lt]; decide), by rw [gm_kd_sf]; exact q7, by rw [gm_ln_sf]; exact q8, q9, fun j v e => ?_⟩
          rw [gm_fv_sfa (by omega)]
          exact q10 j v e
        · constructor
          · simp only [gm_sf_1]; exact Nat.le_refl _
          · simp only [gm_sf_2]; exact Nat.le_refl _
    · simp only [r95_0, r95_0n, r95_1, r95_4, r95_5, r95_6, r95_7, r95_7n, r95_8, r95_11, r95_12, r95_13, r95_14, r95_17, r95_17n, r95_18, r95_21, r95_21n, r95_22, r95_25, r95_26, r95_28, r95_32, r95_32n, r95_33, r95_36, r95_36n, r95_37, r95_40, r95_41, r95_42, r95_43, r95_46, r95_47, r95_48, r95_51, r95_51n, r95_52, r95_52n, r95_53, r95_54, r95_58, r95_59, i32_10, reduceIte, gm_cmp1, gm_cmp3, gm_cmp4, gm_kd_sf, gm_ln_sf, gm_sf_1, gm_sf_2, gm_nw_1, gm_nw_2, gm_k_int, gm_k_ref, gm_k_null, gm_k_u, gm_k_long, and_true, true_and, true_or, or_true, or_false, false_or, and_self, or_self, if_true, if_false, List.map_nil, List.map_cons, List.sum_nil, List.sum_cons, Nat.zero_le, Option.toList_some, Option.toList_none, List.cons_append, List.nil_append, ne_eq, not_false_eq_true, not_true_eq_false, nI_1, nI_add, Value.category, Nat.reduceAdd, Nat.reduceMod, Nat.reduceLeDiff, Nat.reduceLT, Nat.reduceEqDiff, Nat.reducePow, Nat.le_refl, Nat.add_left_cancel_iff, Nat.add_eq_left, Nat.left_eq_add, Nat.add_zero, A0, z1, B6, hadd, lt4, h1, A5, A2, A2l, hp7, B8 _ hp, h2]
      exact fin
theorem gx_cmp_lt {v : Int64} : (lg_cmp v 0 < 0) = (v < 0) := by
  unfold lg_cmp
  by_cases h1 : v > 0
  · have h2 : ¬ v < 0 := fun z => by
      rw [Int64.lt_iff_toInt_lt] at z
      have h1 : (0 : Int64) < v := h1
      rw [Int64.lt_iff_toInt_lt] at h1
      omega
    simp only [h1, h2, if_true]
    decide
  · by_cases h3 : v = 0
    · subst h3; decide
    · have h2 : v < 0 := by
        rw [Int64.lt_iff_toInt_lt]
        have h1 : ¬ (0 : Int64) < v := h1
        rw [Int64.lt_iff_toInt_lt] at h1
        have h4 : v.toInt ≠ (0 : Int64).toInt := fun z => h3 (Int64.toInt_inj.mp z)
        omega
      simp only [h1, h2, h3, if_false]
      decide
theorem gx_cmp_eq {u v : Int64} : (lg_cmp u v = 0) = (u = v) := by
  unfold lg_cmp
  by_cases h1 : u > v
  · have h2 : ¬ u = v := fun z => by
      subst z
      have h1 : u < u := h1
      rw [Int64.lt_iff_toInt_lt] at h1
      omega
    simp only [h1, h2, if_true]
    decide
  · by_cases h3 : u = v
    · subst h3; simp [h1]
    · simp only [h1, h3, if_false]
      decide
theorem x_isValidRecord {t c : Nat} {C : gs_C} {ob : gs_O} (R : gx_C E h x ca K F) (hC : gs_cls K c = some C) (q : gx_th h ca ob t) (ho : ob.2.1 = some c) (hv : (gs_fs C).length ≤ ob.2.2.1.length) : gm_Ca E d 91 [.ref t] h (gx_v (some (.int (if (gs_fs C).head?.any (fun q => decide (q.2 < 6)) = true ∧ ob.2.2.1.getD 0 0 < 0 then 0 else 1))) h) := by
  show gm_W E d 91 0 [.ref t] [] h _
  obtain ⟨q1, q2, q3, q4, q5, q6, q7, q8, q9, q10⟩ := q
  rw [ho] at q3
  have q3 : gm_fv h t 1 = .ref (ca c) := q3
  obtain ⟨-, -, -, k3, -, -, -, -, p4, p5, p6, -, -, l4, n1, n2, n3, n4, nn⟩ := R.at hC
  cases hf : gs_fs C with
  | nil =>
    rw [hf] at p6
    have p6 : gm_fv h (ca c) 6 = .int 0 := p6
    simp only [r91_0, r91_0n, r91_1, r91_4, r91_7, r91_10, r91_10n, r91_11, r91_14, r91_17, r91_18, r91_18k, r91_19, r91_21, r91_24, r91_25, r91_26, r91_26n, r91_27, r91_30, r91_31, r91_31k, r91_32, r91_33, r91_34, r91_37, r91_38, r91_41, r91_42, i32_10, reduceIte, gm_cmp1, gm_cmp3, gm_cmp4, gm_kd_sf, gm_ln_sf, gm_sf_1, gm_sf_2, gm_nw_1, gm_nw_2, gm_k_int, gm_k_ref, gm_k_null, gm_k_u, gm_k_long, and_true, true_and, true_or, or_true, or_false, false_or, and_self, or_self, if_true, if_false, List.map_nil, List.map_cons, List.sum_nil, List.sum_cons, Nat.zero_le, Option.toList_some, Option.toList_none, List.cons_append, List.nil_append, ne_eq, not_false_eq_true, not_true_eq_false, nI_1, nI_add, Value.category, Nat.reduceAdd, Nat.reduceMod, Nat.reduceLeDiff, Nat.reduceLT, Nat.reduceEqDiff, Nat.reducePow, Nat.le_refl, Nat.add_left_cancel_iff, Nat.add_eq_left, Nat.left_eq_add, Nat.add_zero, q1, q3, k3, p6]
    exact ⟨by simp, rfl⟩
  | cons q fs =>
    have e0 : ¬ nI (gs_fs C).length = 0 := nI_ne0 (by rw [hf]; simp) (by omega)
    have f0 := (nn 0 q (by rw [hf]; rfl)).2
    cases hvs : ob.2.2.1 with
    | nil => rw [hvs, hf] at hv; simp at hv
    | cons v vs =>
      have v0 := q10 0 v (by rw [hvs]; rfl)
      have vl : 0 < ob.2.2.1.length := by rw [hvs]; simp
      have vl2 : ob.2.2.1.length < 2147483648 := by omega
      simp only [r91_0, r91_0n, r91_1, r91_4, r91_7, r91_10, r91_10n, r91_11, r91_14, r91_17, r91_18, r91_18k, r91_19, r91_21, r91_24, r91_25, r91_26, r91_26n, r91_27, r91_30, r91_31, r91_31k, r91_32, r91_33, r91_34, r91_37, r91_38, r91_41, r91_42, i32_10, reduceIte, gm_cmp1, gm_cmp3, gm_cmp4, gm_kd_sf, gm_ln_sf, gm_sf_1, gm_sf_2, gm_nw_1, gm_nw_2, gm_k_int, gm_k_ref, gm_k_null, gm_k_u, gm_k_long, and_true, true_and, true_or, or_true, or_false, false_or, and_self, or_self, if_true, if_false, List.map_nil, List.map_cons, List.sum_nil, List.sum_cons, Nat.zero_le, Option.toList_some, Option.toList_none, List.cons_append, List.nil_append, ne_eq, not_false_eq_true, not_true_eq_false, nI_1, nI_add, Value.category, Nat.reduceAdd, Nat.reduceMod, Nat.reduceLeDiff, Nat.reduceLT, Nat.reduceEqDiff, Nat.reducePow, Nat.le_refl, Nat.add_left_cancel_iff, Nat.add_eq_left, Nat.left_eq_add, Nat.add_zero, q1, q3, k3, p6, e0, p5, n3, n4, f0]
      by_cases h6 : q.2 < 6
      · simp only [r91_0, r91_0n, r91_1, r91_4, r91_7, r91_10, r91_10n, r91_11, r91_14, r91_17, r91_18, r91_18k, r91_19, r91_21, r91_24, r91_25, r91_26, r91_26n, r91_27, r91_30, r91_31, r91_31k, r91_32, r91_33, r91_34, r91_37, r91_38, r91_41, r91_42, i32_10, reduceIte, gm_cmp1, gm_cmp3, gm_cmp4, gm_kd_sf, gm_ln_sf, gm_sf_1, gm_sf_2, gm_nw_1, gm_nw_2, gm_k_int, gm_k_ref, gm_k_null, gm_k_u, gm_k_long, and_true, true_and, true_or, or_true, or_false, false_or, and_self, or_self, if_true, if_false, List.map_nil, List.map_cons, List.sum_nil, List.sum_cons, Nat.zero_le, Option.toList_some, Option.toList_none, List.cons_append, List.nil_append, ne_eq, not_false_eq_true, not_true_eq_false, nI_1, nI_add, Value.category, Nat.reduceAdd, Nat.reduceMod, Nat.reduceLeDiff, Nat.reduceLT, Nat.reduceEqDiff, Nat.reducePow, Nat.le_refl, Nat.add_left_cancel_iff, Nat.add_eq_left, Nat.left_eq_add, Nat.add_zero, h6, q1, q4, q7, q8, vl, vl2, v0, gx_cmp_lt, reduceIte]
        by_cases h0 : v < 0
        · simp [h0, h6, gx_v]
        · simp [h0, h6, gx_v]
      · simp only [h6, reduceIte]
        exact ⟨by simp [h6], rfl⟩
theorem x_nextPrimitive {i : Nat} (hd : 2 ≤ d) (hi : i < 6) (R : gx_R E h x ca K F s) : gm_Ca E d 93 [.ref x, .int (nI i)] h (gx_P E h x ca K F G s (fun a h' v => v = some (.long a) ∧ gx_nal h h') (gs_prim K (nI i) s)) := by
  show gm_W E d 93 0 [.ref x, .int (nI i), gm_u, gm_u] [] h _
  obtain ⟨⟨z, ez, -, kz, lz, fz⟩, -⟩ := R.2.2.1.1.1
  have e6 := fz i hi
  simp only [r93_0, r93_0n, r93_1, r93_4, r93_5, r93_9, r93_10, r93_11, r93_48, r93_49, r93_50, r93_51, r93_52, r93_53, r93_54, r93_55, r93_56, r93_57, r93_58, r93_59, r93_60, r93_61, r93_62, r93_63, r93_64, r93_65, r93_68, r93_69, r93_72, r93_73, r93_74, r93_75, i32_10, reduceIte, gm_cmp1, gm_cmp3, gm_cmp4, gm_kd_sf, gm_ln_sf, gm_sf_1, gm_sf_2, gm_nw_1, gm_nw_2, gm_k_int, gm_k_ref, gm_k_null, gm_k_u, gm_k_long, and_true, true_and, true_or, or_true, or_false, false_or, and_self, or_self, if_true, if_false, List.map_nil, List.map_cons, List.sum_nil, List.sum_cons, Nat.zero_le, Option.toList_some, Option.toList_none, List.cons_append, List.nil_append, ne_eq, not_false_eq_true, not_true_eq_false, nI_1, nI_add, Value.category, Nat.reduceAdd, Nat.reduceMod, Nat.reduceLeDiff, Nat.reduceLT, Nat.reduceEqDiff, Nat.reducePow, Nat.le_refl, Nat.add_left_cancel_iff, Nat.add_eq_left, Nat.left_eq_add, Nat.add_zero, ez, kz, lz, hi, e6]
  have key : ∀ k : Nat, k ≤ 8 → ([1, 2, 4, 8, 2, 1] : List Int32).getD i 0 = nI k → (if nI i = 0 ∨ nI i = 5 then 1 else if nI i = 1 ∨ nI i = 4 then 2 else if nI i = 2 then 4 else 8) = k → gm_W E d 93 6 [.ref x, .int (nI i), gm_u, gm_u] [.int (([1, 2, 4, 8, 2, 1] : List Int32).getD i 0), .ref x] h (gx_P E h x ca K F G s (fun a h' v => v = some (.long a) ∧ gx_nal h h') (gs_prim K (nI i) s)) := by
    intro k hk8 ek es
    rw [ek]
    unfold gs_prim
    rw [es]
    refine c93_6 (by simp) R.1.1 (by omega) (x_nextNumber (by omega) R hk8) (fun v h1 q => ?_) (fun _ _ q => q.ber)
    obtain ⟨a, s1, e, ⟨rfl, na⟩, q⟩ := q
    rw [gs_b_ok e]
    rcases (show i = 0 ∨ i = 1 ∨ i = 2 ∨ i = 3 ∨ i = 4 ∨ i = 5 by omega) with rfl | rfl | rfl | rfl | rfl | rfl
    all_goals simp (decide := true) only [r93_0, r93_0n, r93_1, r93_4, r93_5, r93_9, r93_10, r93_11, r93_48, r93_49, r93_50, r93_51, r93_52, r93_53, r93_54, r93_55, r93_56, r93_57, r93_58, r93_59, r93_60, r93_61, r93_62, r93_63, r93_64, r93_65, r93_68, r93_69, r93_72, r93_73, r93_74, r93_75, i32_10, reduceIte, gm_cmp1, gm_cmp3, gm_cmp4, gm_kd_sf, gm_ln_sf, gm_sf_1, gm_sf_2, gm_nw_1, gm_nw_2, gm_k_int, gm_k_ref, gm_k_null, gm_k_u, gm_k_long, and_true, true_and, true_or, or_true, or_false, false_or, and_self, or_self, if_true, if_false, List.map_nil, List.map_cons, List.sum_nil, List.sum_cons, Nat.zero_le, Option.toList_some, Option.toList_none, List.cons_append, List.nil_append, ne_eq, not_false_eq_true, not_true_eq_false, nI_1, nI_add, Value.category, Nat.reduceAdd, Nat.reduceMod, Nat.reduceLeDiff, Nat.reduceLT, Nat.reduceEqDiff, Nat.reducePow, Nat.le_refl, Nat.add_left_cancel_iff, Nat.add_eq_left, Nat.left_eq_add, Nat.add_zero, gx_cmp_eq]
    case _ => exact ⟨_, s1, rfl, ⟨rfl, na⟩, q⟩
    case _ => exact ⟨_, s1, rfl, ⟨rfl, na⟩, q⟩
    case _ => exact ⟨_, s1, rfl, ⟨rfl, na⟩, q⟩
    case _ => exact ⟨_, s1, rfl, ⟨rfl, na⟩, q⟩
    case _ => exact ⟨_, s1, rfl, ⟨rfl, na⟩, q⟩
    case _ =>
      by_cases h0 : a = 0
      · simp only [h0, reduceIte]; exact ⟨_, s1, rfl, ⟨rfl, na⟩, q⟩
      · simp only [h0, reduceIte]; exact ⟨_, s1, rfl, ⟨rfl, na⟩, q⟩
  rcases (show i = 0 ∨ i = 1 ∨ i = 2 ∨ i = 3 ∨ i = 4 ∨ i = 5 by omega) with rfl | rfl | rfl | rfl | rfl | rfl
  · exact key 1 (by decide) (by decide) (by decide)
  · exact key 2 (by decide) (by decide) (by decide)
  · exact key 4 (by decide) (by decide) (by decide)
  · exact key 8 (by decide) (by decide) (by decide)
  · exact key 2 (by decide) (by decide) (by decide)
  · exact key 1 (by decide) (by decide) (by decide)
end X7
