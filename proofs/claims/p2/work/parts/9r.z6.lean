/-! THE CLASS, 23: define. -/
section Z6
variable {E : Nat → Value} {d x b : Nat} {h h' : gm_H} {ca ca' : Nat → Nat} {K K' : gs_K} {F G : Nat → Prop} {s : gs_S} {lf : Int32}
/-- a local class made at a -/
def gx_mc (h : gm_H) (a : Nat) (n k : Int32) (su : Value) (id : Int64) : gm_H := gm_sf (gm_sf (gm_sf (gm_sf (gm_sf (gm_nw (gm_sf (gm_nw h (100, List.replicate 4 (.int 0)) 4) a 4 (.ref h.1)) (100, List.replicate 4 (.int 0)) 4) a 5 (.ref (h.1 + 1))) a 0 (.int n)) a 1 (.int k)) a 2 su) a 3 (.long id)
def gx_c1 (h : gm_H) : gm_H := gm_nw h (3, [.int 0, .int 0, .null, .long 0, .null, .null, .int 0, .int 0, .int 0]) 9
theorem gx_c1_1 : (gx_c1 h).1 = h.1 + 1 := rfl
theorem x_LocalClass {n k : Int32} {u : Option Nat} {id : Int64} : gm_Ca E d 114 [.ref h.1, .int n, .int k, gx_ow ca u, .long id] (gx_c1 h) (gx_v none (gx_mc (gx_c1 h) h.1 n k (gx_ow ca u) id)) := by
  have ht : gm_kd (gx_c1 h) h.1 = 3 := by unfold gx_c1; rw [gm_kd_nw1]; rfl
  have hne : h.1 ≠ h.1 + 1 := by omega
  have hne2 : h.1 ≠ h.1 + 1 + 1 := by omega
  have k1 : gm_kd (gm_nw (gx_c1 h) (100, List.replicate 4 (.int 0)) 4) h.1 = 3 := by rw [gm_kd_nw (by rw [gx_c1_1]; omega)]; exact ht
  have k2 : gm_kd (gm_nw (gm_sf (gm_nw (gx_c1 h) (100, List.replicate 4 (.int 0)) 4) h.1 4 (.ref (h.1 + 1))) (100, List.replicate 4 (.int 0)) 4) h.1 = 3 := by rw [gm_kd_nw (by simp only [gm_sf_1, gm_nw_1, gx_c1_1]; omega), gm_kd_sf]; exact k1
  cases u with
  | none =>
    show gm_W E d 114 0 [.ref h.1, .int n, .int k, .null, .long id, gm_u] [] (gx_c1 h) _
    simp only [r114_0, r114_0n, r114_1, r114_4, r114_4n, r114_5, r114_6, r114_8, r114_8n, r114_11, r114_11n, r114_12, r114_13, r114_15, r114_15n, r114_18, r114_18n, r114_19, r114_20, r114_23, r114_23n, r114_24, r114_25, r114_28, r114_28n, r114_29, r114_29n, r114_30, r114_30n, r114_33, r114_33n, r114_34, r114_36, r114_39, i32_10, reduceIte, gm_cmp1, gm_cmp3, gm_cmp4, gm_kd_sf, gm_ln_sf, gm_sf_1, gm_sf_2, gm_nw_1, gm_nw_2, gm_k_int, gm_k_ref, gm_k_null, gm_k_u, gm_k_long, and_true, true_and, true_or, or_true, or_false, false_or, and_self, or_self, if_true, if_false, List.map_nil, List.map_cons, List.sum_nil, List.sum_cons, Nat.zero_le, Option.toList_some, Option.toList_none, List.cons_append, List.nil_append, ne_eq, not_false_eq_true, not_true_eq_false, nI_1, nI_add, Value.category, Nat.reduceAdd, Nat.reduceMod, Nat.reduceLeDiff, Nat.reduceLT, Nat.reduceEqDiff, Nat.reducePow, Nat.le_refl, Nat.add_left_cancel_iff, Nat.add_eq_left, Nat.left_eq_add, Nat.add_zero, ht, gx_c1_1, k1, k2]
    exact ⟨rfl, by unfold gx_mc; simp only [gm_sf_1, gx_c1_1, gx_ow, gm_nw_1]⟩
  | some c =>
    show gm_W E d 114 0 [.ref h.1, .int n, .int k, .ref (ca c), .long id, gm_u] [] (gx_c1 h) _
    simp only [r114_0, r114_0n, r114_1, r114_4, r114_4n, r114_5, r114_6, r114_8, r114_8n, r114_11, r114_11n, r114_12, r114_13, r114_15, r114_15n, r114_18, r114_18n, r114_19, r114_20, r114_23, r114_23n, r114_24, r114_25, r114_28, r114_28n, r114_29, r114_29n, r114_30, r114_30n, r114_33, r114_33n, r114_34, r114_36, r114_39, i32_10, reduceIte, gm_cmp1, gm_cmp3, gm_cmp4, gm_kd_sf, gm_ln_sf, gm_sf_1, gm_sf_2, gm_nw_1, gm_nw_2, gm_k_int, gm_k_ref, gm_k_null, gm_k_u, gm_k_long, and_true, true_and, true_or, or_true, or_false, false_or, and_self, or_self, if_true, if_false, List.map_nil, List.map_cons, List.sum_nil, List.sum_cons, Nat.zero_le, Option.toList_some, Option.toList_none, List.cons_append, List.nil_append, ne_eq, not_false_eq_true, not_true_eq_false, nI_1, nI_add, Value.category, Nat.reduceAdd, Nat.reduceMod, Nat.reduceLeDiff, Nat.reduceLT, Nat.reduceEqDiff, Nat.reducePow, Nat.le_refl, Nat.add_left_cancel_iff, Nat.add_eq_left, Nat.left_eq_add, Nat.add_zero, ht, gx_c1_1, k1, k2]
    exact ⟨rfl, by unfold gx_mc; simp only [gm_sf_1, gx_c1_1, gx_ow, gm_nw_1]⟩
theorem gx_mc_1 {n k : Int32} {su : Value} {id : Int64} : (gx_mc (gx_c1 h) h.1 n k su id).1 = h.1 + 3 ∧ (gx_mc (gx_c1 h) h.1 n k su id).2.1 = h.2.1 + 17 := by
  unfold gx_mc gx_c1
  simp only [gm_sf_1, gm_sf_2, gm_nw_1, gm_nw_2, Nat.add_assoc, and_self]
theorem gx_mc_rd {n k : Int32} {su : Value} {id : Int64} : ∀ a, a < h.1 → gm_rd (gx_mc (gx_c1 h) h.1 n k su id) a = gm_rd h a := by
  intro a ha
  unfold gx_mc gx_c1
  rw [gm_rd_sfn (by omega), gm_rd_sfn (by omega), gm_rd_sfn (by omega), gm_rd_sfn (by omega), gm_rd_sfn (by omega), gm_rd_nwn (by simp only [gm_sf_1, gm_nw_1]; omega), gm_rd_sfn (by omega), gm_rd_nwn (by simp only [gm_nw_1]; omega), gm_rd_nwn (by omega)]
theorem gx_mc_cl {n : Nat} {k : Int32} {u : Option Nat} {id : Int64} (hx : x + 6 < h.1) : gx_cl (gx_mc (gx_c1 h) h.1 (nI n) k (gx_ow ca u) id) x ca (fun _ => False) n (k, u, id, [], false, 0) h.1 := by
  have k0 : gm_kd (gx_c1 h) h.1 = 3 := by unfold gx_c1; rw [gm_kd_nw1]; rfl
  have l0 : gm_ln (gx_c1 h) h.1 = 9 := gm_ln_nw1
  have f0 : ∀ j, gm_fv (gx_c1 h) h.1 j = ([.int 0, .int 0, .null, .long 0, .null, .null, .int 0, .int 0, .int 0] : List Value).getD j gm_u := fun j => gm_fv_nw1
  obtain ⟨h1, h1e⟩ : ∃ h1, h1 = gm_sf (gm_nw (gx_c1 h) (100, List.replicate 4 (.int 0)) 4) h.1 4 (.ref (gx_c1 h).1) := ⟨_, rfl⟩
  have c1 : h1.1 = h.1 + 2 := by rw [h1e]; simp only [gm_sf_1, gm_nw_1, gx_c1_1]
  have na : h.1 ≠ (gx_c1 h).1 := by rw [gx_c1_1]; omega
  have k1 : gm_kd h1 h.1 = 3 := by rw [h1e, gm_kd_sf, gm_kd_nw na]; exact k0
  have l1 : gm_ln h1 h.1 = 9 := by rw [h1e, gm_ln_sf, gm_ln_nw na]; exact l0
  have f14 : gm_fv h1 h.1 4 = .ref (h.1 + 1) := by rw [h1e, gm_fv_sf (by rw [gm_ln_nw na, l0]; decide)]; rfl
  have f1 : ∀ j, j ≠ 4 → gm_fv h1 h.1 j = ([.int 0, .int 0, .null, .long 0, .null, .null, .int 0, .int 0, .int 0] : List Value).getD j gm_u := fun j hj => by rw [h1e, gm_fv_sfj hj, gm_fv_nw na]; exact f0 j
  have ka1 : gm_kd h1 (h.1 + 1) = 100 := by rw [h1e, gm_kd_sf, ← gx_c1_1, gm_kd_nw1]; rfl
  have la1 : gm_ln h1 (h.1 + 1) = 4 := by rw [h1e, gm_ln_sf, ← gx_c1_1, gm_ln_nw1]; rfl
  obtain ⟨h2, h2e⟩ : ∃ h2, h2 = gm_nw h1 (100, List.replicate 4 (.int 0)) 4 := ⟨_, rfl⟩
  have nb : h.1 ≠ h1.1 := by omega
  have nc : h.1 + 1 ≠ h1.1 := by omega
  have e2 : gx_mc (gx_c1 h) h.1 (nI n) k (gx_ow ca u) id = gm_sf (gm_sf (gm_sf (gm_sf (gm_sf h2 h.1 5 (.ref (h.1 + 2))) h.1 0 (.int (nI n))) h.1 1 (.int k)) h.1 2 (gx_ow ca u)) h.1 3 (.long id) := by
    rw [h2e, h1e]
    rfl
  have k2 : gm_kd h2 h.1 = 3 := by rw [h2e, gm_kd_nw nb]; exact k1
  have l2 : gm_ln h2 h.1 = 9 := by rw [h2e, gm_ln_nw nb]; exact l1
  have n1 : h.1 + 1 ≠ h.1 := by omega
  have n2 : h.1 + 2 ≠ h.1 := by omega
  have f2 : ∀ j, j ≠ 4 → gm_fv h2 h.1 j = ([.int 0, .int 0, .null, .long 0, .null, .null, .int 0, .int 0, .int 0] : List Value).getD j gm_u := fun j hj => by rw [h2e, gm_fv_nw nb]; exact f1 j hj
  have c2 : h2.1 = h.1 + 3 := by rw [h2e, gm_nw_1, c1]
  rw [e2]
  refine ⟨⟨⟨Or.inr hx, by simp only [gm_sf_1]; omega, fun z => z⟩, ⟨Or.inr (by omega), by simp only [gm_sf_1]; omega, fun z => z⟩, ⟨Or.inr (by omega), by simp only [gm_sf_1]; omega, fun z => z⟩⟩, ?_, ?_, ?_, ?_, ?_, ?_, ?_, ?_, ?_, ?_, Nat.zero_le _, ?_, ?_, ?_, ?_, fun j q hj => by simp [gs_fs] at hj⟩
  · simp only [gm_kd_sf]; exact k2
  · rw [gm_fv_sfj (by decide), gm_fv_sfj (by decide), gm_fv_sfj (by decide), gm_fv_sf (by simp only [gm_ln_sf, l2]; decide)]
  · rw [gm_fv_sfj (by decide), gm_fv_sfj (by decide), gm_fv_sf (by simp only [gm_ln_sf, l2]; decide)]; rfl
  · rw [gm_fv_sfj (by decide), gm_fv_sf (by simp only [gm_ln_sf, l2]; decide)]; rfl
  · rw [gm_fv_sf (by simp only [gm_ln_sf, l2]; decide)]; rfl
  · rw [gm_fv_sfj (by decide), gm_fv_sfj (by decide), gm_fv_sfj (by decide), gm_fv_sfj (by decide), gm_fv_sfj (by decide), h2e, gm_fv_nw nb]; exact f14
  · rw [gm_fv_sfj (by decide), gm_fv_sfj (by decide), gm_fv_sfj (by decide), gm_fv_sfj (by decide), gm_fv_sf (by rw [l2]; decide)]
  · rw [gm_fv_sfj (by decide), gm_fv_sfj (by decide), gm_fv_sfj (by decide), gm_fv_sfj (by decide), gm_fv_sfj (by decide), f2 6 (by decide)]; rfl
  · rw [gm_fv_sfj (by decide), gm_fv_sfj (by decide), gm_fv_sfj (by decide), gm_fv_sfj (by decide), gm_fv_sfj (by decide), f2 7 (by decide)]; rfl
  · rw [gm_fv_sfj (by decide), gm_fv_sfj (by decide), gm_fv_sfj (by decide), gm_fv_sfj (by decide), gm_fv_sfj (by decide), f2 8 (by decide)]; rfl
  · simp only [gm_kd_sf]; rw [h2e, gm_kd_nw nc]; exact ka1
  · simp only [gm_ln_sf]; rw [h2e, gm_ln_nw nc]; exact la1
  · simp only [gm_kd_sf]; rw [h2e, show h.1 + 2 = h1.1 by omega, gm_kd_nw1]; rfl
  · simp only [gm_ln_sf]; rw [h2e, show h.1 + 2 = h1.1 by omega, gm_ln_nw1]; rfl
/-- classes with one more -/
def gs_def1 (K : gs_K) (n : Nat) (C : gs_C) : gs_K := (K.1, (fun i => if i = n then some C else gs_cls K i), K.2.2)
def gs_ext (k a : Int32) : Bool := if 2 < a then false else if k ≤ 2 then (if k = 0 then decide (a = 0) else true) else false
/-- may it be defined; over which -/
def gs_defok (K : gs_K) (n k u : Int32) : Bool := decide (0 ≤ n) && decide (n < 6) && decide (0 ≤ k) && decide (k ≤ 4) && decide (-1 ≤ u) && decide (u < n) && (gs_cls K n.toNatClampNeg).isNone && (decide (u < 0) || (gs_cls K u.toNatClampNeg).any (fun C => gs_ext k (gs_kind C)))
def gs_defsup (u : Int32) : Option Nat := if u < 0 then none else some u.toNatClampNeg
theorem gx_C.def1 {n : Nat} {C : gs_C} (R : gx_C E h x ca K (fun _ => False)) (hn : n < 6) (hno : gs_cls K n = none) (hr : ∀ b, b < h.1 → b ≠ x + 1 → gm_rd h' b = gm_rd h b) (hx : x + 6 < h.1) (hle : h.1 ≤ h'.1) (hf : ∀ c, c ≠ n → gm_fv h' (x + 1) c = gm_fv h (x + 1) c) (hfn : gm_fv h' (x + 1) n = .ref h.1) (hcl : gx_cl h' x ca (fun _ => False) n C h.1) (hsup : ∀ s, gs_sup C = some s → s < n ∧ (gs_cls K s).isSome = true) :
    gx_C E h' x (fun c => if c = n then h.1 else ca c) (gs_def1 K n C) (fun _ => False) := by
  have g : gx_ag h h' x (fun _ => False) := ⟨hle, fun b o => hr b o.2.1 (by have := o.1; omega)⟩
  have ow : ∀ o : Option Nat, (∀ c, o = some c → (gs_cls K c).isSome = true) → gx_ow (fun c => if c = n then h.1 else ca c) o = gx_ow ca o := fun o ho => gx_ow_eq (fun c e => by
    have := ho c e
    have hne : c ≠ n := fun z => by rw [z, hno] at this; cases this
    show (if c = n then h.1 else ca c) = ca c
    rw [if_neg hne])
  refine ⟨⟨R.1.1.tr g, fun c hc => ?_⟩, fun c hc => ⟨fun z => ?_, fun C' z => ?_⟩⟩
  · show (if c = n then some C else gs_cls K c) = none
    rw [if_neg (by omega)]
    exact R.1.2 c hc
  · have z : (if c = n then some C else gs_cls K c) = none := z
    by_cases e : c = n
    · rw [if_pos e] at z; cases z
    · rw [if_neg e] at z
      rw [hf c e]
      exact (R.2 c hc).1 z
  · have z : (if c = n then some C else gs_cls K c) = some C' := z
    by_cases e : c = n
    · rw [if_pos e] at z
      cases z
      subst e
      refine ⟨by rw [hfn]; simp, ?_, fun s hs => ⟨(hsup s hs).1, ?_⟩⟩
      · simp only [if_true]
        obtain ⟨p0, p1, p2, p3, p4, p5⟩ := hcl
        exact ⟨p0, p1, p2, p3, by rw [p4, ow _ (fun c e => (hsup c e).2)], p5⟩
      · show (if s = c then some C else gs_cls K s).isSome = true
        rw [if_neg (by have := (hsup s hs).1; omega)]
        exact (hsup s hs).2
    · rw [if_neg e] at z
      obtain ⟨q1, q2, q3⟩ := (R.2 c hc).2 C' z
      refine ⟨by rw [hf c e, q1]; simp [e], ?_, fun s hs => ⟨(q3 s hs).1, ?_⟩⟩
      · simp only [e, if_false]
        obtain ⟨p0, p1, p2, p3, p4, p5⟩ := q2.tr g
        exact ⟨p0, p1, p2, p3, by rw [p4, ow _ (fun c e => (q3 c e).2)], p5⟩
      · show (if s = n then some C else gs_cls K s).isSome = true
        rw [if_neg (fun z => by have := (q3 s hs).2; rw [z, hno] at this; cases this)]
        exact (q3 s hs).2
end Z6
