/-! what keeps a GraphReader as it is; how it changes -/
section REP
variable {E : Nat → Value} {h h' : gm_H} {x a b j k n : Nat} {ca : Nat → Nat} {K : gs_K} {F F' : Nat → Prop} {s s' : gs_S} {v : Value}
theorem gv_kd (e : gm_rd h' a = gm_rd h a) : gm_kd h' a = gm_kd h a := by unfold gm_kd; rw [e]
theorem gv_ln (e : gm_rd h' a = gm_rd h a) : gm_ln h' a = gm_ln h a := by unfold gm_ln; rw [e]
theorem gv_fv (e : gm_rd h' a = gm_rd h a) : gm_fv h' a j = gm_fv h a j := by unfold gm_fv; rw [e]
theorem gm_rd_sfn (e : b ≠ a) : gm_rd (gm_sf h a k v) b = gm_rd h b := by rw [gm_rd_sf, if_neg e]
theorem gm_rd_nwn {c : gm_C} (e : b ≠ h.1) : gm_rd (gm_nw h c n) b = gm_rd h b := by rw [gm_rd_nw, if_neg e]
theorem gx_ok.tr (o : gx_ok h x F a) (hle : h.1 ≤ h'.1) : gx_ok h' x F a := ⟨o.1, Nat.lt_of_lt_of_le o.2.1 hle, o.2.2⟩
theorem gx_ok.wk (o : gx_ok h x F a) (hF : ∀ b, F' b → h.1 ≤ b ∨ F b) : gx_ok h x F' a := ⟨o.1, o.2.1, fun z => by
  rcases hF _ z with q | q
  · have := o.2.1; omega
  · exact o.2.2 q⟩
/-- two heaps alike where something may stand -/
def gx_ag (h h' : gm_H) (x : Nat) (F : Nat → Prop) : Prop := h.1 ≤ h'.1 ∧ ∀ a, gx_ok h x F a → gm_rd h' a = gm_rd h a
theorem gx_ag.sf (hb : ¬ gx_ok h x F b) : gx_ag h (gm_sf h b k v) x F := ⟨by rw [gm_sf_1]; exact Nat.le_refl _, fun a o => gm_rd_sfn (fun z => hb (z ▸ o))⟩
theorem gx_ag.nw {c : gm_C} : gx_ag h (gm_nw h c n) x F := ⟨Nat.le_succ _, fun a o => gm_rd_nwn (by have := o.2.1; omega)⟩
theorem gx_ok.no (hb : x ≤ b ∧ b ≤ x + 6) : ¬ gx_ok h x F b := fun o => by have := o.1; omega
theorem gx_cl.tr {c : Nat} {C : gs_C} (q : gx_cl h x ca F c C a) (g : gx_ag h h' x F) : gx_cl h' x ca F c C a := by
  obtain ⟨⟨o1, o2, o3⟩, q⟩ := q
  refine ⟨⟨o1.tr g.1, o2.tr g.1, o3.tr g.1⟩, ?_⟩
  simp only [gv_kd (g.2 _ o1), gv_kd (g.2 _ o2), gv_kd (g.2 _ o3), gv_ln (g.2 _ o2), gv_ln (g.2 _ o3), gv_fv (g.2 _ o1), gv_fv (g.2 _ o2), gv_fv (g.2 _ o3)]
  exact q
theorem gx_cl.wk {c : Nat} {C : gs_C} (q : gx_cl h x ca F c C a) (hF : ∀ b, F' b → h.1 ≤ b ∨ F b) : gx_cl h x ca F' c C a := ⟨⟨q.1.1.wk hF, q.1.2.1.wk hF, q.1.2.2.wk hF⟩, q.2⟩
theorem gx_G.tr (q : gx_G E h x F) (g : gx_ag h h' x F) : gx_G E h' x F := by
  obtain ⟨⟨z, e0, o, k1, k2, k3⟩, e5, q⟩ := q
  refine ⟨⟨z, e0, o.tr g.1, ?_⟩, e5, fun i hi => ?_⟩
  · simp only [gv_kd (g.2 _ o), gv_ln (g.2 _ o), gv_fv (g.2 _ o)]
    exact ⟨k1, k2, k3⟩
  · obtain ⟨a, v, e, o1, o2, q⟩ := q i hi
    refine ⟨a, v, e, o1.tr g.1, o2.tr g.1, ?_⟩
    simp only [gv_kd (g.2 _ o1), gv_ln (g.2 _ o1), gv_fv (g.2 _ o1), gv_kd (g.2 _ o2), gv_ln (g.2 _ o2), gv_fv (g.2 _ o2)]
    exact q
theorem gx_G.wk (q : gx_G E h x F) (hF : ∀ b, F' b → h.1 ≤ b ∨ F b) : gx_G E h x F' := by
  obtain ⟨⟨z, e0, o, k⟩, e5, q⟩ := q
  refine ⟨⟨z, e0, o.wk hF, k⟩, e5, fun i hi => ?_⟩
  obtain ⟨a, v, e, o1, o2, q⟩ := q i hi
  exact ⟨a, v, e, o1.wk hF, o2.wk hF, q⟩
theorem gx_C.tr (q : gx_C E h x ca K F) (g : gx_ag h h' x F) (e : ∀ c, c < 6 → gm_fv h' (x + 1) c = gm_fv h (x + 1) c) : gx_C E h' x ca K F := by
  refine ⟨⟨q.1.1.tr g, q.1.2⟩, fun c hc => ⟨fun z => ?_, fun C z => ?_⟩⟩
  · rw [e c hc]; exact (q.2 c hc).1 z
  · obtain ⟨a1, a2, a3⟩ := (q.2 c hc).2 C z
    exact ⟨by rw [e c hc]; exact a1, a2.tr g, a3⟩
theorem gx_C.wk (q : gx_C E h x ca K F) (hF : ∀ b, F' b → h.1 ≤ b ∨ F b) : gx_C E h x ca K F' := ⟨⟨q.1.1.wk hF, q.1.2⟩, fun c hc => ⟨(q.2 c hc).1, fun C z => ⟨((q.2 c hc).2 C z).1, ((q.2 c hc).2 C z).2.1.wk hF, ((q.2 c hc).2 C z).2.2⟩⟩⟩
theorem gx_th.tr {o : gs_O} (q : gx_th h ca o a) (e1 : gm_rd h' a = gm_rd h a) (e2 : gm_rd h' (a + 1) = gm_rd h (a + 1)) : gx_th h' ca o a := by
  unfold gx_th
  simp only [gv_kd e1, gv_kd e2, gv_ln e2, gv_fv e1, gv_fv e2]
  exact q
theorem gx_ds.tr (g : gx_ag h h' x F) : ∀ {L : List gs_L} {v : Value}, gx_ds h x ca K F L v → gx_ds h' x ca K F L v
  | [], _, q => q
  | l :: L, v, q => by
    obtain ⟨a, u, w, rfl, o1, o2, o3, q⟩ := q
    refine ⟨a, u, w, rfl, o1.tr g.1, o2.tr g.1, o3.tr g.1, ?_⟩
    simp only [gv_kd (g.2 _ o1), gv_kd (g.2 _ o2), gv_kd (g.2 _ o3), gv_ln (g.2 _ o2), gv_ln (g.2 _ o3), gv_fv (g.2 _ o1), gv_fv (g.2 _ o2), gv_fv (g.2 _ o3)]
    obtain ⟨q1, q2, q3, q4, q5, q6, q7, q8, q9, q10, q11, q12, q13, q14, q15, q16, q17, q18, q19⟩ := q
    exact ⟨q1, q2, q3, q4, q5, q6, q7, q8, q9, q10, q11, q12, q13, q14, q15, q16, q17, q18, gx_ds.tr g q19⟩
theorem gx_ds.wk (hF : ∀ b, F' b → h.1 ≤ b ∨ F b) : ∀ {L : List gs_L} {v : Value}, gx_ds h x ca K F L v → gx_ds h x ca K F' L v
  | [], _, q => q
  | l :: L, v, q => by
    obtain ⟨a, u, w, rfl, o1, o2, o3, q1, q2, q3, q4, q5, q6, q7, q8, q9, q10, q11, q12, q13, q14, q15, q16, q17, q18, q19⟩ := q
    exact ⟨a, u, w, rfl, o1.wk hF, o2.wk hF, o3.wk hF, q1, q2, q3, q4, q5, q6, q7, q8, q9, q10, q11, q12, q13, q14, q15, q16, q17, q18, gx_ds.wk hF q19⟩
theorem gx_R.wk (q : gx_R E h x ca K F s) (hF : ∀ b, F' b → h.1 ≤ b ∨ F b) : gx_R E h x ca K F' s := by
  obtain ⟨q1, q2, q3, q4, ⟨ta, q5⟩, q6, q7⟩ := q
  refine ⟨q1, q2, q3.wk hF, q4, ⟨ta, q5.1, fun i o z => ?_⟩, fun i e z => ?_, q7⟩
  · obtain ⟨b1, b2, b3⟩ := q5.2 i o z
    exact ⟨b1, ⟨b2.1.wk hF, b2.2.wk hF⟩, b3⟩
  · exact ⟨(q6 i e z).1, (q6 i e z).2.wk hF⟩
/-- own cells changed, objects and handles as before -/
theorem gx_R.own (q : gx_R E h x ca K F s) (g : gx_ag h h' x F) (hA : gx_A h' x) (hB : gx_B h' x K) (h1 : ∀ c, c < 6 → gm_fv h' (x + 1) c = gm_fv h (x + 1) c) (hM : gx_M h' x K s') (h3 : ∀ i, i < (gs_hp s).length → gm_fv h' (x + 3) i = gm_fv h (x + 3) i)
    (h5 : ∀ i, i < (gs_hs s).length → gm_fv h' (x + 5) i = gm_fv h (x + 5) i ∧ gm_fv h' (x + 6) i = gm_fv h (x + 6) i) (e1 : gs_hp s' = gs_hp s) (e2 : gs_hs s' = gs_hs s) : gx_R E h' x ca K F s' := by
  obtain ⟨q1, q2, q3, q4, ⟨ta, q5⟩, q6, q7⟩ := q
  refine ⟨hA, hB, q3.tr g h1, hM, ⟨ta, by rw [e1]; exact q5.1, fun i o z => ?_⟩, fun i e z => ?_, ⟨fun i o c z => q7.1 i o c (by rw [← e1]; exact z), fun i e z => by unfold gs_dn; rw [e2] at z ⊢; exact q7.2 i e z⟩⟩
  · rw [e1] at z
    obtain ⟨b1, b2, b3⟩ := q5.2 i o z
    refine ⟨by rw [h3 i (List.getElem?_eq_some_iff.mp z).1]; exact b1, ⟨b2.1.tr g.1, b2.2.tr g.1⟩, b3.tr (g.2 _ b2.1) (g.2 _ b2.2)⟩
  · rw [e2] at z
    have := h5 i (List.getElem?_eq_some_iff.mp z).1
    rw [this.1, this.2]
    exact ⟨(q6 i e z).1, (q6 i e z).2.tr g⟩
theorem gx_R.new {c : gm_C} (q : gx_R E h x ca K F s) : gx_R E (gm_nw h c n) x ca K F s := by
  have hx := q.1.2.2.2.2.2.2.2.2.2.2.2.2.2.2.2.2.2.2
  have e : ∀ i, i ≤ 6 → x + i ≠ h.1 := fun i hi => by omega
  have e0 : x ≠ h.1 := by omega
  refine q.own gx_ag.nw ?_ ?_ (fun c _ => gm_fv_nw (e 1 (by decide))) ?_ (fun i _ => gm_fv_nw (e 3 (by decide))) (fun i _ => ⟨gm_fv_nw (e 5 (by decide)), gm_fv_nw (e 6 (by decide))⟩) rfl rfl
  · have z := q.1
    unfold gx_A at z ⊢
    simp only [gm_kd_nw e0, gm_fv_nw e0, gm_kd_nw (e 1 (by decide)), gm_ln_nw (e 1 (by decide)), gm_kd_nw (e 2 (by decide)), gm_ln_nw (e 2 (by decide)), gm_kd_nw (e 3 (by decide)), gm_ln_nw (e 3 (by decide)), gm_kd_nw (e 4 (by decide)), gm_fv_nw (e 4 (by decide)), gm_kd_nw (e 5 (by decide)), gm_ln_nw (e 5 (by decide)), gm_kd_nw (e 6 (by decide)), gm_ln_nw (e 6 (by decide)), gm_nw_1]
    obtain ⟨z1, z2, z3, z4, z5, z6, z7, z8, z9, z10, z11, z12, z13, z14, z15, z16, z17, z18, z19⟩ := z
    exact ⟨z1, z2, z3, z4, z5, z6, z7, z8, z9, z10, z11, z12, z13, z14, z15, z16, z17, z18, by omega⟩
  · have z := q.2.1
    unfold gx_B at z ⊢
    simp only [gm_fv_nw e0, gm_fv_nw (e 2 (by decide))]
    exact z
  · have z := q.2.2.2.1
    unfold gx_M at z ⊢
    simp only [gm_fv_nw e0, gm_fv_nw (e 4 (by decide))]
    exact z
theorem gx_R.out (q : gx_R E h x ca K F s) (hF : F a) (ha : x + 6 < a) : gx_R E (gm_sf h a k v) x ca K F s := by
  have e : ∀ i, i ≤ 6 → x + i ≠ a := fun i hi => by omega
  have e0 : x ≠ a := by omega
  refine q.own (gx_ag.sf fun z => z.2.2 hF) ?_ ?_ (fun c _ => gm_fv_sfa (e 1 (by decide))) ?_ (fun i _ => gm_fv_sfa (e 3 (by decide))) (fun i _ => ⟨gm_fv_sfa (e 5 (by decide)), gm_fv_sfa (e 6 (by decide))⟩) rfl rfl
  · have z := q.1
    unfold gx_A at z ⊢
    simp only [gm_kd_sf, gm_ln_sf, gm_fv_sfa e0, gm_fv_sfa (e 4 (by decide)), gm_sf_1]
    exact z
  · have z := q.2.1
    unfold gx_B at z ⊢
    simp only [gm_fv_sfa e0, gm_fv_sfa (e 2 (by decide))]
    exact z
  · have z := q.2.2.2.1
    unfold gx_M at z ⊢
    simp only [gm_fv_sfa e0, gm_fv_sfa (e 4 (by decide))]
    exact z
/-- its own fields: place 7, heapSize 9 alone, lastingFault 11, raisedFault 12 -/
theorem gx_R.fld (q : gx_R E h x ca K F s) (hk : k = 7 ∨ k = 11 ∨ k = 12) (hM : gx_M (gm_sf h x k v) x K s') (e1 : gs_hp s' = gs_hp s) (e2 : gs_hs s' = gs_hs s) : gx_R E (gm_sf h x k v) x ca K F s' := by
  have e : ∀ i, 0 < i → x + i ≠ x := fun i hi => by omega
  refine q.own (gx_ag.sf (gx_ok.no (by omega))) ?_ ?_ (fun c _ => gm_fv_sfa (e 1 (by decide))) hM (fun i _ => gm_fv_sfa (e 3 (by decide))) (fun i _ => ⟨gm_fv_sfa (e 5 (by decide)), gm_fv_sfa (e 6 (by decide))⟩) e1 e2
  · have z := q.1
    unfold gx_A at z ⊢
    simp only [gm_kd_sf, gm_ln_sf, gm_fv_sfj (show 4 ≠ k by omega), gm_fv_sfj (show 5 ≠ k by omega), gm_fv_sfj (show 8 ≠ k by omega), gm_fv_sfj (show 10 ≠ k by omega), gm_fv_sfa (e 4 (by decide)), gm_sf_1]
    exact z
  · have z := q.2.1
    unfold gx_B at z ⊢
    simp only [gm_fv_sfj (show 0 ≠ k by omega), gm_fv_sfj (show 1 ≠ k by omega), gm_fv_sfj (show 2 ≠ k by omega), gm_fv_sfj (show 3 ≠ k by omega), gm_fv_sfj (show 6 ≠ k by omega), gm_fv_sfa (e 2 (by decide))]
    exact z
theorem gx_R.len (q : gx_R E h x ca K F s) : gm_ln h x = 13 ∧ gm_ln h (x + 4) = 4 := ⟨gm_kd_ln q.1.1 (by decide), gm_kd_ln q.1.2.2.2.2.2.2.2.2.2.2.2.1 (by decide)⟩
theorem gx_R.place {p : Nat} (q : gx_R E h x ca K F s) (hp : p ≤ gs_n K) : gx_R E (gm_sf h x 7 (.int (nI p))) x ca K F (gs_p p s) := by
  have e : ∀ i, 0 < i → x + i ≠ x := fun i hi => by omega
  refine q.fld (Or.inl rfl) ?_ rfl rfl
  obtain ⟨z1, z2, z3, z4, z5, z6, z7, z8, z9⟩ := q.2.2.2.1
  refine ⟨gm_fv_sf (by rw [q.len.1]; decide), hp, ?_, z4, ?_, ?_, z7, z8, ?_⟩
  · rw [gm_fv_sfj (by decide)]; exact z3
  · rw [gm_fv_sfa (e 4 (by decide))]; exact z5
  · rw [gm_fv_sfa (e 4 (by decide))]; exact z6
  · rw [gm_fv_sfj (by decide)]; exact z9
theorem gx_R.raise {f : Int32} (q : gx_R E h x ca K F s) : gx_R E (gm_sf h x 12 (.int f)) x ca K F s := by
  have e : ∀ i, 0 < i → x + i ≠ x := fun i hi => by omega
  refine q.fld (Or.inr (Or.inr rfl)) ?_ rfl rfl
  obtain ⟨z1, z2, z3, z4, z5, z6, z7, z8, z9⟩ := q.2.2.2.1
  refine ⟨?_, z2, ?_, z4, ?_, ?_, z7, z8, f, gm_fv_sf (by rw [q.len.1]; decide)⟩
  · rw [gm_fv_sfj (by decide)]; exact z1
  · rw [gm_fv_sfj (by decide)]; exact z3
  · rw [gm_fv_sfa (e 4 (by decide))]; exact z5
  · rw [gm_fv_sfa (e 4 (by decide))]; exact z6
end REP
