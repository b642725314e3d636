/-! handles and objects that come and change -/
section REP3
variable {E : Nat → Value} {h h' : gm_H} {x a b e j k n t : Nat} {ca : Nat → Nat} {K : gs_K} {F F' : Nat → Prop} {s s' : gs_S} {v : Int32}
/-- two changes of the handles' cells alone -/
theorem gx_R.hnd (q : gx_R E h x ca K F s) (g : gx_ag h h' x F) (h1 : h'.1 = h.1) (hk : ∀ a, gm_kd h' a = gm_kd h a) (hl : ∀ a, gm_ln h' a = gm_ln h a) (hf : ∀ a j, a ≠ x + 5 → a ≠ x + 6 → (a ≠ x + 4 ∨ j < 2) → gm_fv h' a j = gm_fv h a j)
    (hM : gx_M h' x K s') (e1 : gs_hp s' = gs_hp s) (hH : gx_H h' x ca K F s') (hD : ∀ (i : Nat) (e : Int32 × List gs_L), (gs_hs s')[i]? = some e → e.2.length ≤ gs_dn s') : gx_R E h' x ca K F s' := by
  obtain ⟨q1, q2, q3, q4, ⟨ta, q5⟩, q6, q7⟩ := q
  refine ⟨?_, ?_, q3.tr g (fun c _ => hf _ _ (by omega) (by omega) (by omega)), hM, ⟨ta, by rw [e1]; exact q5.1, fun i o z => ?_⟩, hH, fun i o c z => q7.1 i o c (by rw [← e1]; exact z), hD⟩
  · unfold gx_A at q1 ⊢
    simp only [hk, hl, h1, hf x _ (by omega) (by omega) (Or.inl (by omega)), hf (x + 4) 0 (by omega) (by omega) (Or.inr (by decide)), hf (x + 4) 1 (by omega) (by omega) (Or.inr (by decide))]
    exact q1
  · unfold gx_B at q2 ⊢
    simp only [hf x _ (by omega) (by omega) (Or.inl (by omega)), hf (x + 2) _ (by omega) (by omega) (Or.inl (by omega))]
    exact q2
  · rw [e1] at z
    obtain ⟨b1, b2, b3⟩ := q5.2 i o z
    exact ⟨by rw [hf (x + 3) i (by omega) (by omega) (by omega)]; exact b1, ⟨b2.1.tr g.1, b2.2.tr g.1⟩, b3.tr (g.2 _ b2.1) (g.2 _ b2.2)⟩
theorem gs_cnt_mod {α : Type} {p : α → Bool} {f : α → α} : ∀ (l : List α) (e : Nat) (a : α), l[e]? = some a → (p a = false → p (f a) = true → (l.modify e f).countP p = l.countP p + 1) ∧ (p (f a) = p a → (l.modify e f).countP p = l.countP p)
  | [], e, a, h => by simp at h
  | b :: l, 0, a, h => by
    simp at h
    subst h
    constructor
    · intro h1 h2
      simp [h1, h2]
    · intro h1
      simp [List.countP_cons, h1]
  | b :: l, e + 1, a, h => by
    simp at h
    obtain ⟨h1, h2⟩ := gs_cnt_mod (p := p) (f := f) l e a h
    constructor
    · intro h3 h4
      simp only [List.modify_succ_cons, List.countP_cons]
      rw [h1 h3 h4]
      omega
    · intro h3
      simp only [List.modify_succ_cons, List.countP_cons]
      rw [h2 h3]
theorem gx_ag.trans {h1 h2 : gm_H} (p : gx_ag h h1 x F) (q : gx_ag h1 h2 x F) : gx_ag h h2 x F := ⟨Nat.le_trans p.1 q.1, fun a o => (q.2 a (o.tr p.1)).trans (p.2 a o)⟩
/-- an entry more -/
theorem gx_R.addE (q : gx_R E h x ca K F s) (hn : (gs_hs s).length < 234) : gx_R E (gm_sf (gm_sf (gm_sf h (x + 5) (gs_hs s).length (.int v)) (x + 6) (gs_hs s).length .null) (x + 4) 3 (.int (nI ((gs_hs s).length + 1)))) x ca K F (s.1, s.2.1, gs_hs s ++ [(v, [])], gs_f1 s) := by
  have A := q.1
  obtain ⟨-, -, -, -, -, -, -, -, -, -, -, -, -, -, -, A5, -, A6, -⟩ := A
  obtain ⟨z1, z2, z3, z4, z5, z6, z7, z8, z9⟩ := q.2.2.2.1
  have g : gx_ag h (gm_sf (gm_sf (gm_sf h (x + 5) (gs_hs s).length (.int v)) (x + 6) (gs_hs s).length .null) (x + 4) 3 (.int (nI ((gs_hs s).length + 1)))) x F := ((gx_ag.sf (gx_ok.no (by omega))).trans (gx_ag.sf (gx_ok.no (by omega)))).trans (gx_ag.sf (gx_ok.no (by omega)))
  have l4 : gm_ln h (x + 4) = 4 := q.len.2
  refine q.hnd g (by simp only [gm_sf_1]) (fun a => by simp only [gm_kd_sf]) (fun a => by simp only [gm_ln_sf]) (fun a j h5 h6 h4 => ?_) ?_ rfl (fun i w hw => ?_) (fun i w hw => ?_)
  · have e4 : gm_fv (gm_sf (gm_sf (gm_sf h (x + 5) (gs_hs s).length (.int v)) (x + 6) (gs_hs s).length .null) (x + 4) 3 (.int (nI ((gs_hs s).length + 1)))) a j = gm_fv (gm_sf (gm_sf h (x + 5) (gs_hs s).length (.int v)) (x + 6) (gs_hs s).length .null) a j := by
      rcases h4 with z | z
      · exact gm_fv_sfa z
      · exact gm_fv_sfj (by omega)
    rw [e4, gm_fv_sfa h6, gm_fv_sfa h5]
  · refine ⟨?_, z2, ?_, z4, ?_, ?_, ?_, ?_, ?_⟩
    · rw [gm_fv_sfa (by omega), gm_fv_sfa (by omega), gm_fv_sfa (by omega)]; exact z1
    · rw [gm_fv_sfa (by omega), gm_fv_sfa (by omega), gm_fv_sfa (by omega)]; exact z3
    · rw [gm_fv_sfj (by decide), gm_fv_sfa (by omega), gm_fv_sfa (by omega)]; exact z5
    · rw [gm_fv_sf (by simp only [gm_ln_sf]; omega)]; simp [gs_hs]
    · simp [gs_hs, gs_f1] at z7 ⊢; omega
    · simp [gs_hs] at hn ⊢; omega
    · rw [gm_fv_sfa (by omega), gm_fv_sfa (by omega), gm_fv_sfa (by omega)]; exact z9
  · have hw : (gs_hs s ++ [(v, [])])[i]? = some w := hw
    rw [gm_fv_sfa (by omega), gm_fv_sfa (by omega), gm_fv_sfa (show x + 6 ≠ x + 4 by omega)]
    by_cases hi : i < (gs_hs s).length
    · rw [List.getElem?_append_left hi] at hw
      obtain ⟨q1, q2⟩ := q.2.2.2.2.2.1 i w hw
      rw [gm_fv_sfj (by omega), gm_fv_sfj (by omega), gm_fv_sfj (by omega)]
      exact ⟨q1, q2.tr g⟩
    · have hi2 : i = (gs_hs s).length := by
        have := (List.getElem?_eq_some_iff.mp hw).1
        simp at this
        omega
      subst hi2
      simp at hw
      subst hw
      rw [gm_fv_sf (by omega), gm_fv_sf (by rw [gm_ln_sf]; omega)]
      exact ⟨rfl, rfl⟩
  · have hw : (gs_hs s ++ [(v, [])])[i]? = some w := hw
    show w.2.length ≤ (gs_hs s ++ [(v, [])]).countP gs_isd
    rw [List.countP_append]
    by_cases hi : i < (gs_hs s).length
    · rw [List.getElem?_append_left hi] at hw
      have := q.2.2.2.2.2.2.2 i w hw
      unfold gs_dn at this
      omega
    · have hi2 : i = (gs_hs s).length := by
        have := (List.getElem?_eq_some_iff.mp hw).1
        simp at this
        omega
      subst hi2
      simp at hw
      subst hw
      exact Nat.zero_le _
/-- an entry's object -/
theorem gx_R.setE (q : gx_R E h x ca K F s) (hn : e < (gs_hs s).length) : gx_R E (gm_sf h (x + 5) e (.int v)) x ca K F (s.1, s.2.1, (gs_hs s).modify e (fun q => (v, q.2)), gs_f1 s) := by
  have A := q.1
  obtain ⟨-, -, -, -, -, -, -, -, -, -, -, -, -, -, -, A5, -, A6, -⟩ := A
  obtain ⟨z1, z2, z3, z4, z5, z6, z7, z8, z9⟩ := q.2.2.2.1
  have g : gx_ag h (gm_sf h (x + 5) e (.int v)) x F := gx_ag.sf (gx_ok.no (by omega))
  refine q.hnd g (by simp only [gm_sf_1]) (fun a => by simp only [gm_kd_sf]) (fun a => by simp only [gm_ln_sf]) (fun a j h5 h6 h4 => gm_fv_sfa h5) ?_ rfl (fun i w hw => ?_) (fun i w hw => ?_)
  · refine ⟨?_, z2, ?_, z4, ?_, ?_, ?_, ?_, ?_⟩
    · rw [gm_fv_sfa (by omega)]; exact z1
    · rw [gm_fv_sfa (by omega)]; exact z3
    · rw [gm_fv_sfa (by omega)]; exact z5
    · rw [gm_fv_sfa (by omega)]; simp [gs_hs] at z6 ⊢; exact z6
    · simp [gs_hs, gs_f1] at z7 ⊢; omega
    · simp [gs_hs] at z8 ⊢; omega
    · rw [gm_fv_sfa (by omega)]; exact z9
  · have hw : ((gs_hs s).modify e (fun q => (v, q.2)))[i]? = some w := hw
    rw [gm_fv_sfa (show x + 6 ≠ x + 5 by omega)]
    rw [List.getElem?_modify] at hw
    cases hq : (gs_hs s)[i]? with
    | none => rw [hq] at hw; cases hw
    | some w0 =>
      rw [hq] at hw
      obtain ⟨q1, q2⟩ := q.2.2.2.2.2.1 i w0 hq
      by_cases hi : e = i
      · subst hi
        simp at hw
        subst hw
        rw [gm_fv_sf (by omega)]
        exact ⟨rfl, q2.tr g⟩
      · simp [hi] at hw
        subst hw
        rw [gm_fv_sfj (by omega)]
        exact ⟨q1, q2.tr g⟩
  · have hw : ((gs_hs s).modify e (fun q => (v, q.2)))[i]? = some w := hw
    have ec : gs_dn (s.1, s.2.1, (gs_hs s).modify e (fun q => (v, q.2)), gs_f1 s) = gs_dn s := (gs_cnt_mod (p := gs_isd) (f := fun q => (v, q.2)) (gs_hs s) e _ (List.getElem?_eq_getElem hn)).2 rfl
    rw [ec]
    rw [List.getElem?_modify] at hw
    cases hq : (gs_hs s)[i]? with
    | none => rw [hq] at hw; cases hw
    | some w0 =>
      rw [hq] at hw
      have := q.2.2.2.2.2.2.2 i w0 hq
      by_cases hi : e = i
      · subst hi
        simp at hw
        subst hw
        exact this
      · simp [hi] at hw
        subst hw
        exact this
/-- an entry's descriptor -/
theorem gx_R.setD {L : List gs_L} (q : gx_R E h x ca K F s) (hn : e < (gs_hs s).length) (hL : gx_ds h x ca K F L (.ref a)) (he : (gs_hs s)[e].2 = []) (hLn : L.length ≤ gs_dn s + 1) : gx_R E (gm_sf h (x + 6) e (.ref a)) x ca K F (s.1, s.2.1, (gs_hs s).modify e (fun q => (q.1, L)), gs_f1 s) := by
  have A := q.1
  obtain ⟨-, -, -, -, -, -, -, -, -, -, -, -, -, -, -, A5, -, A6, -⟩ := A
  obtain ⟨z1, z2, z3, z4, z5, z6, z7, z8, z9⟩ := q.2.2.2.1
  have g : gx_ag h (gm_sf h (x + 6) e (.ref a)) x F := gx_ag.sf (gx_ok.no (by omega))
  refine q.hnd g (by simp only [gm_sf_1]) (fun a => by simp only [gm_kd_sf]) (fun a => by simp only [gm_ln_sf]) (fun a j h5 h6 h4 => gm_fv_sfa h6) ?_ rfl (fun i w hw => ?_) (fun i w hw => ?_)
  · refine ⟨?_, z2, ?_, z4, ?_, ?_, ?_, ?_, ?_⟩
    · rw [gm_fv_sfa (by omega)]; exact z1
    · rw [gm_fv_sfa (by omega)]; exact z3
    · rw [gm_fv_sfa (by omega)]; exact z5
    · rw [gm_fv_sfa (by omega)]; simp [gs_hs] at z6 ⊢; exact z6
    · simp [gs_hs, gs_f1] at z7 ⊢; omega
    · simp [gs_hs] at z8 ⊢; omega
    · rw [gm_fv_sfa (by omega)]; exact z9
  · have hw : ((gs_hs s).modify e (fun q => (q.1, L)))[i]? = some w := hw
    rw [gm_fv_sfa (show x + 5 ≠ x + 6 by omega)]
    rw [List.getElem?_modify] at hw
    cases hq : (gs_hs s)[i]? with
    | none => rw [hq] at hw; cases hw
    | some w0 =>
      rw [hq] at hw
      obtain ⟨q1, q2⟩ := q.2.2.2.2.2.1 i w0 hq
      by_cases hi : e = i
      · subst hi
        simp at hw
        subst hw
        rw [gm_fv_sf (by omega)]
        exact ⟨q1, hL.tr g⟩
      · simp [hi] at hw
        subst hw
        rw [gm_fv_sfj (by omega)]
        exact ⟨q1, q2.tr g⟩
  · have hw : ((gs_hs s).modify e (fun q => (q.1, L)))[i]? = some w := hw
    have hne : L ≠ [] := fun z => by subst z; cases hL
    have ec : gs_dn (s.1, s.2.1, (gs_hs s).modify e (fun q => (q.1, L)), gs_f1 s) = gs_dn s + 1 := (gs_cnt_mod (p := gs_isd) (f := fun q => (q.1, L)) (gs_hs s) e _ (List.getElem?_eq_getElem hn)).1 (by unfold gs_isd; rw [he]; rfl) (by cases L with
      | nil => exact absurd rfl hne
      | cons _ _ => rfl)
    rw [ec]
    rw [List.getElem?_modify] at hw
    cases hq : (gs_hs s)[i]? with
    | none => rw [hq] at hw; cases hw
    | some w0 =>
      rw [hq] at hw
      have := q.2.2.2.2.2.2.2 i w0 hq
      by_cases hi : e = i
      · subst hi
        simp at hw
        subst hw
        exact hLn
      · simp [hi] at hw
        subst hw
        omega
/-- other handles that count: first and end anew, within what is there -/
theorem gx_R.rew {m : Nat} (q : gx_R E h x ca K F s) (hm : m = (gs_hs s).length) : gx_R E (gm_sf (gm_sf h (x + 4) 2 (.int (nI m))) (x + 4) 3 (.int (nI m))) x ca K F (s.1, s.2.1, gs_hs s, m) := by
  obtain ⟨z1, z2, z3, z4, z5, z6, z7, z8, z9⟩ := q.2.2.2.1
  have g : gx_ag h (gm_sf (gm_sf h (x + 4) 2 (.int (nI m))) (x + 4) 3 (.int (nI m))) x F := (gx_ag.sf (gx_ok.no (by omega))).trans (gx_ag.sf (gx_ok.no (by omega)))
  have l4 : gm_ln h (x + 4) = 4 := q.len.2
  refine q.hnd g (by simp only [gm_sf_1]) (fun a => by simp only [gm_kd_sf]) (fun a => by simp only [gm_ln_sf]) (fun a j h5 h6 h4 => ?_) ?_ rfl (fun i w hw => ?_) (fun i w hw => q.2.2.2.2.2.2.2 i w hw)
  · rcases h4 with z | z
    · rw [gm_fv_sfa z, gm_fv_sfa z]
    · rw [gm_fv_sfj (by omega), gm_fv_sfj (by omega)]
  · refine ⟨?_, z2, ?_, z4, ?_, ?_, ?_, z8, ?_⟩
    · rw [gm_fv_sfa (by omega), gm_fv_sfa (by omega)]; exact z1
    · rw [gm_fv_sfa (by omega), gm_fv_sfa (by omega)]; exact z3
    · rw [gm_fv_sfj (by decide), gm_fv_sf (by omega)]; rfl
    · rw [gm_fv_sf (by rw [gm_ln_sf]; omega), hm]; rfl
    · show m ≤ (gs_hs s).length; omega
    · rw [gm_fv_sfa (by omega), gm_fv_sfa (by omega)]; exact z9
  · have hw : (gs_hs s)[i]? = some w := hw
    rw [gm_fv_sfa (by omega), gm_fv_sfa (by omega), gm_fv_sfa (by omega), gm_fv_sfa (by omega)]
    exact ⟨(q.2.2.2.2.2.1 i w hw).1, (q.2.2.2.2.2.1 i w hw).2.tr g⟩
/-- an object more: made at t, behind all others -/
theorem gx_R.addT {o : gs_O} (q : gx_R E h x ca K F s) (how : ∀ c, o.2.1 = some c → (gs_cls K c).isSome = true) (hn : (gs_hp s).length < 234) (ho : gx_th h ca o t) (ht : gx_ok h x F t ∧ gx_ok h x F (t + 1)) (hb : ∀ i u, i < (gs_hp s).length → gm_fv h (x + 3) i = .ref u → u + 1 < t) :
    gx_R E (gm_sf (gm_sf h (x + 3) (gs_hp s).length (.ref t)) x 9 (.int (nI ((gs_hp s).length + 1)))) x ca K F (s.1, gs_hp s ++ [o], s.2.2) := by
  have l0 : gm_ln h x = 13 := q.len.1
  obtain ⟨q1, q2, q3, q4, ⟨ta, q5⟩, q6, q7⟩ := q
  have A := q1
  obtain ⟨-, -, -, -, -, -, -, -, -, -, A3, -, -, -, -, -, -, -, -⟩ := A
  obtain ⟨z1, z2, z3, z4, z5, z6, z7, z8, z9⟩ := q4
  have g : gx_ag h (gm_sf (gm_sf h (x + 3) (gs_hp s).length (.ref t)) x 9 (.int (nI ((gs_hp s).length + 1)))) x F := (gx_ag.sf (gx_ok.no (by omega))).trans (gx_ag.sf (gx_ok.no (by omega)))
  have hf : ∀ a j, a ≠ x + 3 → (a ≠ x ∨ j ≠ 9) → gm_fv (gm_sf (gm_sf h (x + 3) (gs_hp s).length (.ref t)) x 9 (.int (nI ((gs_hp s).length + 1)))) a j = gm_fv h a j := fun a j h3 h0 => by
    rcases h0 with z | z
    · rw [gm_fv_sfa z, gm_fv_sfa h3]
    · rw [gm_fv_sfj z, gm_fv_sfa h3]
  refine ⟨?_, ?_, q3.tr g (fun c _ => hf _ _ (by omega) (by omega)), ⟨?_, z2, ?_, ?_, ?_, ?_, z7, z8, ?_⟩, ⟨fun i => if i < (gs_hp s).length then ta i else t, fun i j hij hj => ?_, fun i w hw => ?_⟩, fun i w hw => ?_, fun i w c hw hc => ?_, q7.2⟩
  · unfold gx_A at q1 ⊢
    simp only [gm_kd_sf, gm_ln_sf, gm_sf_1, hf x 4 (by omega) (Or.inr (by decide)), hf x 5 (by omega) (Or.inr (by decide)), hf x 8 (by omega) (Or.inr (by decide)), hf x 10 (by omega) (Or.inr (by decide)), hf (x + 4) _ (by omega) (Or.inl (by omega))]
    exact q1
  · unfold gx_B at q2 ⊢
    simp only [hf x 0 (by omega) (Or.inr (by decide)), hf x 1 (by omega) (Or.inr (by decide)), hf x 2 (by omega) (Or.inr (by decide)), hf x 3 (by omega) (Or.inr (by decide)), hf x 6 (by omega) (Or.inr (by decide)), hf (x + 2) _ (by omega) (Or.inl (by omega))]
    exact q2
  · rw [hf _ _ (by omega) (Or.inr (by decide))]; exact z1
  · rw [gm_fv_sf (by rw [gm_ln_sf]; omega)]; simp [gs_hp]
  · simp [gs_hp] at hn ⊢; omega
  · rw [hf _ _ (by omega) (Or.inl (by omega))]; exact z5
  · rw [hf _ _ (by omega) (Or.inl (by omega))]; exact z6
  · rw [hf _ _ (by omega) (Or.inr (by decide))]; exact z9
  · have hj : j < (gs_hp s ++ [o]).length := hj
    simp at hj
    have hi : i < (gs_hp s).length := by omega
    simp only [hi, if_true]
    by_cases hj2 : j < (gs_hp s).length
    · simp only [hj2, if_true]; exact q5.1 i j hij hj2
    · simp only [hj2, if_false]
      exact hb i _ hi (q5.2 i _ (List.getElem?_eq_getElem hi)).1
  · have hw : (gs_hp s ++ [o])[i]? = some w := hw
    by_cases hi : i < (gs_hp s).length
    · rw [List.getElem?_append_left hi] at hw
      obtain ⟨b1, b2, b3⟩ := q5.2 i w hw
      simp only [hi, if_true]
      refine ⟨?_, ⟨b2.1.tr g.1, b2.2.tr g.1⟩, b3.tr (g.2 _ b2.1) (g.2 _ b2.2)⟩
      rw [gm_fv_sfa (by omega), gm_fv_sfj (by omega)]; exact b1
    · have hi2 : i = (gs_hp s).length := by
        have := (List.getElem?_eq_some_iff.mp hw).1
        simp at this
        omega
      subst hi2
      simp at hw
      subst hw
      simp only [Nat.lt_irrefl, if_false]
      refine ⟨?_, ⟨ht.1.tr g.1, ht.2.tr g.1⟩, ho.tr (g.2 _ ht.1) (g.2 _ ht.2)⟩
      rw [gm_fv_sfa (by omega), gm_fv_sf (by omega)]
  · rw [hf _ _ (by omega) (Or.inl (by omega)), hf _ _ (by omega) (Or.inl (by omega))]
    exact ⟨(q6 i w hw).1, (q6 i w hw).2.tr g⟩
  · have hw : (gs_hp s ++ [o])[i]? = some w := hw
    by_cases hi : i < (gs_hp s).length
    · rw [List.getElem?_append_left hi] at hw
      exact q7.1 i w c hw hc
    · have hi2 : i = (gs_hp s).length := by
        have := (List.getElem?_eq_some_iff.mp hw).1
        simp at this
        omega
      subst hi2
      simp at hw
      subst hw
      exact how c hc
/-- objects are of other kinds than descriptors and classes -/
theorem gx_ds.md (hg : h'.1 = h.1 ∧ ∀ a, a ≠ t → a ≠ t + 1 → gm_rd h' a = gm_rd h a) (k1 : gm_kd h t = 4) (k2 : gm_kd h (t + 1) = 101) : ∀ {L : List gs_L} {v : Value}, gx_ds h x ca K F L v → gx_ds h' x ca K F L v
  | [], _, q => q
  | l :: L, v, q => by
    obtain ⟨a, u, w, rfl, o1, o2, o3, q1, q2, q3, q4, q5, q6, q7, q8, q9, q10, q11, q12, q13, q14, q15, q16, q17, q18, q19⟩ := q
    have ne : ∀ {b c : Nat}, gm_kd h b = c → c ≠ 4 → c ≠ 101 → gm_rd h' b = gm_rd h b := fun {b c} e n1 n2 => hg.2 b (fun z => by subst z; omega) (fun z => by subst z; omega)
    have ea := ne q1 (by decide) (by decide)
    have eu := ne q11 (by decide) (by decide)
    have ew := ne q13 (by decide) (by decide)
    refine ⟨a, u, w, rfl, o1.tr (by omega), o2.tr (by omega), o3.tr (by omega), ?_⟩
    simp only [gv_kd ea, gv_kd eu, gv_kd ew, gv_ln eu, gv_ln ew, gv_fv ea, gv_fv eu, gv_fv ew]
    exact ⟨q1, q2, q3, q4, q5, q6, q7, q8, q9, q10, q11, q12, q13, q14, q15, q16, q17, q18, gx_ds.md hg k1 k2 q19⟩
theorem gx_ds.mdG {G : Nat → Prop} (hg : gx_ag h h' x (fun b => b = t ∨ b = t + 1)) (k1 : gm_kd h t = 4) (k2 : gm_kd h (t + 1) = 101) : ∀ {L : List gs_L} {v : Value}, gx_ds h x ca K F L v → gx_ds h' x ca K F L v
  | [], _, q => q
  | l :: L, v, q => by
    obtain ⟨a, u, w, rfl, o1, o2, o3, q1, q2, q3, q4, q5, q6, q7, q8, q9, q10, q11, q12, q13, q14, q15, q16, q17, q18, q19⟩ := q
    have ne : ∀ {b c : Nat}, gx_ok h x F b → gm_kd h b = c → c ≠ 4 → c ≠ 101 → gm_rd h' b = gm_rd h b := fun {b c} o e n1 n2 => hg.2 b ⟨o.1, o.2.1, fun z => by rcases z with rfl | rfl <;> omega⟩
    have ea := ne o1 q1 (by decide) (by decide)
    have eu := ne o2 q11 (by decide) (by decide)
    have ew := ne o3 q13 (by decide) (by decide)
    have hle := hg.1
    refine ⟨a, u, w, rfl, o1.tr hle, o2.tr hle, o3.tr hle, ?_⟩
    simp only [gv_kd ea, gv_kd eu, gv_kd ew, gv_ln eu, gv_ln ew, gv_fv ea, gv_fv eu, gv_fv ew]
    exact ⟨q1, q2, q3, q4, q5, q6, q7, q8, q9, q10, q11, q12, q13, q14, q15, q16, q17, q18, gx_ds.mdG (G := G) hg k1 k2 q19⟩
theorem gx_G.md (hg : h'.1 = h.1 ∧ ∀ a, a ≠ t → a ≠ t + 1 → gm_rd h' a = gm_rd h a) (k1 : gm_kd h t = 4) (k2 : gm_kd h (t + 1) = 101) (q : gx_G E h x F) : gx_G E h' x F := by
  have ne : ∀ {b c : Nat}, gm_kd h b = c → c ≠ 4 → c ≠ 101 → gm_rd h' b = gm_rd h b := fun {b c} e n1 n2 => hg.2 b (fun z => by subst z; omega) (fun z => by subst z; omega)
  obtain ⟨⟨z, e0, o, j1, j2, j3⟩, e5, q⟩ := q
  refine ⟨⟨z, e0, o.tr (by omega), ?_⟩, e5, fun i hi => ?_⟩
  · have ea := ne j1 (by decide) (by decide)
    simp only [gv_kd ea, gv_ln ea, gv_fv ea]
    exact ⟨j1, j2, j3⟩
  · obtain ⟨a, v, e, o1, o2, i1, i2, i3, i4, i5, i6⟩ := q i hi
    have ea := ne i1 (by decide) (by decide)
    have ev := ne i5 (by decide) (by decide)
    refine ⟨a, v, e, o1.tr (by omega), o2.tr (by omega), ?_⟩
    simp only [gv_kd ea, gv_ln ea, gv_fv ea, gv_kd ev, gv_ln ev, gv_fv ev]
    exact ⟨i1, i2, i3, i4, i5, i6⟩
theorem gx_C.md (hg : h'.1 = h.1 ∧ ∀ a, a ≠ t → a ≠ t + 1 → gm_rd h' a = gm_rd h a) (k1 : gm_kd h t = 4) (k2 : gm_kd h (t + 1) = 101) (q : gx_C E h x ca K F) (e : ∀ c, c < 6 → gm_fv h' (x + 1) c = gm_fv h (x + 1) c) : gx_C E h' x ca K F := by
  refine ⟨⟨gx_G.md hg k1 k2 q.1.1, q.1.2⟩, fun c hc => ⟨fun z => ?_, fun C z => ?_⟩⟩
  · rw [e c hc]; exact (q.2 c hc).1 z
  · obtain ⟨a1, ⟨⟨o1, o2, o3⟩, p1, p2, p3, p4, p5, p6, p7, p8, p9, p10, p11, p12, p13, p14, p15, p16⟩, a3⟩ := (q.2 c hc).2 C z
    have ne : ∀ {b c : Nat}, gm_kd h b = c → c ≠ 4 → c ≠ 101 → gm_rd h' b = gm_rd h b := fun {b c} e n1 n2 => hg.2 b (fun z => by subst z; omega) (fun z => by subst z; omega)
    have ea := ne p1 (by decide) (by decide)
    have eu := ne p12 (by decide) (by decide)
    have ew := ne p14 (by decide) (by decide)
    refine ⟨by rw [e c hc]; exact a1, ⟨⟨o1.tr (by omega), o2.tr (by omega), o3.tr (by omega)⟩, ?_⟩, a3⟩
    simp only [gv_kd ea, gv_kd eu, gv_kd ew, gv_ln eu, gv_ln ew, gv_fv ea, gv_fv eu, gv_fv ew]
    exact ⟨p1, p2, p3, p4, p5, p6, p7, p8, p9, p10, p11, p12, p13, p14, p15, p16⟩
/-- an object changed in place: h' differs at t and t + 1 alone -/
theorem gx_R.modT {f : gs_O → gs_O} {i0 : Nat} {o0 : gs_O} (q : gx_R E h x ca K F s) (ht : gm_fv h (x + 3) i0 = .ref t) (hi : (gs_hp s)[i0]? = some o0) (hg : h'.1 = h.1 ∧ ∀ a, a ≠ t → a ≠ t + 1 → gm_rd h' a = gm_rd h a) (ho : gx_th h ca o0 t → gx_th h' ca (f o0) t) (hfo : (f o0).2.1 = o0.2.1) :
    gx_R E h' x ca K F (s.1, (gs_hp s).modify i0 f, s.2.2) := by
  obtain ⟨q1, q2, q3, q4, ⟨ta, q5⟩, q6, q7⟩ := q
  obtain ⟨b1, b2, b3⟩ := q5.2 i0 o0 hi
  rw [ht] at b1
  have et : t = ta i0 := by injection b1
  subst et
  have hx := b2.1.1
  have hx2 := b2.2.1
  have hr : ∀ i, i ≤ 6 → gm_rd h' (x + i) = gm_rd h (x + i) := fun i hi => hg.2 _ (by omega) (by omega)
  have hr0 := hr 0 (by decide)
  rw [Nat.add_zero] at hr0
  refine ⟨?_, ?_, gx_C.md hg b3.1 b3.2.2.2.2.2.2.1 q3 (fun c _ => gv_fv (hr 1 (by decide))), ?_, ⟨ta, fun i j hij hj => q5.1 i j hij (by simpa [gs_hp] using hj), fun i w hw => ?_⟩, fun i w hw => ?_, fun i w c hw hc => ?_, q7.2⟩
  · unfold gx_A at q1 ⊢
    simp only [hg.1, gv_kd hr0, gv_fv hr0, gv_kd (hr 1 (by decide)), gv_ln (hr 1 (by decide)), gv_kd (hr 2 (by decide)), gv_ln (hr 2 (by decide)), gv_kd (hr 3 (by decide)), gv_ln (hr 3 (by decide)), gv_kd (hr 4 (by decide)), gv_fv (hr 4 (by decide)), gv_kd (hr 5 (by decide)), gv_ln (hr 5 (by decide)), gv_kd (hr 6 (by decide)), gv_ln (hr 6 (by decide))]
    exact q1
  · unfold gx_B at q2 ⊢
    simp only [gv_fv hr0, gv_fv (hr 2 (by decide))]
    exact q2
  · unfold gx_M at q4 ⊢
    simp only [gv_fv hr0, gv_fv (hr 4 (by decide))]
    simpa [gs_hp, gs_pl, gs_hs, gs_f1] using q4
  · have hw : ((gs_hp s).modify i0 f)[i]? = some w := hw
    rw [List.getElem?_modify] at hw
    cases hq : (gs_hp s)[i]? with
    | none => rw [hq] at hw; cases hw
    | some w0 =>
      rw [hq] at hw
      obtain ⟨c1, c2, c3⟩ := q5.2 i w0 hq
      have ok : ∀ {a}, gx_ok h x F a → gx_ok h' x F a := fun o => o.tr (by rw [hg.1]; exact Nat.le_refl _)
      by_cases hii : i0 = i
      · subst hii
        rw [hi] at hq
        cases hq
        simp at hw
        subst hw
        exact ⟨by rw [gv_fv (hr 3 (by decide))]; exact c1, ⟨ok c2.1, ok c2.2⟩, ho c3⟩
      · simp [hii] at hw
        subst hw
        have l1 := (List.getElem?_eq_some_iff.mp hq).1
        have l2 := (List.getElem?_eq_some_iff.mp hi).1
        have nn : ta i ≠ ta i0 ∧ ta i ≠ ta i0 + 1 ∧ ta i + 1 ≠ ta i0 ∧ ta i + 1 ≠ ta i0 + 1 := by
          rcases Nat.lt_or_ge i i0 with z | z
          · have := q5.1 i i0 z l2; omega
          · have := q5.1 i0 i (by omega) l1; omega
        exact ⟨by rw [gv_fv (hr 3 (by decide))]; exact c1, ⟨ok c2.1, ok c2.2⟩, c3.tr (hg.2 _ nn.1 nn.2.1) (hg.2 _ nn.2.2.1 nn.2.2.2)⟩
  · rw [gv_fv (hr 5 (by decide)), gv_fv (hr 6 (by decide))]
    exact ⟨(q6 i w hw).1, gx_ds.md hg b3.1 b3.2.2.2.2.2.2.1 (q6 i w hw).2⟩
  · have hw : ((gs_hp s).modify i0 f)[i]? = some w := hw
    rw [List.getElem?_modify] at hw
    cases hq : (gs_hp s)[i]? with
    | none => rw [hq] at hw; cases hw
    | some w0 =>
      rw [hq] at hw
      by_cases hii : i0 = i
      · subst hii
        rw [hi] at hq
        cases hq
        simp at hw
        subst hw
        exact q7.1 _ _ c hi (by rw [← hfo]; exact hc)
      · simp [hii] at hw
        subst hw
        exact q7.1 _ _ c hq hc
end REP3
