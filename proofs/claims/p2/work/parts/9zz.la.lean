/-! THE LAW, 1: what a call of one side leaves of the other. -/
section LA
variable {E : Nat → Value} {d x m b : Nat} {h h' : gm_H} {ca : Nat → Nat} {K : gs_K} {F : Nat → Prop} {s : gs_S} {lf : Int32} {t t' : gr_t}
theorem gm_Ca.keep {o mi : Nat} {as : List Value} {Q : gm_R → gm_H → Prop} {M : gm_M} (hM : gm_mt[mi]? = some M) (h7 : M.2.2.2.2.2.1 ≠ 7) (ho : gm_cno M.2.2.2.2.2.1 = o) (ho3 : o < 3) (hw : gm_Wf h) (c : gm_Ca E d mi as h Q) : gm_Ca E d mi as h (fun r h' => Q r h' ∧ gm_Kp o h h') := by
  obtain ⟨r, h', ⟨n, g⟩, q⟩ := c
  exact ⟨r, h', ⟨n, g⟩, q, gm_run_Kp ho3 n d mi 0 _ _ h r h' M hM h7 (Or.inl ho) hw g⟩
theorem gm_Kp.kd {o a : Nat} (k : gm_Kp o h h') (h9 : gm_kd h a ≠ 999) (ho : gm_ko (gm_kd h a) ≠ o) : gm_rd h' a = gm_rd h a := by
  unfold gm_kd at h9 ho
  cases e : gm_rd h a with
  | none => rw [e] at h9; exact absurd rfl h9
  | some c =>
    obtain ⟨q, vs⟩ := c
    rw [e] at h9 ho
    dsimp only at h9 ho
    by_cases z : q < 6 ∧ vs.length ≠ gm_N q
    · rw [if_pos z] at h9; exact absurd rfl h9
    · rw [if_neg z] at ho
      exact (k.2.2 a _ e).2 ho
theorem gm_Kp.at {o a k : Nat} (p : gm_Kp o h h') (hk : gm_kd h a = k) (h9 : k ≠ 999) (ho : gm_ko k ≠ o) : gm_rd h' a = gm_rd h a := p.kd (by rw [hk]; exact h9) (by rw [hk]; exact ho)
theorem gx_ds.kp (k : gm_Kp 2 h h') : ∀ {L : List gs_L} {v : Value}, gx_ds h x ca K F L v → gx_ds h' x ca K F L v
  | [], _, q => q
  | l :: L, v, q => by
    obtain ⟨a, u, w, rfl, o1, o2, o3, q1, q2, q3, q4, q5, q6, q7, q8, q9, q10, q11, q12, q13, q14, q15, q16, q17, q18, q19⟩ := q
    have ea := k.at q1 (by decide) (by decide)
    have eu := k.at q11 (by decide) (by decide)
    have ew := k.at q13 (by decide) (by decide)
    refine ⟨a, u, w, rfl, o1.tr k.1, o2.tr k.1, o3.tr k.1, ?_⟩
    simp only [gv_kd ea, gv_kd eu, gv_kd ew, gv_ln eu, gv_ln ew, gv_fv ea, gv_fv eu, gv_fv ew]
    exact ⟨q1, q2, q3, q4, q5, q6, q7, q8, q9, q10, q11, q12, q13, q14, q15, q16, q17, q18, gx_ds.kp k q19⟩
theorem gx_G.kp (k : gm_Kp 2 h h') (q : gx_G E h x F) : gx_G E h' x F := by
  obtain ⟨⟨z, e0, o, j1, j2, j3⟩, e5, q⟩ := q
  refine ⟨⟨z, e0, o.tr k.1, ?_⟩, e5, fun i hi => ?_⟩
  · have ea := k.at j1 (by decide) (by decide)
    simp only [gv_kd ea, gv_ln ea, gv_fv ea]
    exact ⟨j1, j2, j3⟩
  · obtain ⟨a, v, e, o1, o2, i1, i2, i3, i4, i5, i6⟩ := q i hi
    have ea := k.at i1 (by decide) (by decide)
    have ev := k.at i5 (by decide) (by decide)
    refine ⟨a, v, e, o1.tr k.1, o2.tr k.1, ?_⟩
    simp only [gv_kd ea, gv_ln ea, gv_fv ea, gv_kd ev, gv_ln ev, gv_fv ev]
    exact ⟨i1, i2, i3, i4, i5, i6⟩
theorem gx_R.kp (k : gm_Kp 2 h h') (q : gx_R E h x ca K F s) : gx_R E h' x ca K F s := by
  obtain ⟨q1, q2, q3, q4, ⟨ta, q5⟩, q6, q7⟩ := q
  obtain ⟨z1, z2, z3, z4, z5, z6, z7, z8, z9, z10, z11, z12, z13, z14, z15, z16, z17, z18, z19⟩ := id q1
  have r0 := k.at z1 (by decide) (by decide)
  have r1 := k.at z6 (by decide) (by decide)
  have r2 := k.at z8 (by decide) (by decide)
  have r3 := k.at z10 (by decide) (by decide)
  have r4 := k.at z12 (by decide) (by decide)
  have r5 := k.at z15 (by decide) (by decide)
  have r6 := k.at z17 (by decide) (by decide)
  have hle := k.1
  refine ⟨?_, ?_, ⟨⟨q3.1.1.kp k, q3.1.2⟩, fun c hc => ⟨fun z => ?_, fun C z => ?_⟩⟩, ?_, ⟨ta, q5.1, fun i o z => ?_⟩, fun i e z => ?_, q7⟩
  · unfold gx_A
    simp only [gv_kd r0, gv_fv r0, gv_kd r1, gv_ln r1, gv_kd r2, gv_ln r2, gv_kd r3, gv_ln r3, gv_kd r4, gv_fv r4, gv_kd r5, gv_ln r5, gv_kd r6, gv_ln r6]
    exact ⟨z1, z2, z3, z4, z5, z6, z7, z8, z9, z10, z11, z12, z13, z14, z15, z16, z17, z18, by omega⟩
  · unfold gx_B at q2 ⊢
    simp only [gv_fv r0, gv_fv r2]
    exact q2
  · rw [gv_fv r1]; exact (q3.2 c hc).1 z
  · obtain ⟨a1, ⟨⟨o1, o2, o3⟩, p1, p2, p3, p4, p5, p6, p7, p8, p9, p10, p11, p12, p13, p14, p15, p16⟩, a3⟩ := (q3.2 c hc).2 C z
    have ea := k.at p1 (by decide) (by decide)
    have eu := k.at p12 (by decide) (by decide)
    have ew := k.at p14 (by decide) (by decide)
    refine ⟨by rw [gv_fv r1]; exact a1, ⟨⟨o1.tr k.1, o2.tr k.1, o3.tr k.1⟩, ?_⟩, a3⟩
    simp only [gv_kd ea, gv_kd eu, gv_kd ew, gv_ln eu, gv_ln ew, gv_fv ea, gv_fv eu, gv_fv ew]
    exact ⟨p1, p2, p3, p4, p5, p6, p7, p8, p9, p10, p11, p12, p13, p14, p15, p16⟩
  · unfold gx_M at q4 ⊢
    simp only [gv_fv r0, gv_fv r4]
    exact q4
  · obtain ⟨b1, b2, b3⟩ := q5.2 i o z
    exact ⟨by rw [gv_fv r3]; exact b1, ⟨b2.1.tr k.1, b2.2.tr k.1⟩, b3.tr (k.at b3.1 (by decide) (by decide)) (k.at b3.2.2.2.2.2.2.1 (by decide) (by decide))⟩
  · rw [gv_fv r5, gv_fv r6]
    exact ⟨(q6 i e z).1, (q6 i e z).2.kp k⟩
theorem gx_X.kp (k : gm_Kp 2 h h') (q : gx_X E h x ca K s lf) : gx_X E h' x ca K s lf := ⟨q.1.kp k, by rw [gv_fv (k.at q.1.1.1 (by decide) (by decide))]; exact q.2⟩
/-- the reference's cells -/
def gr_at (h : gm_H) (m : Nat) (t : gr_t) : Prop := gr_H h m t = h
theorem gr_at.self : gr_at (gr_H h m t) m t := by
  unfold gr_at gr_H
  refine Prod.ext rfl (Prod.ext rfl (funext fun a => ?_))
  dsimp only
  split <;> rfl
theorem gr_at.rd {a : Nat} (q : gr_at h m t) (ha : m ≤ a ∧ a ≤ m + 34) : gm_rd h a = some (gr_k (a - m), (List.range (gr_l (a - m))).map (gr_v m t (a - m))) := by
  rw [← q]
  show (if _ then _ else _) = _
  rw [if_pos ha]
theorem gr_k_ko (o : Nat) (ho : o ≤ 34) : gm_ko (gr_k o) = 2 := by
  have : ∀ o, o < 35 → gm_ko (gr_k o) = 2 := by decide
  exact this o (by omega)
theorem gr_at.kp (q : gr_at h m t) (k : gm_Kp 1 h h') : gr_at h' m t := by
  unfold gr_at gr_H
  refine Prod.ext rfl (Prod.ext rfl (funext fun a => ?_))
  dsimp only
  by_cases ha : m ≤ a ∧ a ≤ m + 34
  · rw [if_pos ha]
    have e := (k.2.2 a _ (q.rd ha)).2 (by rw [gr_k_ko _ (by omega)]; decide)
    exact e.symm
  · rw [if_neg ha]
/-- the script -/
theorem gm_Kp.scr {o : Nat} {xs : List Int32} (k : gm_Kp o h h') (ho : o < 3) (q : gm_rd h b = some (300, xs.map .int)) : gm_rd h' b = some (300, xs.map .int) := (k.2.2 b _ q).2 (by
  show gm_ko 300 ≠ o
  have : gm_ko 300 = 3 := by decide
  omega)
end LA
