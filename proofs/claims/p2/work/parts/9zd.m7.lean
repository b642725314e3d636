/-! THE REFERENCE, 6: a new one (by program: genm2.py). -/
theorem gr_p_le : ∀ i, i < 48 → gr_p i ≤ 34 := by decide
def gr_d0 (f : Nat) : Value := if gr_p f = 0 then .int 0 else .null
/-- so many arrays made -/
def gr_I (h0 h : gm_H) (m j : Nat) : Prop := h.1 = m + 1 + j ∧ gm_kd h m = 5 ∧ (∀ o, 1 ≤ o → o ≤ j → gm_rd h (m + o) = some (gr_k o, List.replicate (gr_l o) (if gr_lg o = true then .long 0 else .int 0))) ∧ (∀ f, f < 48 → gm_fv h m f = if gr_p f ≠ 0 ∧ gr_p f ≤ j then .ref (m + gr_p f) else gr_d0 f) ∧ ∀ b, b < m → gm_rd h b = gm_rd h0 b
section M7
variable {E : Nat → Value} {d m : Nat} {h h0 : gm_H} {t : gr_t}
theorem gr_I.al {j f k n : Nat} {v : Value} (I : gr_I h0 h m j) (hf : f < 48) (h1 : gr_p f = j + 1) (h2 : ∀ f', f' < 48 → gr_p f' = j + 1 → f' = f) (h3 : gr_k (j + 1) = k) (h4 : gr_l (j + 1) = n) (h5 : v = if gr_lg (j + 1) = true then .long 0 else .int 0) : gr_I h0 (gx_al h m f (k, List.replicate n v) n) m (j + 1) := by
  obtain ⟨c, k5, ar, fl, lo⟩ := I
  have lm : gm_ln h m = 48 := gm_kd_ln k5 (by decide)
  refine ⟨by rw [al_1.1, c]; omega, by rw [al_kd (by omega)]; exact k5, fun o o1 o2 => ?_, fun f' hf' => ?_, fun b hb => by rw [al_rd (by omega) (by omega)]; exact lo b hb⟩
  · by_cases e : o = j + 1
    · subst e
      have e1 : m + (j + 1) = h.1 := by omega
      rw [e1]
      unfold gx_al
      rw [gm_rd_sfn (by omega), gm_rd_nw, if_pos rfl, h3, h4, h5]
    · rw [al_rd (by omega) (by omega)]
      exact ar o o1 (by omega)
  · by_cases e : f' = f
    · subst e
      have e2 : h.1 = m + (j + 1) := by omega
      rw [al_fk (by omega) (by omega), e2, h1, if_pos ⟨by omega, Nat.le_refl _⟩]
    · rw [al_fj (Or.inr e) (by omega), fl f' hf']
      have hne : gr_p f' ≠ j + 1 := fun z => e (h2 f' hf' z)
      by_cases z : gr_p f' ≠ 0 ∧ gr_p f' ≤ j
      · rw [if_pos z, if_pos ⟨z.1, by omega⟩]
      · rw [if_neg z, if_neg (fun y => z ⟨y.1, by omega⟩)]
/-- all made: the reference's own form -/
theorem gr_I.done (I : gr_I h0 h m 34) : h = gr_H h m (fun _ _ => 0, fun _ _ => 0) := by
  obtain ⟨c, k5, ar, fl, lo⟩ := I
  obtain ⟨vs, v1, v2, v3, v4⟩ := gm_kd_rd k5 (by decide)
  have vl : vs.length = 48 := v3 (by decide)
  unfold gr_H
  refine Prod.ext rfl (Prod.ext rfl ?_)
  funext b
  dsimp only
  by_cases hb : m ≤ b ∧ b ≤ m + 34
  · rw [if_pos hb]
    by_cases e : b = m
    · subst e
      show gm_rd h b = _
      rw [v1, Nat.sub_self]
      show some (5, vs) = some (5, _)
      congr 2
      apply List.ext_getElem?
      intro i
      by_cases hi : i < 48
      · have := (v4 i).symm.trans (fl i hi)
        rw [List.getD_eq_getElem?_getD, List.getElem?_eq_getElem (by omega)] at this
        rw [List.getElem?_eq_getElem (by omega), List.getElem?_map, List.getElem?_range (show i < gr_l 0 from hi)]
        have this : vs[i] = _ := this
        rw [this]
        show some _ = some (gr_v b (fun _ _ => 0, fun _ _ => 0) 0 i)
        unfold gr_v gr_d0
        rw [if_pos rfl]
        by_cases z : gr_p i = 0
        · rw [if_neg (fun y => y.1 z), if_pos z, if_pos z]
        · have hle : gr_p i ≤ 34 := gr_p_le i hi
          rw [if_pos ⟨z, hle⟩, if_neg z]
      · rw [List.getElem?_eq_none (by omega), List.getElem?_eq_none (by simp; exact Nat.le_of_not_lt hi)]
    · obtain ⟨o, rfl⟩ : ∃ o, b = m + o := ⟨b - m, by omega⟩
      show gm_rd h (m + o) = _
      rw [ar o (by omega) (by omega), Nat.add_sub_cancel_left]
      congr 2
      apply List.ext_getElem?
      intro i
      rw [List.getElem?_replicate, List.getElem?_map]
      by_cases hi : i < gr_l o
      · rw [if_pos hi, List.getElem?_range hi]
        show some _ = some (gr_v m (fun _ _ => 0, fun _ _ => 0) o i)
        unfold gr_v
        rw [if_neg (show ¬ o = 0 by omega)]
      · rw [if_neg hi, List.getElem?_eq_none (by simp; omega)]
        rfl
  · rw [if_neg hb]
def gr_x0 (h : gm_H) : gm_H := gm_nw h (5, [.int 0, .int 0, .int 0, .int 0, .null, .int 0, .int 0, .int 0, .int 0, .int 0, .null, .null, .null, .null, .null, .null, .null, .null, .null, .null, .null, .null, .null, .int 0, .null, .int 0, .null, .null, .int 0, .null, .null, .null, .null, .null, .null, .null, .null, .null, .null, .int 0, .null, .null, .null, .null, .null, .null, .null, .int 0]) 48
/-- the first state of the reference, its limits left out -/
theorem m_new0 {p q r u : Int32} {Q : gm_R → gm_H → Prop} (K : ∀ hF : gm_H, hF.1 = h.1 + 35 → hF.2.1 = h.2.1 + 12392 → (∀ b, b < h.1 → gm_rd hF b = gm_rd h b) → gm_W E d 2 295 [.ref h.1, .int p, .int q, .int r, .int u, gm_u] [] (gr_H hF h.1 (fun _ _ => 0, fun _ _ => 0)) Q) : gm_Ca E d 2 [.ref h.1, .int p, .int q, .int r, .int u] (gr_x0 h) Q := by
  obtain ⟨m, hm⟩ : ∃ m, m = h.1 := ⟨_, rfl⟩
  rw [← hm] at K ⊢
  obtain ⟨g0, e0⟩ : ∃ g0, g0 = gr_x0 h := ⟨_, rfl⟩
  rw [← e0]
  have I0 : gr_I h g0 m 0 := by
    refine ⟨by rw [e0, hm]; rfl, by rw [e0, hm]; unfold gr_x0; rw [gm_kd_nw1]; rfl, fun o o1 o2 => absurd o2 (by omega), fun f hf => ?_, fun b hb => by rw [e0]; exact gm_rd_nwn (by omega)⟩
    rw [e0, hm]
    unfold gr_x0
    rw [gm_fv_nw1, if_neg (by omega)]
    revert hf
    revert f
    decide
  have s0 : g0.2.1 = h.2.1 + 48 := by rw [e0]; rfl
  clear e0
  show gm_W E d 2 0 [.ref m, .int p, .int q, .int r, .int u, gm_u] [] g0 Q
  rw [r2_0, r2_1 (by simp)]
  rw [r2_4, r2_5, r2_8, r2_10 (by rw [gm_kd_nw (by have := I0.1; omega)]; exact I0.2.1)]
  have I1 := I0.al (f := 4) (k := 200) (n := 720) (v := .int 0) (by decide) (by decide) (by decide) (by decide) (by decide) rfl
  have s1 : (gx_al g0 m 4 (200, List.replicate 720 (.int 0)) 720).2.1 = h.2.1 + 768 := by rw [al_1.2, s0]
  show gm_W E d 2 13 [.ref m, .int p, .int q, .int r, .int u, gm_u] [] (gx_al g0 m 4 (200, List.replicate 720 (.int 0)) 720) Q
  generalize gx_al g0 m 4 (200, List.replicate 720 (.int 0)) 720 = g1 at I1 s1 ⊢
  rw [r2_13, r2_14, r2_16, r2_18 (by rw [gm_kd_nw (by have := I1.1; omega)]; exact I1.2.1)]
  have I2 := I1.al (f := 10) (k := 200) (n := 6) (v := .int 0) (by decide) (by decide) (by decide) (by decide) (by decide) rfl
  have s2 : (gx_al g1 m 10 (200, List.replicate 6 (.int 0)) 6).2.1 = h.2.1 + 774 := by rw [al_1.2, s1]
  show gm_W E d 2 21 [.ref m, .int p, .int q, .int r, .int u, gm_u] [] (gx_al g1 m 10 (200, List.replicate 6 (.int 0)) 6) Q
  generalize gx_al g1 m 10 (200, List.replicate 6 (.int 0)) 6 = g2 at I2 s2 ⊢
  rw [r2_21, r2_22, r2_24, r2_26 (by rw [gm_kd_nw (by have := I2.1; omega)]; exact I2.2.1)]
  have I3 := I2.al (f := 11) (k := 201) (n := 6) (v := .long 0) (by decide) (by decide) (by decide) (by decide) (by decide) rfl
  have s3 : (gx_al g2 m 11 (201, List.replicate 6 (.long 0)) 6).2.1 = h.2.1 + 780 := by rw [al_1.2, s2]
  show gm_W E d 2 29 [.ref m, .int p, .int q, .int r, .int u, gm_u] [] (gx_al g2 m 11 (201, List.replicate 6 (.long 0)) 6) Q
  generalize gx_al g2 m 11 (201, List.replicate 6 (.long 0)) 6 = g3 at I3 s3 ⊢
  rw [r2_29, r2_30, r2_32, r2_34 (by rw [gm_kd_nw (by have := I3.1; omega)]; exact I3.2.1)]
  have I4 := I3.al (f := 12) (k := 200) (n := 6) (v := .int 0) (by decide) (by decide) (by decide) (by decide) (by decide) rfl
  have s4 : (gx_al g3 m 12 (200, List.replicate 6 (.int 0)) 6).2.1 = h.2.1 + 786 := by rw [al_1.2, s3]
  show gm_W E d 2 37 [.ref m, .int p, .int q, .int r, .int u, gm_u] [] (gx_al g3 m 12 (200, List.replicate 6 (.int 0)) 6) Q
  generalize gx_al g3 m 12 (200, List.replicate 6 (.int 0)) 6 = g4 at I4 s4 ⊢
  rw [r2_37, r2_38, r2_40, r2_42 (by rw [gm_kd_nw (by have := I4.1; omega)]; exact I4.2.1)]
  have I5 := I4.al (f := 13) (k := 200) (n := 6) (v := .int 0) (by decide) (by decide) (by decide) (by decide) (by decide) rfl
  have s5 : (gx_al g4 m 13 (200, List.replicate 6 (.int 0)) 6).2.1 = h.2.1 + 792 := by rw [al_1.2, s4]
  show gm_W E d 2 45 [.ref m, .int p, .int q, .int r, .int u, gm_u] [] (gx_al g4 m 13 (200, List.replicate 6 (.int 0)) 6) Q
  generalize gx_al g4 m 13 (200, List.replicate 6 (.int 0)) 6 = g5 at I5 s5 ⊢
  rw [r2_45, r2_46, r2_48, r2_50 (by rw [gm_kd_nw (by have := I5.1; omega)]; exact I5.2.1)]
  have I6 := I5.al (f := 14) (k := 200) (n := 24) (v := .int 0) (by decide) (by decide) (by decide) (by decide) (by decide) rfl
  have s6 : (gx_al g5 m 14 (200, List.replicate 24 (.int 0)) 24).2.1 = h.2.1 + 816 := by rw [al_1.2, s5]
  show gm_W E d 2 53 [.ref m, .int p, .int q, .int r, .int u, gm_u] [] (gx_al g5 m 14 (200, List.replicate 24 (.int 0)) 24) Q
  generalize gx_al g5 m 14 (200, List.replicate 24 (.int 0)) 24 = g6 at I6 s6 ⊢
  rw [r2_53, r2_54, r2_56, r2_58 (by rw [gm_kd_nw (by have := I6.1; omega)]; exact I6.2.1)]
  have I7 := I6.al (f := 15) (k := 200) (n := 24) (v := .int 0) (by decide) (by decide) (by decide) (by decide) (by decide) rfl
  have s7 : (gx_al g6 m 15 (200, List.replicate 24 (.int 0)) 24).2.1 = h.2.1 + 840 := by rw [al_1.2, s6]
  show gm_W E d 2 61 [.ref m, .int p, .int q, .int r, .int u, gm_u] [] (gx_al g6 m 15 (200, List.replicate 24 (.int 0)) 24) Q
  generalize gx_al g6 m 15 (200, List.replicate 24 (.int 0)) 24 = g7 at I7 s7 ⊢
  rw [r2_61, r2_62, r2_64, r2_66 (by rw [gm_kd_nw (by have := I7.1; omega)]; exact I7.2.1)]
  have I8 := I7.al (f := 16) (k := 200) (n := 6) (v := .int 0) (by decide) (by decide) (by decide) (by decide) (by decide) rfl
  have s8 : (gx_al g7 m 16 (200, List.replicate 6 (.int 0)) 6).2.1 = h.2.1 + 846 := by rw [al_1.2, s7]
  show gm_W E d 2 69 [.ref m, .int p, .int q, .int r, .int u, gm_u] [] (gx_al g7 m 16 (200, List.replicate 6 (.int 0)) 6) Q
  generalize gx_al g7 m 16 (200, List.replicate 6 (.int 0)) 6 = g8 at I8 s8 ⊢
  rw [r2_69, r2_70, r2_72, r2_74 (by rw [gm_kd_nw (by have := I8.1; omega)]; exact I8.2.1)]
  have I9 := I8.al (f := 17) (k := 203) (n := 6) (v := .int 0) (by decide) (by decide) (by decide) (by decide) (by decide) rfl
  have s9 : (gx_al g8 m 17 (203, List.replicate 6 (.int 0)) 6).2.1 = h.2.1 + 852 := by rw [al_1.2, s8]
  show gm_W E d 2 77 [.ref m, .int p, .int q, .int r, .int u, gm_u] [] (gx_al g8 m 17 (203, List.replicate 6 (.int 0)) 6) Q
  generalize gx_al g8 m 17 (203, List.replicate 6 (.int 0)) 6 = g9 at I9 s9 ⊢
  rw [r2_77, r2_78, r2_81, r2_83 (by rw [gm_kd_nw (by have := I9.1; omega)]; exact I9.2.1)]
  have I10 := I9.al (f := 18) (k := 200) (n := 720) (v := .int 0) (by decide) (by decide) (by decide) (by decide) (by decide) rfl
  have s10 : (gx_al g9 m 18 (200, List.replicate 720 (.int 0)) 720).2.1 = h.2.1 + 1572 := by rw [al_1.2, s9]
  show gm_W E d 2 86 [.ref m, .int p, .int q, .int r, .int u, gm_u] [] (gx_al g9 m 18 (200, List.replicate 720 (.int 0)) 720) Q
  generalize gx_al g9 m 18 (200, List.replicate 720 (.int 0)) 720 = g10 at I10 s10 ⊢
  rw [r2_86, r2_87, r2_90, r2_92 (by rw [gm_kd_nw (by have := I10.1; omega)]; exact I10.2.1)]
  have I11 := I10.al (f := 19) (k := 200) (n := 720) (v := .int 0) (by decide) (by decide) (by decide) (by decide) (by decide) rfl
  have s11 : (gx_al g10 m 19 (200, List.replicate 720 (.int 0)) 720).2.1 = h.2.1 + 2292 := by rw [al_1.2, s10]
  show gm_W E d 2 95 [.ref m, .int p, .int q, .int r, .int u, gm_u] [] (gx_al g10 m 19 (200, List.replicate 720 (.int 0)) 720) Q
  generalize gx_al g10 m 19 (200, List.replicate 720 (.int 0)) 720 = g11 at I11 s11 ⊢
  rw [r2_95, r2_96, r2_99, r2_101 (by rw [gm_kd_nw (by have := I11.1; omega)]; exact I11.2.1)]
  have I12 := I11.al (f := 20) (k := 200) (n := 720) (v := .int 0) (by decide) (by decide) (by decide) (by decide) (by decide) rfl
  have s12 : (gx_al g11 m 20 (200, List.replicate 720 (.int 0)) 720).2.1 = h.2.1 + 3012 := by rw [al_1.2, s11]
  show gm_W E d 2 104 [.ref m, .int p, .int q, .int r, .int u, gm_u] [] (gx_al g11 m 20 (200, List.replicate 720 (.int 0)) 720) Q
  generalize gx_al g11 m 20 (200, List.replicate 720 (.int 0)) 720 = g12 at I12 s12 ⊢
  rw [r2_104, r2_105, r2_108, r2_110 (by rw [gm_kd_nw (by have := I12.1; omega)]; exact I12.2.1)]
  have I13 := I12.al (f := 21) (k := 200) (n := 720) (v := .int 0) (by decide) (by decide) (by decide) (by decide) (by decide) rfl
  have s13 : (gx_al g12 m 21 (200, List.replicate 720 (.int 0)) 720).2.1 = h.2.1 + 3732 := by rw [al_1.2, s12]
  show gm_W E d 2 113 [.ref m, .int p, .int q, .int r, .int u, gm_u] [] (gx_al g12 m 21 (200, List.replicate 720 (.int 0)) 720) Q
  generalize gx_al g12 m 21 (200, List.replicate 720 (.int 0)) 720 = g13 at I13 s13 ⊢
  rw [r2_113, r2_114, r2_117, r2_119 (by rw [gm_kd_nw (by have := I13.1; omega)]; exact I13.2.1)]
  have I14 := I13.al (f := 22) (k := 200) (n := 720) (v := .int 0) (by decide) (by decide) (by decide) (by decide) (by decide) rfl
  have s14 : (gx_al g13 m 22 (200, List.replicate 720 (.int 0)) 720).2.1 = h.2.1 + 4452 := by rw [al_1.2, s13]
  show gm_W E d 2 122 [.ref m, .int p, .int q, .int r, .int u, gm_u] [] (gx_al g13 m 22 (200, List.replicate 720 (.int 0)) 720) Q
  generalize gx_al g13 m 22 (200, List.replicate 720 (.int 0)) 720 = g14 at I14 s14 ⊢
  rw [r2_122, r2_123, r2_126, r2_128 (by rw [gm_kd_nw (by have := I14.1; omega)]; exact I14.2.1)]
  have I15 := I14.al (f := 24) (k := 201) (n := 4000) (v := .long 0) (by decide) (by decide) (by decide) (by decide) (by decide) rfl
  have s15 : (gx_al g14 m 24 (201, List.replicate 4000 (.long 0)) 4000).2.1 = h.2.1 + 8452 := by rw [al_1.2, s14]
  show gm_W E d 2 131 [.ref m, .int p, .int q, .int r, .int u, gm_u] [] (gx_al g14 m 24 (201, List.replicate 4000 (.long 0)) 4000) Q
  generalize gx_al g14 m 24 (201, List.replicate 4000 (.long 0)) 4000 = g15 at I15 s15 ⊢
  rw [r2_131, r2_132, r2_135, r2_137 (by rw [gm_kd_nw (by have := I15.1; omega)]; exact I15.2.1)]
  have I16 := I15.al (f := 26) (k := 200) (n := 130) (v := .int 0) (by decide) (by decide) (by decide) (by decide) (by decide) rfl
  have s16 : (gx_al g15 m 26 (200, List.replicate 130 (.int 0)) 130).2.1 = h.2.1 + 8582 := by rw [al_1.2, s15]
  show gm_W E d 2 140 [.ref m, .int p, .int q, .int r, .int u, gm_u] [] (gx_al g15 m 26 (200, List.replicate 130 (.int 0)) 130) Q
  generalize gx_al g15 m 26 (200, List.replicate 130 (.int 0)) 130 = g16 at I16 s16 ⊢
  rw [r2_140, r2_141, r2_144, r2_146 (by rw [gm_kd_nw (by have := I16.1; omega)]; exact I16.2.1)]
  have I17 := I16.al (f := 27) (k := 200) (n := 130) (v := .int 0) (by decide) (by decide) (by decide) (by decide) (by decide) rfl
  have s17 : (gx_al g16 m 27 (200, List.replicate 130 (.int 0)) 130).2.1 = h.2.1 + 8712 := by rw [al_1.2, s16]
  show gm_W E d 2 149 [.ref m, .int p, .int q, .int r, .int u, gm_u] [] (gx_al g16 m 27 (200, List.replicate 130 (.int 0)) 130) Q
  generalize gx_al g16 m 27 (200, List.replicate 130 (.int 0)) 130 = g17 at I17 s17 ⊢
  rw [r2_149, r2_150, r2_153, r2_155 (by rw [gm_kd_nw (by have := I17.1; omega)]; exact I17.2.1)]
  have I18 := I17.al (f := 29) (k := 200) (n := 130) (v := .int 0) (by decide) (by decide) (by decide) (by decide) (by decide) rfl
  have s18 : (gx_al g17 m 29 (200, List.replicate 130 (.int 0)) 130).2.1 = h.2.1 + 8842 := by rw [al_1.2, s17]
  show gm_W E d 2 158 [.ref m, .int p, .int q, .int r, .int u, gm_u] [] (gx_al g17 m 29 (200, List.replicate 130 (.int 0)) 130) Q
  generalize gx_al g17 m 29 (200, List.replicate 130 (.int 0)) 130 = g18 at I18 s18 ⊢
  rw [r2_158, r2_159, r2_162, r2_164 (by rw [gm_kd_nw (by have := I18.1; omega)]; exact I18.2.1)]
  have I19 := I18.al (f := 30) (k := 200) (n := 130) (v := .int 0) (by decide) (by decide) (by decide) (by decide) (by decide) rfl
  have s19 : (gx_al g18 m 30 (200, List.replicate 130 (.int 0)) 130).2.1 = h.2.1 + 8972 := by rw [al_1.2, s18]
  show gm_W E d 2 167 [.ref m, .int p, .int q, .int r, .int u, gm_u] [] (gx_al g18 m 30 (200, List.replicate 130 (.int 0)) 130) Q
  generalize gx_al g18 m 30 (200, List.replicate 130 (.int 0)) 130 = g19 at I19 s19 ⊢
  rw [r2_167, r2_168, r2_171, r2_173 (by rw [gm_kd_nw (by have := I19.1; omega)]; exact I19.2.1)]
  have I20 := I19.al (f := 31) (k := 200) (n := 130) (v := .int 0) (by decide) (by decide) (by decide) (by decide) (by decide) rfl
  have s20 : (gx_al g19 m 31 (200, List.replicate 130 (.int 0)) 130).2.1 = h.2.1 + 9102 := by rw [al_1.2, s19]
  show gm_W E d 2 176 [.ref m, .int p, .int q, .int r, .int u, gm_u] [] (gx_al g19 m 31 (200, List.replicate 130 (.int 0)) 130) Q
  generalize gx_al g19 m 31 (200, List.replicate 130 (.int 0)) 130 = g20 at I20 s20 ⊢
  rw [r2_176, r2_177, r2_180, r2_182 (by rw [gm_kd_nw (by have := I20.1; omega)]; exact I20.2.1)]
  have I21 := I20.al (f := 32) (k := 200) (n := 130) (v := .int 0) (by decide) (by decide) (by decide) (by decide) (by decide) rfl
  have s21 : (gx_al g20 m 32 (200, List.replicate 130 (.int 0)) 130).2.1 = h.2.1 + 9232 := by rw [al_1.2, s20]
  show gm_W E d 2 185 [.ref m, .int p, .int q, .int r, .int u, gm_u] [] (gx_al g20 m 32 (200, List.replicate 130 (.int 0)) 130) Q
  generalize gx_al g20 m 32 (200, List.replicate 130 (.int 0)) 130 = g21 at I21 s21 ⊢
  rw [r2_185, r2_186, r2_189, r2_191 (by rw [gm_kd_nw (by have := I21.1; omega)]; exact I21.2.1)]
  have I22 := I21.al (f := 33) (k := 200) (n := 130) (v := .int 0) (by decide) (by decide) (by decide) (by decide) (by decide) rfl
  have s22 : (gx_al g21 m 33 (200, List.replicate 130 (.int 0)) 130).2.1 = h.2.1 + 9362 := by rw [al_1.2, s21]
  show gm_W E d 2 194 [.ref m, .int p, .int q, .int r, .int u, gm_u] [] (gx_al g21 m 33 (200, List.replicate 130 (.int 0)) 130) Q
  generalize gx_al g21 m 33 (200, List.replicate 130 (.int 0)) 130 = g22 at I22 s22 ⊢
  rw [r2_194, r2_195, r2_198, r2_200 (by rw [gm_kd_nw (by have := I22.1; omega)]; exact I22.2.1)]
  have I23 := I22.al (f := 34) (k := 201) (n := 130) (v := .long 0) (by decide) (by decide) (by decide) (by decide) (by decide) rfl
  have s23 : (gx_al g22 m 34 (201, List.replicate 130 (.long 0)) 130).2.1 = h.2.1 + 9492 := by rw [al_1.2, s22]
  show gm_W E d 2 203 [.ref m, .int p, .int q, .int r, .int u, gm_u] [] (gx_al g22 m 34 (201, List.replicate 130 (.long 0)) 130) Q
  generalize gx_al g22 m 34 (201, List.replicate 130 (.long 0)) 130 = g23 at I23 s23 ⊢
  rw [r2_203, r2_204, r2_207, r2_209 (by rw [gm_kd_nw (by have := I23.1; omega)]; exact I23.2.1)]
  have I24 := I23.al (f := 35) (k := 200) (n := 130) (v := .int 0) (by decide) (by decide) (by decide) (by decide) (by decide) rfl
  have s24 : (gx_al g23 m 35 (200, List.replicate 130 (.int 0)) 130).2.1 = h.2.1 + 9622 := by rw [al_1.2, s23]
  show gm_W E d 2 212 [.ref m, .int p, .int q, .int r, .int u, gm_u] [] (gx_al g23 m 35 (200, List.replicate 130 (.int 0)) 130) Q
  generalize gx_al g23 m 35 (200, List.replicate 130 (.int 0)) 130 = g24 at I24 s24 ⊢
  rw [r2_212, r2_213, r2_216, r2_218 (by rw [gm_kd_nw (by have := I24.1; omega)]; exact I24.2.1)]
  have I25 := I24.al (f := 36) (k := 200) (n := 1040) (v := .int 0) (by decide) (by decide) (by decide) (by decide) (by decide) rfl
  have s25 : (gx_al g24 m 36 (200, List.replicate 1040 (.int 0)) 1040).2.1 = h.2.1 + 10662 := by rw [al_1.2, s24]
  show gm_W E d 2 221 [.ref m, .int p, .int q, .int r, .int u, gm_u] [] (gx_al g24 m 36 (200, List.replicate 1040 (.int 0)) 1040) Q
  generalize gx_al g24 m 36 (200, List.replicate 1040 (.int 0)) 1040 = g25 at I25 s25 ⊢
  rw [r2_221, r2_222, r2_225, r2_227 (by rw [gm_kd_nw (by have := I25.1; omega)]; exact I25.2.1)]
  have I26 := I25.al (f := 37) (k := 200) (n := 1040) (v := .int 0) (by decide) (by decide) (by decide) (by decide) (by decide) rfl
  have s26 : (gx_al g25 m 37 (200, List.replicate 1040 (.int 0)) 1040).2.1 = h.2.1 + 11702 := by rw [al_1.2, s25]
  show gm_W E d 2 230 [.ref m, .int p, .int q, .int r, .int u, gm_u] [] (gx_al g25 m 37 (200, List.replicate 1040 (.int 0)) 1040) Q
  generalize gx_al g25 m 37 (200, List.replicate 1040 (.int 0)) 1040 = g26 at I26 s26 ⊢
  rw [r2_230, r2_231, r2_234, r2_236 (by rw [gm_kd_nw (by have := I26.1; omega)]; exact I26.2.1)]
  have I27 := I26.al (f := 38) (k := 200) (n := 130) (v := .int 0) (by decide) (by decide) (by decide) (by decide) (by decide) rfl
  have s27 : (gx_al g26 m 38 (200, List.replicate 130 (.int 0)) 130).2.1 = h.2.1 + 11832 := by rw [al_1.2, s26]
  show gm_W E d 2 239 [.ref m, .int p, .int q, .int r, .int u, gm_u] [] (gx_al g26 m 38 (200, List.replicate 130 (.int 0)) 130) Q
  generalize gx_al g26 m 38 (200, List.replicate 130 (.int 0)) 130 = g27 at I27 s27 ⊢
  rw [r2_239, r2_240, r2_242, r2_244 (by rw [gm_kd_nw (by have := I27.1; omega)]; exact I27.2.1)]
  have I28 := I27.al (f := 40) (k := 200) (n := 80) (v := .int 0) (by decide) (by decide) (by decide) (by decide) (by decide) rfl
  have s28 : (gx_al g27 m 40 (200, List.replicate 80 (.int 0)) 80).2.1 = h.2.1 + 11912 := by rw [al_1.2, s27]
  show gm_W E d 2 247 [.ref m, .int p, .int q, .int r, .int u, gm_u] [] (gx_al g27 m 40 (200, List.replicate 80 (.int 0)) 80) Q
  generalize gx_al g27 m 40 (200, List.replicate 80 (.int 0)) 80 = g28 at I28 s28 ⊢
  rw [r2_247, r2_248, r2_250, r2_252 (by rw [gm_kd_nw (by have := I28.1; omega)]; exact I28.2.1)]
  have I29 := I28.al (f := 41) (k := 200) (n := 80) (v := .int 0) (by decide) (by decide) (by decide) (by decide) (by decide) rfl
  have s29 : (gx_al g28 m 41 (200, List.replicate 80 (.int 0)) 80).2.1 = h.2.1 + 11992 := by rw [al_1.2, s28]
  show gm_W E d 2 255 [.ref m, .int p, .int q, .int r, .int u, gm_u] [] (gx_al g28 m 41 (200, List.replicate 80 (.int 0)) 80) Q
  generalize gx_al g28 m 41 (200, List.replicate 80 (.int 0)) 80 = g29 at I29 s29 ⊢
  rw [r2_255, r2_256, r2_258, r2_260 (by rw [gm_kd_nw (by have := I29.1; omega)]; exact I29.2.1)]
  have I30 := I29.al (f := 42) (k := 200) (n := 80) (v := .int 0) (by decide) (by decide) (by decide) (by decide) (by decide) rfl
  have s30 : (gx_al g29 m 42 (200, List.replicate 80 (.int 0)) 80).2.1 = h.2.1 + 12072 := by rw [al_1.2, s29]
  show gm_W E d 2 263 [.ref m, .int p, .int q, .int r, .int u, gm_u] [] (gx_al g29 m 42 (200, List.replicate 80 (.int 0)) 80) Q
  generalize gx_al g29 m 42 (200, List.replicate 80 (.int 0)) 80 = g30 at I30 s30 ⊢
  rw [r2_263, r2_264, r2_266, r2_268 (by rw [gm_kd_nw (by have := I30.1; omega)]; exact I30.2.1)]
  have I31 := I30.al (f := 43) (k := 200) (n := 80) (v := .int 0) (by decide) (by decide) (by decide) (by decide) (by decide) rfl
  have s31 : (gx_al g30 m 43 (200, List.replicate 80 (.int 0)) 80).2.1 = h.2.1 + 12152 := by rw [al_1.2, s30]
  show gm_W E d 2 271 [.ref m, .int p, .int q, .int r, .int u, gm_u] [] (gx_al g30 m 43 (200, List.replicate 80 (.int 0)) 80) Q
  generalize gx_al g30 m 43 (200, List.replicate 80 (.int 0)) 80 = g31 at I31 s31 ⊢
  rw [r2_271, r2_272, r2_274, r2_276 (by rw [gm_kd_nw (by have := I31.1; omega)]; exact I31.2.1)]
  have I32 := I31.al (f := 44) (k := 200) (n := 80) (v := .int 0) (by decide) (by decide) (by decide) (by decide) (by decide) rfl
  have s32 : (gx_al g31 m 44 (200, List.replicate 80 (.int 0)) 80).2.1 = h.2.1 + 12232 := by rw [al_1.2, s31]
  show gm_W E d 2 279 [.ref m, .int p, .int q, .int r, .int u, gm_u] [] (gx_al g31 m 44 (200, List.replicate 80 (.int 0)) 80) Q
  generalize gx_al g31 m 44 (200, List.replicate 80 (.int 0)) 80 = g32 at I32 s32 ⊢
  rw [r2_279, r2_280, r2_282, r2_284 (by rw [gm_kd_nw (by have := I32.1; omega)]; exact I32.2.1)]
  have I33 := I32.al (f := 45) (k := 200) (n := 80) (v := .int 0) (by decide) (by decide) (by decide) (by decide) (by decide) rfl
  have s33 : (gx_al g32 m 45 (200, List.replicate 80 (.int 0)) 80).2.1 = h.2.1 + 12312 := by rw [al_1.2, s32]
  show gm_W E d 2 287 [.ref m, .int p, .int q, .int r, .int u, gm_u] [] (gx_al g32 m 45 (200, List.replicate 80 (.int 0)) 80) Q
  generalize gx_al g32 m 45 (200, List.replicate 80 (.int 0)) 80 = g33 at I33 s33 ⊢
  rw [r2_287, r2_288, r2_290, r2_292 (by rw [gm_kd_nw (by have := I33.1; omega)]; exact I33.2.1)]
  have I34 := I33.al (f := 46) (k := 200) (n := 80) (v := .int 0) (by decide) (by decide) (by decide) (by decide) (by decide) rfl
  have s34 : (gx_al g33 m 46 (200, List.replicate 80 (.int 0)) 80).2.1 = h.2.1 + 12392 := by rw [al_1.2, s33]
  show gm_W E d 2 295 [.ref m, .int p, .int q, .int r, .int u, gm_u] [] (gx_al g33 m 46 (200, List.replicate 80 (.int 0)) 80) Q
  generalize gx_al g33 m 46 (200, List.replicate 80 (.int 0)) 80 = g34 at I34 s34 ⊢
  rw [I34.done]
  exact K g34 (by have := I34.1; omega) s34 I34.2.2.2.2
end M7
