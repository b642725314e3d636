/-! THE CLASS, 28: a new object. -/
section ZB
variable {E : Nat → Value} {d x b : Nat} {h h' : gm_H} {ca ca' : Nat → Nat} {K K' : gs_K} {F G : Nat → Prop} {s : gs_S} {lf : Int32}
/-- an array made, and kept in the field k of the object at a -/
def gx_al (h : gm_H) (a k : Nat) (c : gm_C) (n : Nat) : gm_H := gm_sf (gm_nw h c n) a k (.ref h.1)
section AL
variable {a k n q : Nat} {c : gm_C}
theorem al_1 : (gx_al h a k c n).1 = h.1 + 1 ∧ (gx_al h a k c n).2.1 = h.2.1 + n := by unfold gx_al; simp only [gm_sf_1, gm_sf_2, gm_nw_1, gm_nw_2, and_self]
theorem al_kd (hb : b ≠ h.1) : gm_kd (gx_al h a k c n) b = gm_kd h b := by unfold gx_al; rw [gm_kd_sf, gm_kd_nw hb]
theorem al_ln (hb : b ≠ h.1) : gm_ln (gx_al h a k c n) b = gm_ln h b := by unfold gx_al; rw [gm_ln_sf, gm_ln_nw hb]
theorem al_fk (ha : a ≠ h.1) (hk : k < gm_ln h a) : gm_fv (gx_al h a k c n) a k = .ref h.1 := by unfold gx_al; exact gm_fv_sf (by rw [gm_ln_nw ha]; exact hk)
theorem al_fj {j : Nat} (hj : b ≠ a ∨ j ≠ k) (hb : b ≠ h.1) : gm_fv (gx_al h a k c n) b j = gm_fv h b j := by
  unfold gx_al
  rcases hj with z | z
  · rw [gm_fv_sfa z, gm_fv_nw hb]
  · rw [gm_fv_sfj z, gm_fv_nw hb]
theorem al_rd (h1 : b ≠ a) (h2 : b ≠ h.1) : gm_rd (gx_al h a k c n) b = gm_rd h b := by unfold gx_al; rw [gm_rd_sfn h1, gm_rd_nwn h2]
theorem al_kd1 : gm_kd (gx_al h a k c n) h.1 = if c.1 < 6 ∧ c.2.length ≠ gm_N c.1 then 999 else c.1 := by unfold gx_al; rw [gm_kd_sf, gm_kd_nw1]
theorem al_ln1 : gm_ln (gx_al h a k c n) h.1 = c.2.length := by unfold gx_al; rw [gm_ln_sf, gm_ln_nw1]
theorem al_fv1 {j : Nat} (ha : a ≠ h.1) : gm_fv (gx_al h a k c n) h.1 j = c.2.getD j gm_u := by unfold gx_al; rw [gm_fv_sfa (Ne.symm ha), gm_fv_nw1]
end AL
def gx_h0 (h : gm_H) : gm_H := gm_nw h (2, [.null, .null, .int 0, .int 0]) 4
theorem x_Handles : gm_Ca E d 110 [.ref h.1] (gx_h0 h) (gx_v none (gx_al (gx_al (gx_h0 h) h.1 0 (100, List.replicate 234 (.int 0)) 234) h.1 1 (112, List.replicate 234 .null) 234)) := by
  have k0 : gm_kd (gx_h0 h) h.1 = 2 := by unfold gx_h0; rw [gm_kd_nw1]; rfl
  have e1 : (gx_h0 h).1 = h.1 + 1 := rfl
  have n0 : h.1 ≠ (gx_h0 h).1 := by rw [e1]; omega
  show gm_W E d 110 0 [.ref h.1] [] (gx_h0 h) _
  rw [r110_0, r110_1 (by simp), r110_4, r110_5, r110_8, r110_10 (by rw [gm_kd_nw n0]; exact k0)]
  show gm_W E d 110 13 [.ref h.1] [] (gx_al (gx_h0 h) h.1 0 (100, List.replicate 234 (.int 0)) 234) _
  have n1 : h.1 ≠ (gx_al (gx_h0 h) h.1 0 (100, List.replicate 234 (.int 0)) 234).1 := by rw [al_1.1, e1]; omega
  rw [r110_13, r110_14, r110_17, r110_20 (by rw [gm_kd_nw n1, al_kd n0]; exact k0), r110_23]
  exact ⟨rfl, rfl⟩
def gs_cl (v lo hi : Int32) : Int32 := if (if hi < v then hi else v) > lo then (if hi < v then hi else v) else lo
/-- the first state: limits -/
def gs_K0 (p q r t : Int32) : gs_K := ((gs_cl p 1 8, gs_cl q 1 60, gs_cl r 0 20, gs_cl t 4 700), (fun _ => none), (fun _ => 0), 0, false, 0)
def gx_x0 (h : gm_H) : gm_H := gm_nw h (0, [.int 0, .int 0, .int 0, .int 0, .null, .null, .int 0, .int 0, .null, .int 0, .null, .int 0, .int 0]) 13
theorem x_new {p q r t : Int32} (hd : 1 ≤ d) (Gv : gx_G E h h.1 (fun _ => False)) : gm_Ca E d 51 [.ref h.1, .int p, .int q, .int r, .int t] (gx_x0 h) (fun rr h' => rr = .inl none ∧ gx_X E h' h.1 ca (gs_K0 p q r t) (0, [], [], 0) 0 ∧ h'.1 = h.1 + 7 ∧ h'.2.1 = h.2.1 + 1425 ∧ ∀ b, b < h.1 → gm_rd h' b = gm_rd h b) := by
  obtain ⟨x, hx⟩ : ∃ x, x = h.1 := ⟨_, rfl⟩
  rw [← hx] at Gv ⊢
  obtain ⟨h0, h0e⟩ : ∃ h0, h0 = gx_x0 h := ⟨_, rfl⟩
  rw [← h0e]
  have c0 : h0.1 = x + 1 ∧ h0.2.1 = h.2.1 + 13 := by rw [h0e, hx]; exact ⟨rfl, rfl⟩
  have k0 : gm_kd h0 x = 0 := by rw [h0e, hx]; unfold gx_x0; rw [gm_kd_nw1]; rfl
  have l0 : gm_ln h0 x = 13 := by rw [h0e, hx]; exact gm_ln_nw1
  have f0 : ∀ j, gm_fv h0 x j = ([.int 0, .int 0, .int 0, .int 0, .null, .null, .int 0, .int 0, .null, .int 0, .null, .int 0, .int 0] : List Value).getD j gm_u := fun j => by rw [h0e, hx]; exact gm_fv_nw1
  have r0 : ∀ b, b < x → gm_rd h0 b = gm_rd h b := fun b hb => by rw [h0e]; exact gm_rd_nwn (by omega)
  clear h0e
  show gm_W E d 51 0 [.ref x, .int p, .int q, .int r, .int t] [] h0 _
  rw [r51_0, r51_1 (by simp), r51_4, r51_5, r51_7, r51_10 (by rw [gm_kd_nw (by omega)]; exact k0)]
  obtain ⟨h1, h1e⟩ : ∃ h1, h1 = gx_al h0 x 4 (110, List.replicate 6 .null) 6 := ⟨_, rfl⟩
  show gm_W E d 51 13 _ _ (gx_al h0 x 4 (110, List.replicate 6 .null) 6) _
  rw [← h1e]
  have c1 : h1.1 = x + 2 ∧ h1.2.1 = h.2.1 + 19 := by rw [h1e]; have := al_1 (h := h0) (a := x) (k := 4) (c := (110, List.replicate 6 .null)) (n := 6); omega
  have k1 : gm_kd h1 x = 0 := by rw [h1e, al_kd (by omega)]; exact k0
  rw [r51_13, r51_14, r51_17, r51_19 (by rw [gm_kd_nw (by omega)]; exact k1)]
  obtain ⟨h2, h2e⟩ : ∃ h2, h2 = gx_al h1 x 5 (102, List.replicate 700 (.int 0)) 700 := ⟨_, rfl⟩
  show gm_W E d 51 22 _ _ (gx_al h1 x 5 (102, List.replicate 700 (.int 0)) 700) _
  rw [← h2e]
  have c2 : h2.1 = x + 3 ∧ h2.2.1 = h.2.1 + 719 := by rw [h2e]; have := al_1 (h := h1) (a := x) (k := 5) (c := (102, List.replicate 700 (.int 0))) (n := 700); omega
  have k2 : gm_kd h2 x = 0 := by rw [h2e, al_kd (by omega)]; exact k1
  rw [r51_22, r51_23, r51_26, r51_29 (by rw [gm_kd_nw (by omega)]; exact k2)]
  obtain ⟨h3, h3e⟩ : ∃ h3, h3 = gx_al h2 x 8 (111, List.replicate 234 .null) 234 := ⟨_, rfl⟩
  show gm_W E d 51 32 _ _ (gx_al h2 x 8 (111, List.replicate 234 .null) 234) _
  rw [← h3e]
  have c3 : h3.1 = x + 4 ∧ h3.2.1 = h.2.1 + 953 := by rw [h3e]; have := al_1 (h := h2) (a := x) (k := 8) (c := (111, List.replicate 234 .null)) (n := 234); omega
  have k3 : gm_kd h3 x = 0 := by rw [h3e, al_kd (by omega)]; exact k2
  rw [r51_32, r51_33, r51_36]
  refine c51_37 (by simp [Value.category]) hd (x_Handles (h := h3)) (gx_kn ?_) gx_kx
  obtain ⟨h4, h4e⟩ : ∃ h4, h4 = gx_al (gx_h0 h3) h3.1 0 (100, List.replicate 234 (.int 0)) 234 := ⟨_, rfl⟩
  obtain ⟨h5, h5e⟩ : ∃ h5, h5 = gx_al h4 h3.1 1 (112, List.replicate 234 .null) 234 := ⟨_, rfl⟩
  rw [← h4e, ← h5e]
  have c4 : h4.1 = x + 6 ∧ h4.2.1 = h.2.1 + 1191 := by rw [h4e]; have := al_1 (h := gx_h0 h3) (a := h3.1) (k := 0) (c := (100, List.replicate 234 (.int 0))) (n := 234); have e1 : (gx_h0 h3).1 = h3.1 + 1 := rfl; have e2 : (gx_h0 h3).2.1 = h3.2.1 + 4 := rfl; omega
  have c5 : h5.1 = x + 7 ∧ h5.2.1 = h.2.1 + 1425 := by rw [h5e]; have := al_1 (h := h4) (a := h3.1) (k := 1) (c := (112, List.replicate 234 .null)) (n := 234); omega
  have g0 : (gx_h0 h3).1 = x + 5 := by show h3.1 + 1 = _; omega
  have r5 : ∀ b, b < x + 4 → gm_rd h5 b = gm_rd h3 b := fun b hb => by
    rw [h5e, al_rd (by omega) (by omega), h4e, al_rd (by omega) (by omega)]
    exact gm_rd_nwn (by omega)
  have r3 : ∀ b, b < x → gm_rd h3 b = gm_rd h b := fun b hb => by
    rw [h3e, al_rd (by omega) (by omega), h2e, al_rd (by omega) (by omega), h1e, al_rd (by omega) (by omega)]
    exact r0 b hb
  have kx : gm_kd h5 x = 0 := (gv_kd (r5 x (by omega))).trans k3
  have ex : ∀ e : Value, (none : Option Value).toList ++ [Value.ref h3.1, e] = [Value.ref h3.1, e] := fun _ => rfl
  simp only [Option.toList_none, List.nil_append]
  rw [r51_40 kx, r51_43, r51_44, r51_45, r51_46]
  refine c51_48 (by simp [Value.category]) hd (x_min p 8) (gx_kn ?_) gx_kx
  simp only [Option.toList_some, List.cons_append, List.nil_append]
  refine c51_51 (by simp [Value.category]) hd (x_max 1 _) (gx_kn ?_) gx_kx
  simp only [Option.toList_some, List.cons_append, List.nil_append]
  rw [r51_54 (by rw [gm_kd_sf]; exact kx), r51_57, r51_58, r51_59, r51_60]
  refine c51_62 (by simp [Value.category]) hd (x_min q 60) (gx_kn ?_) gx_kx
  simp only [Option.toList_some, List.cons_append, List.nil_append]
  refine c51_65 (by simp [Value.category]) hd (x_max 1 _) (gx_kn ?_) gx_kx
  simp only [Option.toList_some, List.cons_append, List.nil_append]
  rw [r51_68 (by simp only [gm_kd_sf]; exact kx), r51_71, r51_72, r51_73, r51_74]
  refine c51_76 (by simp [Value.category]) hd (x_min r 20) (gx_kn ?_) gx_kx
  simp only [Option.toList_some, List.cons_append, List.nil_append]
  refine c51_79 (by simp [Value.category]) hd (x_max 0 _) (gx_kn ?_) gx_kx
  simp only [Option.toList_some, List.cons_append, List.nil_append]
  rw [r51_82 (by simp only [gm_kd_sf]; exact kx), r51_85, r51_86, r51_87, r51_89]
  refine c51_92 (by simp [Value.category]) hd (x_min t 700) (gx_kn ?_) gx_kx
  simp only [Option.toList_some, List.cons_append, List.nil_append]
  refine c51_95 (by simp [Value.category]) hd (x_max 4 _) (gx_kn ?_) gx_kx
  simp only [Option.toList_some, List.cons_append, List.nil_append]
  rw [r51_98 (by simp only [gm_kd_sf]; exact kx), r51_101]
  obtain ⟨L0, hL0⟩ : ∃ L0, L0 = gs_cl p 1 8 := ⟨_, rfl⟩
  obtain ⟨L1, hL1⟩ : ∃ L1, L1 = gs_cl q 1 60 := ⟨_, rfl⟩
  obtain ⟨L2, hL2⟩ : ∃ L2, L2 = gs_cl r 0 20 := ⟨_, rfl⟩
  obtain ⟨L3, hL3⟩ : ∃ L3, L3 = gs_cl t 4 700 := ⟨_, rfl⟩
  obtain ⟨h6, h6e⟩ : ∃ h6, h6 = gm_sf (gm_sf (gm_sf (gm_sf (gm_sf h5 x 10 (.ref h3.1)) x 0 (.int L0)) x 1 (.int L1)) x 2 (.int L2)) x 3 (.int L3) := ⟨_, rfl⟩
  have eh : gm_sf (gm_sf (gm_sf (gm_sf (gm_sf h5 x 10 (.ref h3.1)) x 0 (.int (if 1 < (if 8 < p then 8 else p) then (if 8 < p then 8 else p) else 1))) x 1 (.int (if 1 < (if 60 < q then 60 else q) then (if 60 < q then 60 else q) else 1))) x 2 (.int (if 0 < (if 20 < r then 20 else r) then (if 20 < r then 20 else r) else 0))) x 3 (.int (if 4 < (if 700 < t then 700 else t) then (if 700 < t then 700 else t) else 4)) = h6 := by
    rw [h6e, hL0, hL1, hL2, hL3]
    rfl
  rw [eh]
  clear eh
  have lx : gm_ln h5 x = 13 := gm_kd_ln kx (by decide)
  have r6 : ∀ b, b ≠ x → gm_rd h6 b = gm_rd h5 b := fun b hb => by rw [h6e, gm_rd_sfn hb, gm_rd_sfn hb, gm_rd_sfn hb, gm_rd_sfn hb, gm_rd_sfn hb]
  have k6 : ∀ b, gm_kd h6 b = gm_kd h5 b := fun b => by rw [h6e]; simp only [gm_kd_sf]
  have ln6 : ∀ b, gm_ln h6 b = gm_ln h5 b := fun b => by rw [h6e]; simp only [gm_ln_sf]
  have f6 : ∀ j, j ≠ 0 → j ≠ 1 → j ≠ 2 → j ≠ 3 → j ≠ 10 → gm_fv h6 x j = gm_fv h5 x j := fun j a0 a1 a2 a3 a10 => by rw [h6e, gm_fv_sfj a3, gm_fv_sfj a2, gm_fv_sfj a1, gm_fv_sfj a0, gm_fv_sfj a10]
  have f60 : gm_fv h6 x 0 = .int L0 := by rw [h6e, gm_fv_sfj (by decide), gm_fv_sfj (by decide), gm_fv_sfj (by decide), gm_fv_sf (by simp only [gm_ln_sf, lx]; decide)]
  have f61 : gm_fv h6 x 1 = .int L1 := by rw [h6e, gm_fv_sfj (by decide), gm_fv_sfj (by decide), gm_fv_sf (by simp only [gm_ln_sf, lx]; decide)]
  have f62 : gm_fv h6 x 2 = .int L2 := by rw [h6e, gm_fv_sfj (by decide), gm_fv_sf (by simp only [gm_ln_sf, lx]; decide)]
  have f63 : gm_fv h6 x 3 = .int L3 := by rw [h6e, gm_fv_sf (by simp only [gm_ln_sf, lx]; decide)]
  have f610 : gm_fv h6 x 10 = .ref (x + 4) := by rw [h6e, gm_fv_sfj (by decide), gm_fv_sfj (by decide), gm_fv_sfj (by decide), gm_fv_sfj (by decide), gm_fv_sf (by rw [lx]; decide), c3.1]
  have c6 : h6.1 = x + 7 ∧ h6.2.1 = h.2.1 + 1425 := by rw [h6e]; simp only [gm_sf_1, gm_sf_2]; exact c5
  -- the object's fields as the arrays came
  have f5 : ∀ j, gm_fv h5 x j = gm_fv h3 x j := fun j => gv_fv (r5 x (by omega))
  have f3j : ∀ j, j ≠ 8 → gm_fv h3 x j = gm_fv h2 x j := fun j hj => by rw [h3e, al_fj (Or.inr hj) (by omega)]
  have f2j : ∀ j, j ≠ 5 → gm_fv h2 x j = gm_fv h1 x j := fun j hj => by rw [h2e, al_fj (Or.inr hj) (by omega)]
  have f1j : ∀ j, j ≠ 4 → gm_fv h1 x j = gm_fv h0 x j := fun j hj => by rw [h1e, al_fj (Or.inr hj) (by omega)]
  have l1x : gm_ln h1 x = 13 := gm_kd_ln k1 (by decide)
  have l2x : gm_ln h2 x = 13 := gm_kd_ln k2 (by decide)
  have fx4 : gm_fv h5 x 4 = .ref (x + 1) := by rw [f5, f3j 4 (by decide), f2j 4 (by decide), h1e, al_fk (by omega) (by rw [l0]; decide), c0.1]
  have fx5 : gm_fv h5 x 5 = .ref (x + 2) := by rw [f5, f3j 5 (by decide), h2e, al_fk (by omega) (by rw [l1x]; decide), c1.1]
  have fx8 : gm_fv h5 x 8 = .ref (x + 3) := by rw [f5, h3e, al_fk (by omega) (by rw [l2x]; decide), c2.1]
  have fxj : ∀ j, j ≠ 4 → j ≠ 5 → j ≠ 8 → gm_fv h5 x j = ([.int 0, .int 0, .int 0, .int 0, .null, .null, .int 0, .int 0, .null, .int 0, .null, .int 0, .int 0] : List Value).getD j gm_u := fun j a4 a5 a8 => by rw [f5, f3j j a8, f2j j a5, f1j j a4]; exact f0 j
  have a1 : gm_rd h5 (x + 1) = gm_rd h1 (x + 1) := by rw [r5 _ (by omega), h3e, al_rd (by omega) (by omega), h2e, al_rd (by omega) (by omega)]
  have a2 : gm_rd h5 (x + 2) = gm_rd h2 (x + 2) := by rw [r5 _ (by omega), h3e, al_rd (by omega) (by omega)]
  have a3 : gm_rd h5 (x + 3) = gm_rd h3 (x + 3) := r5 _ (by omega)
  have kk1 : gm_kd h1 (x + 1) = 110 := by rw [h1e, ← c0.1, al_kd1]; rfl
  have kl1 : gm_ln h1 (x + 1) = 6 := by rw [h1e, ← c0.1, al_ln1]; rfl
  have kf1 : ∀ j, j < 6 → gm_fv h1 (x + 1) j = .null := fun j hj => by
    rw [h1e, ← c0.1, al_fv1 (by omega)]
    show (List.replicate 6 Value.null).getD j gm_u = _
    rw [List.getD_eq_getElem?_getD, List.getElem?_replicate, if_pos hj]; rfl
  have kk2 : gm_kd h2 (x + 2) = 102 := by rw [h2e, ← c1.1, al_kd1]; rfl
  have kl2 : gm_ln h2 (x + 2) = 700 := by rw [h2e, ← c1.1, al_ln1]; exact List.length_replicate
  have kk3 : gm_kd h3 (x + 3) = 111 := by rw [h3e, ← c2.1, al_kd1]; rfl
  have kl3 : gm_ln h3 (x + 3) = 234 := by rw [h3e, ← c2.1, al_ln1]; exact List.length_replicate
  have kg : gm_kd (gx_h0 h3) (x + 4) = 2 := by rw [← c3.1]; unfold gx_h0; rw [gm_kd_nw1]; rfl
  have lg : gm_ln (gx_h0 h3) (x + 4) = 4 := gm_kd_ln kg (by decide)
  have fg : ∀ j, gm_fv (gx_h0 h3) (x + 4) j = ([.null, .null, .int 0, .int 0] : List Value).getD j gm_u := fun j => by rw [← c3.1]; exact gm_fv_nw1
  rw [c3.1] at h4e h5e
  have k44 : gm_kd h4 (x + 4) = 2 := by rw [h4e, al_kd (by omega)]; exact kg
  have l44 : gm_ln h4 (x + 4) = 4 := gm_kd_ln k44 (by decide)
  have k54 : gm_kd h5 (x + 4) = 2 := by rw [h5e, al_kd (by omega)]; exact k44
  have f54 : ∀ j, j ≠ 0 → j ≠ 1 → gm_fv h5 (x + 4) j = ([.null, .null, .int 0, .int 0] : List Value).getD j gm_u := fun j b0 b1 => by rw [h5e, al_fj (Or.inr b1) (by omega), h4e, al_fj (Or.inr b0) (by omega)]; exact fg j
  have f540 : gm_fv h5 (x + 4) 0 = .ref (x + 5) := by rw [h5e, al_fj (Or.inr (by decide)) (by omega), h4e, al_fk (by omega) (by rw [lg]; decide), g0]
  have f541 : gm_fv h5 (x + 4) 1 = .ref (x + 6) := by rw [h5e, al_fk (by omega) (by rw [l44]; decide), c4.1]
  have k55 : gm_kd h5 (x + 5) = 100 := by rw [h5e, al_kd (by omega), h4e, ← g0, al_kd1]; rfl
  have l55 : gm_ln h5 (x + 5) = 234 := by rw [h5e, al_ln (by omega), h4e, ← g0, al_ln1]; exact List.length_replicate
  have k56 : gm_kd h5 (x + 6) = 112 := by rw [h5e, ← c4.1, al_kd1]; rfl
  have l56 : gm_ln h5 (x + 6) = 234 := by rw [h5e, ← c4.1, al_ln1]; exact List.length_replicate
  have ag : gx_ag h h6 x (fun _ => False) := ⟨by omega, fun b o => by
    have hb : b < x := by have := o.1; have := o.2.1; omega
    rw [r6 b (by omega), r5 b (by omega)]; exact r3 b hb⟩
  have g4 : ∀ j, gm_fv h6 (x + 4) j = gm_fv h5 (x + 4) j := fun j => gv_fv (r6 _ (by omega))
  refine ⟨rfl, ⟨⟨⟨?_, ?_, ?_, ?_, ?_, ?_, ?_, ?_, ?_, ?_, ?_, ?_, ?_, ?_, ?_, ?_, ?_, ?_, by omega⟩, ⟨?_, ?_, ?_, ?_, ?_, Nat.zero_le _, fun i hi => absurd hi (Nat.not_lt_zero _)⟩, ⟨⟨Gv.tr ag, fun _ _ => rfl⟩, fun c hc => ⟨fun _ => ?_, fun C z => by cases z⟩⟩, ⟨?_, Nat.le_refl _, ?_, Nat.zero_le _, ?_, ?_, Nat.le_refl _, Nat.zero_le _, 0, ?_⟩, ⟨fun _ => 0, fun i j _ hj => absurd hj (Nat.not_lt_zero _), fun i o hi => by simp [gs_hp] at hi⟩, fun i e hi => by simp [gs_hs] at hi, fun i o c hi => by simp [gs_hp] at hi, fun i e hi => by simp [gs_hs] at hi⟩, ?_⟩, c6.1, c6.2, fun b hb => ?_⟩
  · rw [k6]; exact kx
  · rw [f6 4 (by decide) (by decide) (by decide) (by decide) (by decide)]; exact fx4
  · rw [f6 5 (by decide) (by decide) (by decide) (by decide) (by decide)]; exact fx5
  · rw [f6 8 (by decide) (by decide) (by decide) (by decide) (by decide)]; exact fx8
  · exact f610
  · rw [k6, gv_kd a1]; exact kk1
  · rw [ln6, gv_ln a1]; exact kl1
  · rw [k6, gv_kd a2]; exact kk2
  · rw [ln6, gv_ln a2]; exact kl2
  · rw [k6, gv_kd a3]; exact kk3
  · rw [ln6, gv_ln a3]; exact kl3
  · rw [k6]; exact k54
  · rw [g4]; exact f540
  · rw [g4]; exact f541
  · rw [k6]; exact k55
  · rw [ln6]; exact l55
  · rw [k6]; exact k56
  · rw [ln6]; exact l56
  · rw [f60, hL0]; rfl
  · rw [f61, hL1]; rfl
  · rw [f62, hL2]; rfl
  · rw [f63, hL3]; rfl
  · rw [f6 6 (by decide) (by decide) (by decide) (by decide) (by decide), fxj 6 (by decide) (by decide) (by decide)]; rfl
  · rw [gv_fv (r6 _ (by omega)), gv_fv a1]; exact kf1 c hc
  · rw [f6 7 (by decide) (by decide) (by decide) (by decide) (by decide), fxj 7 (by decide) (by decide) (by decide)]; rfl
  · rw [f6 9 (by decide) (by decide) (by decide) (by decide) (by decide), fxj 9 (by decide) (by decide) (by decide)]; rfl
  · rw [g4, f54 2 (by decide) (by decide)]; rfl
  · rw [g4, f54 3 (by decide) (by decide)]; rfl
  · rw [f6 12 (by decide) (by decide) (by decide) (by decide) (by decide), fxj 12 (by decide) (by decide) (by decide)]; rfl
  · rw [f6 11 (by decide) (by decide) (by decide) (by decide) (by decide), fxj 11 (by decide) (by decide) (by decide)]; rfl
  · rw [r6 b (by omega), r5 b (by omega)]; exact r3 b hb
end ZB
