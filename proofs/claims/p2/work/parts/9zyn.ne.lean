/-! THE REFERENCE, 41: a descriptor. -/
section NE
variable {X N : Nat → Prop} {E : Nat → Value} {d m f n p dp c us nd k e j cnt hb ub nb B pp : Nat} {h : gm_H} {t t' : gr_t} {K : gs_K} {s s' s'' : gs_S} {rc : gs_M Int32} {P : gr_t → Prop} {l : gs_L} {Q : gm_R → gm_H → Prop}
theorem gr_chn.nil {i : Int32} (h : gr_chn N t K [] i) : i = -2 := h
theorem gs_pre_get {α : Type} {a b : List α} {i : Nat} {x : α} (h : a <+: b) (e : a[i]? = some x) : b[i]? = some x := by
  obtain ⟨r, rfl⟩ := h
  rw [List.getElem?_append_left (List.getElem?_eq_some_iff.mp e).1]
  exact e
theorem gs_pre_mod {α : Type} {a b : List α} {i : Nat} {g : α → α} (h : a <+: b) (hi : a.length ≤ i) : a <+: b.modify i g := by
  rw [List.prefix_iff_getElem?] at h ⊢
  intro j hj
  rw [List.getElem?_modify, h j hj]
  simp
  intro z
  omega
theorem gs_find_ok {a n c : Nat} (e : gs_find K a n = some c) : (gs_cls K c).isSome = true := by
  unfold gs_find at e
  dsimp only at e
  split at e
  · cases e
  · split at e
    · rename_i y; cases e; exact y
    · cases e
theorem gs_mch_ok {w : Unit × gs_S} (e : gs_mch K l s = .ok w) : w.2 = s := by
  unfold gs_mch at e
  split at e
  · cases e
  · split at e
    · cases e
    · cases e; rfl
theorem gs_dsc1_114 {u : gs_M (List gs_L)} (z : gs_pl s < gs_n K) (hb : gs_sb K (gs_pl s) &&& 255 = 114) : gs_dsc1 K rc (some u) s = gs_dT K rc u (gs_p (gs_pl s + 1) s) := by
  unfold gs_dsc1
  rw [gs_b_ok (gs_u1_y z), hb]
  rfl
/-- the descriptor's beginning has been read: all that follows -/
theorem gr_dB (RC : gr_RC E d h m K (dp + 1) rc) (hK : gs_rst K = true) (hd : 12 ≤ d) (hdp : 1 ≤ dp ∧ dp ≤ 8) (hB : 14 * (69 - dp) ≤ B) (hB2 : B ≤ 980) {u : gs_M (List gs_L)} (U : gr_DS E d h m K dp B (pp + 1) u) {q : Nat × Nat × Int64 × Int32 × Nat} {t0 : gr_t} {s0 : gs_S} (h0s : gs_hs s = gs_hs s0 ++ [(-1, [])]) (h0p : gs_hp s = gs_hp s0) (h01 : gs_f1 s = gs_f1 s0) (h0l : gs_pl s0 ≤ gs_pl s) (h0f : gs_f1 s0 ≤ (gs_hs s0).length) (K0 : gr_kp (gs_hp s0).length us k t0 t) (F0 : gr_fr f t0 t) (E0 : gr_eh (gs_size s0) t0 t) (he0 : e = gs_size s0)
    (Y : gr_Y X c us nd t K s) (h8 : t.1 0 8 = 0) (h47 : t.1 0 47 = nI (f + 1)) (hf : t.1 28 f = 2 ∧ t.1 29 f = 1 ∧ t.1 30 f = nI dp ∧ t.1 31 f = nI pp ∧ t.1 32 f = nI k ∧ t.1 33 f = 0 ∧ t.1 34 f = nI e) (hX : X k) (h14 : 14 * f + 42 ≤ 42 * dp + gs_pl s) (hsz : 14 * gs_size s ≤ B + gs_pl s)
    (h17 : t.1 17 e = nI k) (hq : q.2.2.2.2 ≤ 8) (hqn : q.1 + q.2.1 ≤ gs_n K) (r20 : t.1 20 k = gr_o (gs_find K q.1 q.2.1)) (r21 : t.1 21 k = gr_sh K q.1 q.2.1) (r22 : t.1 22 k = q.2.2.2.1) (r23 : t.2 23 k = q.2.2.1) (r24 : t.1 24 k = nI q.2.2.2.2) :
    gr_Rn E d h m (gr_O K (fun x => X x ∧ x ≠ k) c us k f f t0 s0 (fun L s' nd' t' => gr_chn (gr_NX (fun x => X x ∧ x ≠ k) nd') t' K L (t'.1 0 9) ∧ L.length ≤ gs_dn s' ∧ 14 * gs_size s' ≤ B + gs_pl s' ∧ nd ≤ nd' ∧ gs_pl s ≤ gs_pl s') (gs_dB K rc u (gs_hs s0).length q s)) t := by
  obtain ⟨f28, f29, f30, f31, f32, f33, f34⟩ := hf
  have n7 := Y.n7
  have pn := Y.pn
  have kn := Y.xb k hX
  have nbb := Y.nb
  have f79 : f < 79 := by omega
  -- the fields
  refine (gr_flds RC hd hdp hB q.2.2.2.2 [] X c us nd f k t s Y h8 h47 ⟨f28, f29, f30, f32, f33⟩ hX (by rw [r24]; simp) (by simpa using hq) (fun j w hw => by simp at hw) (by omega) hsz).bind (fun t1 x1 => ?_)
  unfold gs_dB
  have hl0 : (gs_hp s0).length ≤ (gs_hp s).length := by rw [h0p]; exact Nat.le_refl _
  refine gr_O.seqF x1 K0 hl0 (Nat.le_refl us) (Nat.le_refl k) (fun fs s1 us1 nd1 er1 g1 Y1 a8 a47 a3 a6 a4 a5 v1 => ?_)
  obtain ⟨v1n, v1d, v129, v133, v1l, v1t, v1r, v1s⟩ := v1
  have v1l : fs.length = q.2.2.2.2 := by simpa using v1l
  have b28 := v1d.1.trans f28
  have b30 := v1d.2.1.trans f30
  have b31 := v1d.2.2.1.trans f31
  have b32 := v1d.2.2.2.1.trans f32
  have b34 := v1d.2.2.2.2.trans f34
  have pn1 := Y1.pn
  have ap1 := a5.2.2.2
  have nbb1 := Y1.nb
  have kn1 : k < nd1 := by omega
  -- the end of the fields
  refine .step a47 (by omega) a8 (gr_sd1 (by omega) a47 (by omega) b28 v129 (m_nfE (cnt := fs.length) (by omega) f79 a47 (by omega) a8 b32 v133 (by rw [v1r.1.2.2.2, r24, v1l]) (by omega))) (fun t2 x2 => ?_)
  have e22 : t1.1 22 k = q.2.2.2.1 := v1r.1.2.2.1.trans r22
  rw [e22, v1l] at x2
  by_cases bad : q.2.2.2.1 &&& 16 ≠ 0 ∧ 0 < q.2.2.2.2
  · rw [if_pos bad]
    have x2 := x2.1 bad
    refine .done (gr_O.er rfl ⟨?_, by decide, ?_⟩)
    · rw [x2, gr_ui_no (by decide), gr_ui_eq]
    · rw [x2]; exact ((K0.trans (a4.wk hl0 (Nat.le_refl _) (Nat.le_refl _))).ui (by unfold gr_pr; omega)).ui (by unfold gr_pr; omega)
  rw [if_neg bad]
  have x2 := x2.2 bad
  obtain ⟨p1, p2, p3, p4, p5, p6, p7, p8, p9⟩ := gr_push_fr (t := gr_ui t1 29 f 3) (tp := f + 1) (k := 4) (dd := t1.1 30 f) (a := 0) (b := 0)
  rw [← x2] at p1 p2 p3 p4 p5 p6 p7 p8 p9
  have hm2 : gr_hm t1 t2 := by rw [x2]; exact (gr_hm.refl.ui (by omega)).push
  have fr2 : gr_fr (f + 1) (gr_ui t1 29 f 3) t2 := by rw [x2]; exact gr_fr.refl.push (Nat.le_refl _)
  have c8 : t2.1 0 8 = 0 := p9.trans (by rw [gr_ui_no (by decide)]; exact a8)
  -- the rest
  refine (gr_rest RC hK (by omega) hdp hB 701 X c us1 nd1 (f + 1) t2 s1 (Y1.hm hm2) c8 p8 ⟨p1, p3.trans b30⟩ (by omega) v1s (by omega)).bind (fun t3 x3 => ?_)
  have kp2 : gr_kp (gs_hp s0).length us k t0 t2 := (K0.trans (a4.wk hl0 (Nat.le_refl _) (Nat.le_refl _))).trans hm2.kp
  have hl1 := a5.len
  refine gr_O.seqF x3 kp2 (by omega) g1.1 (by omega) (fun u0 s3 us3 nd3 er3 g3 Y3 d8 d47 d3 d6 d4 d5 v3 => ?_)
  have ff3 : ∀ o, 28 ≤ o → o ≤ 34 → t3.1 o f = (gr_ui t1 29 f 3).1 o f := fun o a b => (d3 o f a b (by omega)).trans (fr2 o f a b (by omega))
  have pn3 := Y3.pn
  have ap3 := d5.2.2.2
  have nbb3 := Y3.nb
  have e28 : t3.1 28 f = 2 := by rw [ff3 28 (by omega) (by omega), gr_ui_no (by decide)]; exact b28
  have e29 : t3.1 29 f = 3 := by rw [ff3 29 (by omega) (by omega), gr_ui_eq]
  have e30 : t3.1 30 f = nI dp := by rw [ff3 30 (by omega) (by omega), gr_ui_no (by decide)]; exact b30
  have e31 : t3.1 31 f = nI pp := by rw [ff3 31 (by omega) (by omega), gr_ui_no (by decide)]; exact b31
  have e32 : t3.1 32 f = nI k := by rw [ff3 32 (by omega) (by omega), gr_ui_no (by decide)]; exact b32
  have e34 : t3.1 34 f = nI e := by rw [ff3 34 (by omega) (by omega), gr_ui_no (by decide)]; exact b34
  -- the one above
  refine .step d47 (by omega) d8 (gr_sd3 (by omega) d47 f79 e28 e29) (fun t4 x4 => ?_)
  obtain ⟨p1, p2, p3', p4, p5, p6, p7, p8, p9⟩ := gr_push_fr (t := gr_ui t3 29 f 4) (tp := f + 1) (k := 2) (dd := t3.1 30 f) (a := t3.1 31 f + 1) (b := 0)
  rw [← x4] at p1 p2 p3' p4 p5 p6 p7 p8 p9
  have hm4 : gr_hm t3 t4 := by rw [x4]; exact (gr_hm.refl.ui (by omega)).push
  have fr4 : gr_fr (f + 1) (gr_ui t3 29 f 4) t4 := by rw [x4]; exact gr_fr.refl.push (Nat.le_refl _)
  have f8 : t4.1 0 8 = 0 := p9.trans (by rw [gr_ui_no (by decide)]; exact d8)
  have e31' : t3.1 31 f + 1 = nI (pp + 1) := by rw [e31]; exact nI_1 pp
  refine (U X c us3 nd3 (f + 1) t4 s3 (Y3.hm hm4) f8 p8 ⟨p1, p2, p3'.trans e30, p4.trans e31', p6⟩ (by omega) v3.1).bind (fun t5 x5 => ?_)
  have kp4 : gr_kp (gs_hp s0).length us k t0 t4 := (kp2.trans (d4.wk (by omega) g1.1 (by omega))).trans hm4.kp
  have hl3 := d5.len
  refine gr_O.seqF x5 kp4 (by omega) (by omega) (by omega) (fun L s5 us5 nd5 er5 g5 Y5 i8 i47 i3 i6 i4 i5 v5 => ?_)
  obtain ⟨v5c, v5l, v5s, v5p, -⟩ := v5
  have hl5 := i5.len
  have ff5 : ∀ o, 28 ≤ o → o ≤ 34 → t5.1 o f = (gr_ui t3 29 f 4).1 o f := fun o a b => (i3 o f a b (by omega)).trans (fr4 o f a b (by omega))
  have j28 : t5.1 28 f = 2 := by rw [ff5 28 (by omega) (by omega), gr_ui_no (by decide)]; exact e28
  have j29 : t5.1 29 f = 4 := by rw [ff5 29 (by omega) (by omega), gr_ui_eq]
  have j32 : t5.1 32 f = nI k := by rw [ff5 32 (by omega) (by omega), gr_ui_no (by decide)]; exact e32
  have j34 : t5.1 34 f = nI e := by rw [ff5 34 (by omega) (by omega), gr_ui_no (by decide)]; exact e34
  have kq : gr_kp 0 0 nd1 t1 t5 := ((hm2.kp.trans (d4.wk (Nat.zero_le _) (Nat.zero_le _) (Nat.le_refl _))).trans hm4.kp).trans (i4.wk (Nat.zero_le _) (Nat.zero_le _) g3.2)
  have row5 : gr_row t t5 k := v1r.trans (kq.row kn1)
  have nt5 : gr_nt t5 k fs := v1t.kp kq kn1 (by omega)
  obtain ⟨l, hl⟩ : ∃ l : gs_L, l = (q.1, q.2.1, q.2.2.1, q.2.2.2.1, fs, gs_find K q.1 q.2.1) := ⟨_, rfl⟩
  have lo : gs_own l = gs_find K q.1 q.2.1 := by rw [hl]; rfl
  have ldf : gs_df l = fs := by rw [hl]; rfl
  have D5 : gr_dl t5 K k l := by
    refine ⟨?_, ⟨?_, ?_⟩, ?_, ?_, ?_, ?_, ?_, ?_⟩
    · rw [row5.1.1, r20, lo]
    · rw [row5.1.2.1, r21, hl]; rfl
    · rw [hl]; exact hqn
    · rw [row5.1.2.2.1, r22, hl]; rfl
    · rw [row5.2, r23, hl]; rfl
    · rw [row5.1.2.2.2, r24, ldf, v1l]
    · rw [ldf]; omega
    · intro c9 hc9
      rw [lo] at hc9
      have fc := gs_find_ok hc9
      exact ⟨(Y.wf _ _ (Option.isSome_iff_exists.mp fc).choose_spec).1, fc⟩
    · rw [ldf]; exact fun j w hw => (nt5 j w hw).1
  have tys : gs_tys l := by
    unfold gs_tys
    rw [ldf]
    exact fun j w hw => (nt5 j w hw).2
  have nbb5 := Y5.nb
  have pn5 := Y5.pn
  have sz5 : gs_size s + 0 ≤ gs_size s5 := by have := a5.size; have := d5.size; have := i5.size; omega
  have szs : gs_size s = e + 1 := by
    rw [he0]
    unfold gs_size
    rw [h0s, h01, List.length_append]
    show (gs_hs s0).length + 1 - gs_f1 s0 = _
    omega
  have e130 : e < 130 := by have := Y5.hh.2.1; omega
  rw [← hl]
  refine .step i47 (by omega) i8 (gr_sd4 (by omega) i47 (by omega) j28 j29 (m_eD (s := s5) (l := l) (by omega) (by omega) (by omega) e130 i8 j32 j34 D5 Y5.C Y5.ndK (by rw [lo, hl]; rfl))) (fun t6 x6 => ?_)
  unfold gr_eDP at x6
  have kp5 : gr_kp (gs_hp s0).length us k t0 t5 := kp4.trans (i4.wk (by omega) (by omega) (by omega))
  cases em : gs_mch K l s5 with
  | error x =>
    rw [em] at x6
    obtain ⟨rfl, x6⟩ := x6
    refine .done (gr_O.er (gs_b_er em) ⟨by rw [x6, gr_ui_eq], by decide, ?_⟩)
    rw [x6]
    exact (kp5.ui (by unfold gr_pr; omega)).ui (by unfold gr_pr; omega)
  | ok w =>
    rw [em] at x6
    dsimp only at x6
    have w2 : w.2 = s5 := gs_mch_ok em
    rw [gs_b_ok (a := w.1) (s1 := w.2) em, w2]
    have i1 : gs_f1 s5 = gs_f1 s0 := by rw [i5.2.2.1, d5.2.2.1, a5.2.2.1, h01]
    have hix : (gs_hs s0).length = gs_f1 s5 + e := by rw [i1, he0]; unfold gs_size; omega
    have pre5 : gs_hs s <+: gs_hs s5 := (a5.2.1.trans d5.2.1).trans i5.2.1
    have hh5 : (gs_hs s5)[gs_f1 s5 + e]? = some (-1, []) := by
      refine gs_pre_get pre5 ?_
      rw [h0s, ← hix, List.getElem?_append_right (Nat.le_refl _), Nat.sub_self]
      rfl
    have h175 : t5.1 17 e = nI k := by
      rw [i6 e (by have := a5.size; have := d5.size; omega), hm4.1 17 e (by decide) (fun z => absurd z (by decide)), d6 e (by have := a5.size; omega), hm2.1 17 e (by decide) (fun z => absurd z (by decide)), a6 e (by omega)]
      exact h17
    obtain ⟨ta, hta⟩ : ∃ ta, ta = gr_ui t5 27 k (t5.1 0 9) := ⟨_, rfl⟩
    have Ya : gr_Y X c us5 nd5 ta K s5 := by
      rw [hta]
      exact Y5.rowx hX (fun o i ho => gr_ui_no (by omega)) (fun o i ho => rfl) (fun z hz => ⟨⟨⟨gr_ui_no (by decide), gr_ui_no (by decide), gr_ui_no (by decide), gr_ui_no (by decide)⟩, rfl⟩, gr_ui_ni hz, fun j hj => ⟨gr_ui_no (by decide), gr_ui_no (by decide)⟩⟩)
    obtain ⟨tb, htb⟩ : ∃ tb, tb = gr_ui ta 16 e 1 := ⟨_, rfl⟩
    rw [← hta, ← htb] at x6
    have v27 : tb.1 27 k = t5.1 0 9 := by rw [htb, gr_ui_no (by decide), hta, gr_ui_eq]
    have kpb : gr_kp (gs_hp s5).length us5 nd5 ta tb := by rw [htb]; exact gr_kp.refl.ui (by unfold gr_pr; omega)
    have rwb : ∀ z, z ≠ k → gr_rw t5 tb z := fun z hz => by
      rw [htb, hta]
      exact ⟨⟨⟨by rw [gr_ui_no (by decide), gr_ui_no (by decide)], by rw [gr_ui_no (by decide), gr_ui_no (by decide)], by rw [gr_ui_no (by decide), gr_ui_no (by decide)], by rw [gr_ui_no (by decide), gr_ui_no (by decide)]⟩, rfl⟩, by rw [gr_ui_no (by decide), gr_ui_ni hz], fun j hj => ⟨by rw [gr_ui_no (by decide), gr_ui_no (by decide)], by rw [gr_ui_no (by decide), gr_ui_no (by decide)]⟩⟩
    have Db : gr_dl tb K k l := by
      obtain ⟨y0, y1, y2, y3, y4, y5, y6, y7⟩ := D5
      have o : ∀ o i, o ≠ 16 → o ≠ 27 → tb.1 o i = t5.1 o i := fun o i a b => by rw [htb, hta, gr_ui_no a, gr_ui_no b]
      refine ⟨by rw [o _ _ (by decide) (by decide)]; exact y0, ⟨by rw [o _ _ (by decide) (by decide)]; exact y1.1, y1.2⟩, by rw [o _ _ (by decide) (by decide)]; exact y2, by rw [htb, hta]; exact y3, by rw [o _ _ (by decide) (by decide)]; exact y4, y5, y6, fun n p hp => ?_⟩
      rw [o _ _ (by decide) (by decide), o _ _ (by decide) (by decide)]
      exact y7 n p hp
    have chb : gr_chn (gr_NX (fun x => X x ∧ x ≠ k) nd5) tb K (l :: L) (nI k) := by
      refine ⟨k, rfl, ⟨by omega, fun z => z.2 rfl⟩, ⟨Db, tys⟩, ?_⟩
      rw [v27]
      exact (v5c.rw (fun z hz => rwb z (fun y => hz.2 (by rw [y]; exact hX)))).up (fun z hz => ⟨hz.1, fun y => hz.2 y.1⟩)
    have Yb : gr_Y (fun x => X x ∧ x ≠ k) c us5 nd5 tb K (s5.1, s5.2.1, (gs_hs s5).modify (gs_f1 s5 + e) (fun q => (q.1, l :: L)), gs_f1 s5) := by
      refine Ya.modE (i := e) (w := (-1, [])) (w' := (-1, l :: L)) (by omega) hh5 rfl kpb (fun j hj => by rw [htb, gr_ui_no (by decide)]) (fun j hj hne => by rw [htb, gr_ui_ni hne, gr_ui_no (by decide)]; exact ⟨rfl, rfl⟩) (Or.inr (Or.inl ⟨by rw [htb, gr_ui_eq], rfl, by simp, ?_⟩)) (fun z hz => hz.1) (fun z => absurd (show (-1 : Int32) < 0 by decide) z) (Or.inr ⟨rfl, rfl, by show (l :: L).length ≤ _; simp; omega⟩)
      have : tb.1 17 e = nI k := by rw [htb, gr_ui_no (by decide), hta, gr_ui_no (by decide)]; exact h175
      rw [this]
      exact chb
    have S6 : gs_b (gs_setD (gs_hs s0).length (l :: L)) (fun _ => gs_r (l :: L)) s5 = .ok (l :: L, (s5.1, s5.2.1, (gs_hs s5).modify (gs_f1 s5 + e) (fun q => (q.1, l :: L)), gs_f1 s5)) := by rw [hix]; rfl
    rw [S6, x6]
    have tb8 : tb.1 0 8 = 0 := by rw [htb, gr_ui_no (by decide), hta, gr_ui_no (by decide)]; exact i8
    have tb47 : tb.1 0 47 = nI (f + 1) := by rw [htb, gr_ui_no (by decide), hta, gr_ui_no (by decide)]; exact i47
    have kpz : gr_kp (gs_hp s0).length us k t0 tb := by
      rw [htb, hta]
      exact (kp5.ui (by unfold gr_pr; omega)).ui (by unfold gr_pr; omega)
    have frz : gr_fr f t0 tb := by
      have : gr_fr f t0 t5 := (((F0.trans (a3.wk (Nat.le_refl _))).trans (gr_fr.trans (gr_fr.refl.ui (by omega)) (fr2.wk (Nat.le_succ f)))).trans ((d3.wk (Nat.le_succ f)).trans (gr_fr.trans (gr_fr.refl.ui (by omega)) (fr4.wk (Nat.le_succ f))))).trans (i3.wk (Nat.le_succ f))
      rw [htb, hta]
      exact (this.ui (by omega)).ui (by omega)
    have ehz : gr_eh (gs_size s0) t0 tb := by
      have : gr_eh (gs_size s0) t0 t5 := ((((E0.trans (a6.wk (by omega))).trans hm2.eh).trans (d6.wk (by have := a5.size; omega))).trans hm4.eh).trans (i6.wk (by have := a5.size; have := d5.size; omega))
      rw [htb, hta]
      exact (this.ui (by omega)).ui (by omega)
    have apz : gs_ap s0 (s5.1, s5.2.1, (gs_hs s5).modify (gs_f1 s5 + e) (fun q => (q.1, l :: L)), gs_f1 s5) := by
      refine ⟨?_, ?_, i1, ?_⟩
      · show gs_hp s0 <+: gs_hp s5
        rw [← h0p]
        exact (a5.1.trans d5.1).trans i5.1
      · show gs_hs s0 <+: (gs_hs s5).modify _ _
        refine gs_pre_mod ?_ (by omega)
        refine List.IsPrefix.trans ?_ pre5
        rw [h0s]
        exact List.prefix_append _ _
      · show gs_pl s0 ≤ gs_pl s5
        have := i5.2.2.2
        omega
    refine .done (gr_O.give rfl ⟨by omega, by omega⟩ Yb tb8 tb47 frz ehz kpz apz ⟨?_, ?_, ?_, by omega, by show gs_pl s ≤ gs_pl s5; omega⟩)
    · rw [(gr_give8 tb8 tb47).2]
      exact chb.kp (gr_hm.kp (hb := 0) (ub := 0) (nb := nd5) gr_hm.refl.give) (fun z hz => hz.1)
    · have cnt := (gs_cnt_mod (p := gs_isd) (f := fun q => (q.1, l :: L)) (gs_hs s5) _ (-1, []) hh5).1 rfl rfl
      show (l :: L).length ≤ ((gs_hs s5).modify (gs_f1 s5 + e) _).countP gs_isd
      rw [cnt]
      unfold gs_dn at v5l
      simp
      omega
    · show 14 * (((gs_hs s5).modify (gs_f1 s5 + e) _).length - gs_f1 s5) ≤ B + gs_pl s5
      rw [List.length_modify]
      exact v5s
end NE
