/-! THE REFERENCE, 35: all fields of a descriptor. -/
section N8
variable {X N : Nat → Prop} {E : Nat → Value} {d m f n p dp c us nd k j cnt : Nat} {h : gm_H} {t t' : gr_t} {K : gs_K} {s s' s'' : gs_S} {rc : gs_M Int32} {P : gr_t → Prop}
/-- the names and types of the fields so far -/
def gr_nt (t : gr_t) (k : Nat) (fs : List (Int32 × Int32)) : Prop := ∀ (j : Nat) (q : Int32 × Int32), fs[j]? = some q → (t.1 25 (8 * k + j) = gr_nm q.1 ∧ t.1 26 (8 * k + j) = q.2) ∧ ∃ ty, ty < 8 ∧ q.2 = nI ty
/-- the rest of a descriptor's row -/
def gr_row (t t' : gr_t) (k : Nat) : Prop := (t'.1 20 k = t.1 20 k ∧ t'.1 21 k = t.1 21 k ∧ t'.1 22 k = t.1 22 k ∧ t'.1 24 k = t.1 24 k) ∧ t'.2 23 k = t.2 23 k
/-- a whole row -/
def gr_rw (t t' : gr_t) (k : Nat) : Prop := gr_row t t' k ∧ t'.1 27 k = t.1 27 k ∧ ∀ j, j < 8 → t'.1 25 (8 * k + j) = t.1 25 (8 * k + j) ∧ t'.1 26 (8 * k + j) = t.1 26 (8 * k + j)
/-- a descriptor's frame, but for state and count -/
def gr_df (t t' : gr_t) (f : Nat) : Prop := t'.1 28 f = t.1 28 f ∧ t'.1 30 f = t.1 30 f ∧ t'.1 31 f = t.1 31 f ∧ t'.1 32 f = t.1 32 f ∧ t'.1 34 f = t.1 34 f
theorem gr_row.refl : gr_row t t k := ⟨⟨rfl, rfl, rfl, rfl⟩, rfl⟩
theorem gr_row.trans {t'' : gr_t} (a : gr_row t t' k) (b : gr_row t' t'' k) : gr_row t t'' k := ⟨⟨b.1.1.trans a.1.1, b.1.2.1.trans a.1.2.1, b.1.2.2.1.trans a.1.2.2.1, b.1.2.2.2.trans a.1.2.2.2⟩, b.2.trans a.2⟩
theorem gr_df.refl : gr_df t t f := ⟨rfl, rfl, rfl, rfl, rfl⟩
theorem gr_df.trans {t'' : gr_t} (a : gr_df t t' f) (b : gr_df t' t'' f) : gr_df t t'' f := ⟨b.1.trans a.1, b.2.1.trans a.2.1, b.2.2.1.trans a.2.2.1, b.2.2.2.1.trans a.2.2.2.1, b.2.2.2.2.trans a.2.2.2.2⟩
theorem gr_kp.row {hb ub nb : Nat} (q : gr_kp hb ub nb t t') (hk : k < nb) : gr_row t t' k := ⟨⟨q.1 _ _ (by unfold gr_pr; omega), q.1 _ _ (by unfold gr_pr; omega), q.1 _ _ (by unfold gr_pr; omega), q.1 _ _ (by unfold gr_pr; omega)⟩, q.2 _ _ (by unfold gr_prl; omega)⟩
theorem gr_fr.df (q : gr_fr n t t') (hf : f < n) : gr_df t t' f := ⟨q _ _ (by omega) (by omega) hf, q _ _ (by omega) (by omega) hf, q _ _ (by omega) (by omega) hf, q _ _ (by omega) (by omega) hf, q _ _ (by omega) (by omega) hf⟩
theorem gr_nt.kp {hb ub nb : Nat} {fs : List (Int32 × Int32)} (q : gr_kp hb ub nb t t') (hk : k < nb) (hl : fs.length ≤ 8) (x : gr_nt t k fs) : gr_nt t' k fs := by
  intro j w hw
  have := (List.getElem?_eq_some_iff.mp hw).1
  rw [q.1 _ _ (by unfold gr_pr; omega), q.1 _ _ (by unfold gr_pr; omega)]
  exact x j w hw
theorem gr_dl.rw {l : gs_L} (q : gr_rw t t' k) (D : gr_dl t K k l) : gr_dl t' K k l := by
  obtain ⟨a, b, c, e, f, g, i, j⟩ := D
  obtain ⟨⟨⟨r1, r2, r3, r4⟩, r5⟩, r6, r7⟩ := q
  refine ⟨r1.trans a, ⟨r2.trans b.1, b.2⟩, r3.trans c, r5.trans e, r4.trans f, g, i, fun n p hp => ?_⟩
  have := (List.getElem?_eq_some_iff.mp hp).1
  rw [(r7 n (by omega)).1, (r7 n (by omega)).2]
  exact j n p hp
theorem gr_chn.rw (q : ∀ k, N k → gr_rw t t' k) : ∀ (L : List gs_L) (i : Int32), gr_chn N t K L i → gr_chn N t' K L i
  | [], _, c => c
  | l :: L, i, ⟨k, k0, k1, k2, k3⟩ => ⟨k, k0, k1, ⟨k2.1.rw (q k k1), k2.2⟩, by rw [(q k k1).2.1]; exact gr_chn.rw q L _ k3⟩
/-- the row of a descriptor under way may change -/
theorem gr_Y.rowx (Y : gr_Y X c us nd t K s) (hk : X k) (z : ∀ o i, (o < 20 ∨ 27 < o) → t'.1 o i = t.1 o i) (z2 : ∀ o i, o ≠ 23 → t'.2 o i = t.2 o i) (rows : ∀ q, q ≠ k → gr_rw t t' q) : gr_Y X c us nd t' K s := by
  have q : gr_kp (gs_hp s).length us 0 t t' := ⟨fun o i ho => z o i (by unfold gr_pr at ho; omega), fun o i ho => z2 o i (by unfold gr_prl at ho; omega)⟩
  exact
  gr_Y.mk
    (lm := q.lm Y.lm)
    (B := q.gB Y.B)
    (C := q.gC Y.C)
    (wf := Y.wf)
    (ndK := Y.ndK)
    (pl := (z _ _ (by omega)).trans Y.pl)
    (pn := Y.pn)
    (pp := ⟨(z _ _ (by omega)).trans Y.pp.1, fun i o ho => (Y.pp.2 i o ho).kp q (List.getElem?_eq_some_iff.mp ho).1 (Nat.le_refl _) (Nat.le_refl _)⟩)
    (hh := by
      refine ⟨(z _ _ (by omega)).trans Y.hh.1, Y.hh.2.1, Y.hh.2.2.1, fun i w hi hw => ?_⟩
      have e := Y.hh.2.2.2 i w hi hw
      unfold gr_enn at e ⊢
      rw [z 16 i (by omega), z 17 i (by omega)]
      rcases e with e | ⟨a, b, c, d⟩ | e | e
      · exact Or.inl e
      · exact Or.inr (Or.inl ⟨a, b, c, d.rw (fun q hq => rows q (fun e => hq.2 (by rw [e]; exact hk)))⟩)
      · exact Or.inr (Or.inr (Or.inl e))
      · exact Or.inr (Or.inr (Or.inr e)))
    (xb := Y.xb)
    (u := (z _ _ (by omega)).trans Y.u)
    (ub := Y.ub)
    (n := (z _ _ (by omega)).trans Y.n)
    (nb := Y.nb)
    (dj := Y.dj.kp q (Nat.le_refl _))
    (hin := Y.hin)
    (lok := Y.lok)
    (hb := Y.hb)
    (eb := Y.eb)
theorem gs_sort_is {v : Int32} (Y : gr_Y X c us nd t K s) (hv : v = -2 ∨ ∃ x, x < (gs_hp s).length ∧ v = nI x) : (gs_sort s v = 1 ↔ ¬ (v < 0 ∨ t.1 10 v.toNatClampNeg ≠ 1)) := by
  rcases hv with rfl | ⟨x, hx, rfl⟩
  · have : gs_sort s (-2) = -1 := by unfold gs_sort; rw [if_pos (by decide)]
    rw [this]
    constructor
    · intro z; exact absurd z (by decide)
    · intro z; exact absurd (Or.inl (by decide)) z
  · have b1 := Y.hb
    have b2 := Y.pn
    have b3 := Y.n7
    have n0 : ¬ nI x < 0 := nI_pos (by omega)
    have e : gs_sort s (nI x) = (gs_hp s)[x].1 := by
      unfold gs_sort
      rw [if_neg n0]
      rw [dif_pos (by rw [nI_clamp (by omega)]; exact hx)]
      simp only [nI_clamp (show x < 2 ^ 31 by omega)]
    have o := (Y.pp.2 x _ (List.getElem?_eq_getElem hx)).1
    rw [e, nI_clamp (by omega), o]
    constructor
    · intro z y
      rcases y with y | y
      · exact n0 y
      · exact y z
    · intro z
      by_cases y : (gs_hp s)[x].1 = 1
      · exact y
      · exact absurd (Or.inr y) z
/-- what the fields leave: the frame as before but for the count, the row with its names -/
def gr_VF (t : gr_t) (f k nd B len : Nat) (fs : List (Int32 × Int32)) (s' : gs_S) (nd' : Nat) (t' : gr_t) : Prop := nd ≤ nd' ∧ gr_df t t' f ∧ t'.1 29 f = 1 ∧ t'.1 33 f = nI fs.length ∧ fs.length = len ∧ gr_nt t' k fs ∧ gr_row t t' k ∧ 14 * gs_size s' ≤ B + gs_pl s'
theorem gr_flds (RC : gr_RC E d h m K (dp + 1) rc) (hd : 12 ≤ d) (hdp : 1 ≤ dp ∧ dp ≤ 8) {B : Nat} (hB : 14 * (69 - dp) ≤ B) : ∀ (r : Nat) (fs : List (Int32 × Int32)) (X : Nat → Prop) (c us nd f k : Nat) (t : gr_t) (s : gs_S), gr_Y X c us nd t K s → t.1 0 8 = 0 → t.1 0 47 = nI (f + 1) → (t.1 28 f = 2 ∧ t.1 29 f = 1 ∧ t.1 30 f = nI dp ∧ t.1 32 f = nI k ∧ t.1 33 f = nI fs.length) → X k → t.1 24 k = nI (fs.length + r) → fs.length + r ≤ 8 → gr_nt t k fs → 14 * f + 14 ≤ 42 * dp + gs_pl s → 14 * gs_size s ≤ B + gs_pl s →
    gr_Rn E d h m (gr_O K X c us k f (f + 1) t s (gr_VF t f k nd B (fs.length + r)) (gs_flds K rc r fs s)) t := by
  intro r
  induction r with
  | zero =>
    intro fs X c us nd f k t s Y h8 h47 hf hk h24 hl nt h14 hsz
    have kn := Y.xb k hk
    exact .done (gr_O.ok rfl ⟨Nat.le_refl _, by omega⟩ Y ⟨h8, h47⟩ gr_fr.refl gr_eh.refl gr_kp.refl gs_ap.refl ⟨Nat.le_refl _, gr_df.refl, hf.2.1, hf.2.2.2.2, rfl, nt, gr_row.refl, hsz⟩)
  | succ r ih =>
    intro fs X c us nd f k t s Y h8 h47 hf hk h24 hl nt h14 hsz
    obtain ⟨f28, f29, f30, f32, f33⟩ := hf
    have kn := Y.xb k hk
    have n7 := Y.n7
    have pn := Y.pn
    have nb := Y.nb
    have f80 : f < 79 := by omega
    have st := gr_sd1 (E := E) (d := d) (m := m) (h := h) (by omega) h47 (by omega) f28 f29 (m_nf (E := E) (d := d - 2) (m := m) (h := h) (s := s) (by omega) f80 h47 (by omega) h8 f32 f33 h24 (by omega) hl Y.B Y.pl pn)
    refine .step h47 (by omega) h8 st (fun t1 e1 => ?_)
    obtain ⟨e1a, e1b⟩ := e1
    rcases Nat.lt_or_ge (gs_pl s) (gs_n K) with z | z
    · have e1 := e1b z
      have S1 : gs_flds K rc (r + 1) fs s = (match gs_types.findIdx? (· == (gs_sb K (gs_pl s) &&& 255)) with
        | none => gs_x (-5)
        | some t => gs_b (gs_utf K) fun a => gs_b gs_g fun s =>
          if t < 6 then gs_flds K rc r (fs ++ [(gs_let K a (gs_pl s - a) 97 26, nI t)])
          else gs_b rc fun v => fun s' => if gs_sort s' v = 1 then gs_flds K rc r (fs ++ [(gs_let K a (gs_pl s - a) 97 26, nI t)]) s' else .error (-4)) (gs_p (gs_pl s + 1) s) := gs_b_ok (gs_u1_y z)
      rw [S1]
      rcases gr_ty_of (v := gs_sb K (gs_pl s) &&& 255) with ⟨y1, -⟩ | ⟨ty, y0, y1, -⟩
      · rw [y1] at e1 ⊢
        subst e1
        exact .done (gr_O.er rfl (gr_F.ui (by decide) (gr_kp.refl.ui (by unfold gr_pr; omega))))
      · rw [y1] at e1 ⊢
        dsimp only at e1 ⊢
        cases eu : gs_utf K (gs_p (gs_pl s + 1) s) with
        | error x =>
          rw [eu] at e1
          exact .done (gr_O.er (gs_b_er eu) ((gr_er.F e1).from (gr_kp.refl.ui (by unfold gr_pr; omega)) (Nat.le_refl _) (Nat.le_refl _) (Nat.le_refl _)))
        | ok w =>
          rw [eu] at e1
          dsimp only at e1
          obtain ⟨u1, u2, u3, u4⟩ := gs_utf_ok (a := w.1) (s1 := w.2) eu (by show gs_pl s + 1 ≤ _; omega)
          have u1 : w.1 = gs_pl s + 3 := u1
          have w2 : w.2.2 = s.2 := by rw [u4]; rfl
          rw [gs_b_ok (a := w.1) (s1 := w.2) eu, gs_b_ok (m := gs_g) (a := w.2) (s1 := w.2) rfl]
          obtain ⟨nm, hnm⟩ : ∃ nm, nm = gs_let K w.1 (gs_pl w.2 - w.1) 97 26 := ⟨_, rfl⟩
          rw [← hnm] at e1 ⊢
          obtain ⟨t2, ht2⟩ : ∃ t2, t2 = gr_ui (gr_ui (gr_ui (gr_ui t 0 6 (nI (gs_pl w.2))) 25 (8 * k + fs.length) (gr_nm nm)) 26 (8 * k + fs.length) (nI ty)) 33 f (nI (fs.length + 1)) := ⟨_, rfl⟩
          rw [← ht2] at e1
          have Y1 := (Y.to (k := 0) w2 (by omega) u3)
          have Y2 : gr_Y X c us nd t2 K w.2 := by
            have Y2 := Y1.rowx (t' := gr_ui (gr_ui (gr_ui t 0 6 (nI (gs_pl w.2))) 25 (8 * k + fs.length) (gr_nm nm)) 26 (8 * k + fs.length) (nI ty)) hk (fun o i ho => by rw [gr_ui_no (by omega), gr_ui_no (by omega)]) (fun o i ho => rfl) (fun q hq => ⟨⟨⟨by rw [gr_ui_no (by decide), gr_ui_no (by decide)], by rw [gr_ui_no (by decide), gr_ui_no (by decide)], by rw [gr_ui_no (by decide), gr_ui_no (by decide)], by rw [gr_ui_no (by decide), gr_ui_no (by decide)]⟩, rfl⟩, by rw [gr_ui_no (by decide), gr_ui_no (by decide)], fun j hj => ⟨by rw [gr_ui_no (by decide), gr_ui_ni (by omega)], by rw [gr_ui_ni (by omega), gr_ui_no (by decide)]⟩⟩)
            rw [ht2]
            exact Y2.hm (gr_hm.refl.ui (by omega))
          have k2 : gr_kp (gs_hp s).length us k t t2 := by rw [ht2]; exact (((gr_kp.refl.ui (by unfold gr_pr; omega)).ui (by unfold gr_pr; omega)).ui (by unfold gr_pr; omega)).ui (by unfold gr_pr; omega)
          have eh2 : gr_eh (gs_size s) t t2 := by rw [ht2]; exact (((gr_eh.refl.ui (by omega)).ui (by omega)).ui (by omega)).ui (by omega)
          have fr2 : gr_fr f t t2 := by rw [ht2]; exact (((gr_fr.refl.ui (by omega)).ui (by omega)).ui (by omega)).ui (by omega)
          have ap2 : gs_ap s w.2 := ⟨by unfold gs_hp; rw [w2]; exact List.prefix_refl _, by unfold gs_hs; rw [w2]; exact List.prefix_refl _, by unfold gs_f1; rw [w2], by omega⟩
          have sz2 : gs_size w.2 = gs_size s := by unfold gs_size gs_hs gs_f1; rw [w2]
          have t2v : ∀ o i, o ≠ 0 → o ≠ 25 → o ≠ 26 → o ≠ 33 → t2.1 o i = t.1 o i := fun o i a b e g => by rw [ht2, gr_ui_no g, gr_ui_no e, gr_ui_no b, gr_ui_no a]
          have t20 : ∀ i, i ≠ 6 → t2.1 0 i = t.1 0 i := fun i hi => by rw [ht2, gr_ui_no (by decide), gr_ui_no (by decide), gr_ui_no (by decide), gr_ui_ni hi]
          have t233 : t2.1 33 f = nI (fs.length + 1) := by rw [ht2, gr_ui_eq]
          have df2 : gr_df t t2 f := ⟨t2v _ _ (by decide) (by decide) (by decide) (by decide), t2v _ _ (by decide) (by decide) (by decide) (by decide), t2v _ _ (by decide) (by decide) (by decide) (by decide), t2v _ _ (by decide) (by decide) (by decide) (by decide), t2v _ _ (by decide) (by decide) (by decide) (by decide)⟩
          have row2 : gr_row t t2 k := ⟨⟨t2v _ _ (by decide) (by decide) (by decide) (by decide), t2v _ _ (by decide) (by decide) (by decide) (by decide), t2v _ _ (by decide) (by decide) (by decide) (by decide), t2v _ _ (by decide) (by decide) (by decide) (by decide)⟩, by rw [ht2]; rfl⟩
          have nt2 : gr_nt t2 k (fs ++ [(nm, nI ty)]) := by
            intro j q hq
            rcases gs_app hq with ⟨y, y'⟩ | ⟨i, rfl, y'⟩
            · rw [ht2, gr_ui_no (by decide), gr_ui_no (by decide), gr_ui_ni (by omega), gr_ui_no (by decide), gr_ui_no (by decide), gr_ui_ni (by omega), gr_ui_no (by decide), gr_ui_no (by decide)]
              exact nt j q y'
            · have i0 : i = 0 := by
                have := (List.getElem?_eq_some_iff.mp y').1
                simp at this
                exact this
              subst i0
              have : q = (nm, nI ty) := by simpa using y'.symm
              subst this
              refine ⟨⟨?_, ?_⟩, ty, y0, rfl⟩
              · rw [ht2, gr_ui_no (by decide), gr_ui_no (by decide)]; exact gr_ui_eq
              · rw [ht2, gr_ui_no (by decide)]; exact gr_ui_eq
          have len1 : (fs ++ [(nm, nI ty)]).length = fs.length + 1 := by simp
          have l24 : ∀ t3 : gr_t, t3.1 24 k = t.1 24 k → t3.1 24 k = nI ((fs ++ [(nm, nI ty)]).length + r) := fun t3 e => by rw [e, h24, len1]; congr 1; omega
          by_cases c6 : ty < 6
          · rw [if_pos c6] at e1 ⊢
            subst e1
            refine (ih _ X c us nd f k t1 w.2 Y2 ((t20 _ (by decide)).trans h8) ((t20 _ (by decide)).trans h47) ⟨df2.1.trans f28, (t2v _ _ (by decide) (by decide) (by decide) (by decide)).trans f29, df2.2.1.trans f30, df2.2.2.2.1.trans f32, by rw [len1]; exact t233⟩ hk (l24 _ row2.1.2.2.2) (by rw [len1]; omega) nt2 (by omega) (by omega)).mono (fun t4 q4 => ?_)
            refine (q4.from (f := f) ⟨Nat.le_refl us, Nat.le_refl k⟩ fr2 (Nat.le_refl _) eh2 k2 ap2).mono (fun a s3 nd3 y => ?_)
            exact ⟨y.1, df2.trans y.2.1, y.2.2.1, y.2.2.2.1, by rw [y.2.2.2.2.1, len1]; omega, y.2.2.2.2.2.1, row2.trans y.2.2.2.2.2.2.1, y.2.2.2.2.2.2.2⟩
          · rw [if_neg c6] at e1 ⊢
            obtain ⟨p1, p2, p3, p4, p5, p6, p7, p8, p9⟩ := gr_push_fr (t := gr_ui t2 29 f 2) (tp := f + 1) (k := 1) (dd := t.1 30 f + 1) (a := 0) (b := 0)
            rw [← e1] at p1 p2 p3 p4 p5 p6 p7 p8 p9
            have e30 : t.1 30 f + 1 = nI (dp + 1) := by rw [f30]; exact nI_1 dp
            have hm1 : gr_hm t2 t1 := by rw [e1]; exact (gr_hm.refl.ui (by omega)).push
            have fr1 : gr_fr (f + 1) (gr_ui t2 29 f 2) t1 := by rw [e1]; exact gr_fr.refl.push (Nat.le_refl _)
            have a8 : t1.1 0 8 = 0 := p9.trans (by rw [gr_ui_no (by decide)]; exact (t20 _ (by decide)).trans h8)
            refine (RC X c us nd (f + 1) t1 w.2 (Y2.hm hm1) a8 p8 ⟨p1, p2, p3.trans e30⟩ (by omega) (fun q => by omega)).bind (fun t3 q3 => ?_)
            refine gr_O.seqF q3 (k2.trans hm1.kp) (by rw [show gs_hp w.2 = gs_hp s by unfold gs_hp; rw [w2]]; exact Nat.le_refl _) (Nat.le_refl us) (by omega) (fun v s3 us3 nd3 er g1 Y3 g8 g47 g3 g6 g4 g5 vv => ?_)
            obtain ⟨v1, v2, v3, v4⟩ := vv
            have ff : ∀ o, 28 ≤ o → o ≤ 34 → t3.1 o f = (gr_ui t2 29 f 2).1 o f := fun o a b => (g3 o f a b (by omega)).trans (fr1 o f a b (by omega))
            have d3 : gr_df t2 t3 f := ⟨(ff 28 (by omega) (by omega)).trans (gr_ui_no (by decide)), (ff 30 (by omega) (by omega)).trans (gr_ui_no (by decide)), (ff 31 (by omega) (by omega)).trans (gr_ui_no (by decide)), (ff 32 (by omega) (by omega)).trans (gr_ui_no (by decide)), (ff 34 (by omega) (by omega)).trans (gr_ui_no (by decide))⟩
            have d3' := df2.trans d3
            have r3 : gr_row t t3 k := row2.trans ((hm1.kp (hb := 0) (ub := 0) (nb := nd)).row kn |>.trans (g4.row kn))
            have b1 := Y3.hb
            have b2 := Y3.pn
            have n0 := Y3.n7
            have hx : ¬ v < 0 → ∃ i, i < 720 ∧ v = nI i := by
              intro hi
              rcases v2 with z2 | ⟨x, x1, x2⟩
              · rw [z2] at hi; exact absurd (by decide) hi
              · exact ⟨x, by omega, x2⟩
            refine .step g47 (by omega) g8 (gr_sd2 (by omega) g47 (by omega) (d3'.1.trans f28) ((ff 29 (by omega) (by omega)).trans gr_ui_eq) g8 v1 hx) (fun t4 e4 => ?_)
            have iff := gs_sort_is Y3 v2
            by_cases c1 : gs_sort s3 v = 1
            · have ng := iff.mp c1
              have e4 := e4.2 ⟨fun q => ng (Or.inl q), Classical.byContradiction (fun q => ng (Or.inr q))⟩
              rw [if_pos c1]
              have hm4 : gr_hm t3 t4 := by rw [e4]; exact gr_hm.refl.ui (by omega)
              have d4 : gr_df t3 t4 f := by rw [e4]; exact ⟨gr_ui_no (by decide), gr_ui_no (by decide), gr_ui_no (by decide), gr_ui_no (by decide), gr_ui_no (by decide)⟩
              have d4' := d3'.trans d4
              have r4 : gr_row t t4 k := r3.trans ((hm4.kp (hb := 0) (ub := 0) (nb := nd)).row kn)
              have nt4 : gr_nt t4 k (fs ++ [(nm, nI ty)]) := (((nt2.kp (hm1.kp (hb := 0) (ub := 0) (nb := nd)) kn (by rw [len1]; omega)).kp g4 kn (by rw [len1]; omega))).kp (hm4.kp (hb := 0) (ub := 0) (nb := nd)) kn (by rw [len1]; omega)
              have c33 : t4.1 33 f = nI (fs ++ [(nm, nI ty)]).length := by
                rw [e4, gr_ui_no (by decide), ff 33 (by omega) (by omega), gr_ui_no (by decide), len1]
                exact t233
              have kp4 : gr_kp (gs_hp s).length us k t t4 := (k2.trans hm1.kp).trans ((g4.wk (by rw [show gs_hp w.2 = gs_hp s by unfold gs_hp; rw [w2]]; exact Nat.le_refl _) (Nat.le_refl _) (by omega)).trans hm4.kp)
              have fr4 : gr_fr f t t4 := fr2.trans ((gr_fr.trans (gr_fr.refl.ui (by omega)) (fr1.wk (Nat.le_succ f))).trans ((g3.wk (Nat.le_succ f)).trans (by rw [e4]; exact gr_fr.refl.ui (by omega))))
              refine (ih _ X c us3 nd3 f k t4 s3 (Y3.hm hm4) (by rw [e4, gr_ui_no (by decide)]; exact g8) (by rw [e4, gr_ui_no (by decide)]; exact g47) ⟨d4'.1.trans f28, by rw [e4, gr_ui_eq], d4'.2.1.trans f30, d4'.2.2.2.1.trans f32, c33⟩ hk (l24 _ r4.1.2.2.2) (by rw [len1]; omega) nt4 (by omega) (by omega)).mono (fun t5 q5 => ?_)
              refine (q5.from (f := f) ⟨g1.1, Nat.le_refl k⟩ fr4 (Nat.le_refl _) (eh2.trans (hm1.eh.trans ((g6.wk ap2.size).trans hm4.eh))) kp4 (ap2.trans g5)).mono (fun a s5 nd5 y => ?_)
              exact ⟨Nat.le_trans g1.2 y.1, d4'.trans y.2.1, y.2.2.1, y.2.2.2.1, by rw [y.2.2.2.2.1, len1]; omega, y.2.2.2.2.2.1, r4.trans y.2.2.2.2.2.2.1, y.2.2.2.2.2.2.2⟩
            · have ng : v < 0 ∨ t3.1 10 v.toNatClampNeg ≠ 1 := Classical.byContradiction (fun q => c1 (iff.mpr q))
              have e4 := e4.1 ng
              rw [if_neg c1]
              have kp4 : gr_kp (gs_hp s).length us k t t3 := (k2.trans hm1.kp).trans (g4.wk (by rw [show gs_hp w.2 = gs_hp s by unfold gs_hp; rw [w2]]; exact Nat.le_refl _) (Nat.le_refl _) (by omega))
              refine .done (gr_O.er rfl ⟨?_, by decide, ?_⟩)
              · rw [e4, gr_ui_no (by decide), gr_ui_eq]
              · rw [e4]; exact (kp4.ui (by unfold gr_pr; omega)).ui (by unfold gr_pr; omega)
    · have e1 := e1a z
      subst e1
      exact .done (gr_O.er (gs_b_er (gs_u1_n z)) (gr_F.ui (by decide) gr_kp.refl))
end N8
