/-! THE REFERENCE, 54: the levels of an object's data. -/
section NR
variable {X N : Nat → Prop} {E : Nat → Value} {d m f n p dp c us nd k e o r j cnt hb ub nb B pp at_ ca us0 nd0 : Nat} {h : gm_H} {t t' t0 t1 : gr_t} {K : gs_K} {s s' s'' s0 : gs_S} {rc : gs_M Int32} {P : gr_t → Prop} {l : gs_L} {L : List gs_L} {Q : gm_R → gm_H → Prop} {leaf st : Int32} {cc : Option Nat}
/-- what an object tells beside its values -/
theorem gr_Y.ext {w : gs_O} {v : Int32} (Y : gr_Y X c us nd t K s) (hw : (gs_hp s)[o]? = some w) : gr_Y X c us nd (gr_ui t 14 o v) K (s.1, (gs_hp s).modify o (fun ob => (ob.1, ob.2.1, ob.2.2.1, ob.2.2.2.1, v)), s.2.2) := by
  have z : ∀ q i, q ≠ 14 → (gr_ui t 14 o v).1 q i = t.1 q i := fun q i hq => gr_ui_no hq
  have kpz : gr_kp 0 us nd t (gr_ui t 14 o v) := gr_kp.refl.ui (by unfold gr_pr; omega)
  have get : ∀ i w2, ((gs_hp s).modify o (fun ob => (ob.1, ob.2.1, ob.2.2.1, ob.2.2.2.1, v)))[i]? = some w2 → ∃ w1, (gs_hp s)[i]? = some w1 ∧ w2.1 = w1.1 ∧ w2.2.1 = w1.2.1 ∧ w2.2.2.1 = w1.2.2.1 ∧ w2.2.2.2.1 = w1.2.2.2.1 ∧ ((i = o ∧ w2.2.2.2.2 = v) ∨ (i ≠ o ∧ w2.2.2.2.2 = w1.2.2.2.2)) := by
    intro i w2 h2
    rcases gs_mod_get hw h2 with ⟨y1, y2⟩ | ⟨y1, y2⟩
    · exact ⟨w, by rw [y1]; exact hw, by rw [y2], by rw [y2], by rw [y2], by rw [y2], Or.inl ⟨y1, by rw [y2]⟩⟩
    · exact ⟨w2, y2, rfl, rfl, rfl, rfl, Or.inr ⟨y1, rfl⟩⟩
  exact gr_Y.mk
    (lm := kpz.lm Y.lm)
    (B := kpz.gB Y.B)
    (C := kpz.gC Y.C)
    (wf := Y.wf)
    (ndK := Y.ndK)
    (pl := (z 0 6 (by decide)).trans Y.pl)
    (pn := Y.pn)
    (pp := by
      refine ⟨((z 0 23 (by decide)).trans Y.pp.1).trans (by show _ = nI ((gs_hp s).modify o _).length; rw [List.length_modify]), fun i w2 h2 => ?_⟩
      obtain ⟨w1, g0, g1, g2, g3, g4, g5⟩ := get i w2 h2
      obtain ⟨p1, p2, p3, p4, p5, p6, p7, p8, p9⟩ := Y.pp.2 i w1 g0
      refine ⟨by rw [z 10 i (by decide), g1]; exact p1, by rw [g1]; exact p2, by rw [z 11 i (by decide), g2]; exact p3, by rw [g2]; exact p4, ?_, by rw [z 12 i (by decide), g1, g3, g4]; exact p6, by rw [g3]; exact p7, by rw [g1, g3]; exact p8, ?_⟩
      · rcases g5 with ⟨rfl, y⟩ | ⟨y1, y2⟩
        · rw [gr_ui_eq, y]
        · rw [gr_ui_ni y1, y2]; exact p5
      · unfold gr_ov at p9 ⊢
        rw [g1, g3, z 13 i (by decide)]
        exact p9)
    (hh := ⟨(z 0 28 (by decide)).trans Y.hh.1, Y.hh.2.1, Y.hh.2.2.1, fun i w hi hw => (Y.hh.2.2.2 i w hi hw).kp kpz (fun k hk => hk.1) (fun k hk => hk) (z 16 i (by decide)) (z 17 i (by decide))⟩)
    (xb := Y.xb)
    (u := (z 0 25 (by decide)).trans Y.u)
    (ub := Y.ub)
    (n := (z 0 39 (by decide)).trans Y.n)
    (nb := Y.nb)
    (dj := by
      intro i k oi ok hik hi hk si sk
      obtain ⟨w1, g1, g2, -, g3, -⟩ := get i oi hi
      obtain ⟨w3, g4, g5, -, g6, -⟩ := get k ok hk
      rw [g2] at si
      rw [g5] at sk
      rw [g3, z 13 i (by decide), z 13 k (by decide)]
      exact Y.dj i k w1 w3 hik g1 g4 si sk)
    (hin := by
      intro i q hq hn
      obtain ⟨x, x1, x2⟩ := Y.hin i q hq hn
      exact ⟨x, by show x < ((gs_hp s).modify _ _).length; rw [List.length_modify]; exact x1, x2⟩)
    (lok := Y.lok)
    (hb := by show 3 * ((gs_hp s).modify _ _).length + c ≤ _; rw [List.length_modify]; exact Y.hb)
    (eb := Y.eb)
/-- the data are behind: the frame is gone -/
def gr_DE (K : gs_K) (X : Nat → Prop) (c f o at_ ca dp : Nat) (t0 : gr_t) (s0 : gs_S) (us0 nd0 : Nat) (s : gs_S) (t : gr_t) : Prop := ∃ us nd, (gr_Y X c us nd t K s ∧ t.1 0 8 = 0 ∧ t.1 0 47 = nI f) ∧ gr_OO K t s o at_ ca ∧ gr_BB t0 s0 us0 nd0 f us nd t s ∧ 14 * gs_size s ≤ 14 * (70 - dp) + gs_pl s
theorem gs_data_eq {ca : Nat} : gs_data K rc (some ca) o l = gs_b (gs_vals K rc (gs_tg K l (some ca)) o (gs_df l)) fun _ => if gs_fl l &&& 1 = 0 then gs_r () else gs_b (gs_ex K l (some ca) o) fun _ => gs_rest K rc 701 := rfl
theorem gr_dats (RC : gr_RC E d h m K (dp + 1) rc) (hK : gs_rst K = true) (hd : 12 ≤ d) (hdp : 1 ≤ dp ∧ dp ≤ 8) (hca : ca < 6 ∧ (gs_cls K ca).isSome = true) (hat : us0 ≤ at_) (ha : at_ < 2 ^ 31) (ho0 : (gs_hp s0).length ≤ o) (hL : L.length ≤ 900) : ∀ (Ls : List gs_L) (r : Nat) (s : gs_S) (t : gr_t), L.reverse.drop r = Ls → r ≤ L.length → gr_DI K X c f o at_ ca dp leaf L t0 s0 us0 nd0 r 0 0 s t → gr_Rn E d h m (gr_E t0 s0 us0 nd0 (gs_dats K rc (some ca) o Ls s) (fun _ s1 t' => gr_DE K X c f o at_ ca dp t0 s0 us0 nd0 s1 t')) t := by
  intro Ls
  induction Ls with
  | nil =>
    intro r s t hr hrl I
    obtain ⟨us, nd, ⟨Y, h8, h47⟩, ⟨f28, f29, f30, f31, f32, f33, f34⟩, ch, OO, BB, hsz, h14⟩ := id I
    have n7 := Y.n7
    have pn := Y.pn
    have nb := Y.nb
    have rl : L.length ≤ r := by
      have := List.drop_eq_nil_iff.mp hr
      rw [List.length_reverse] at this
      exact this
    have chh := ch.ch (fun z hz => by have := hz.1; omega)
    refine .step h47 (by omega) h8 (gr_std (P := fun t' => t' = gr_give t (nI o)) (by omega) h47 (by omega) f28 (m_dLv (by omega) (by omega) f31 f32 f33 chh (by omega) (by omega) (fun _ => m_dE (by omega) (by omega) f29 (gr_ps.ok rfl)) (fun l' k hl' => ?_))) (fun t1 x1 => ?_)
    · have := (List.getElem?_eq_some_iff.mp hl').1
      rw [List.length_reverse] at this
      omega
    · subst x1
      have hm : gr_hm t (gr_give t (nI o)) := gr_hm.refl.give
      refine .done ⟨us, nd, ⟨Y.hm hm, (gr_give8 h8 h47).1⟩, ⟨OO.1, by rw [hm.1 13 o (by decide) (fun z => absurd z (by decide))]; exact OO.2⟩, BB.step ⟨Nat.le_refl _, Nat.le_refl _⟩ gr_fr.refl.give hm.eh hm.kp BB.2.2.2.2 ⟨List.prefix_refl _, rfl⟩, hsz⟩
  | cons l Ls ih =>
    intro r s t hr hrl I
    have hl : L.reverse[r]? = some l := by
      have := List.getElem?_drop (xs := L.reverse) (i := r) (j := 0)
      rw [hr, Nat.add_zero] at this
      exact this.symm
    have rl : r < L.length := by
      have := (List.getElem?_eq_some_iff.mp hl).1
      rw [List.length_reverse] at this
      exact this
    have hr2 : L.reverse.drop (r + 1) = Ls := by rw [← List.drop_drop, hr]; rfl
    have hc : ∀ x, some ca = some x → x < 6 ∧ (gs_cls K x).isSome = true := fun x hx => by cases hx; exact hca
    -- from state 2 on
    have fin : ∀ (s2 : gs_S) (t2 : gr_t) (j : Nat), gr_DI K X c f o at_ ca dp leaf L t0 s0 us0 nd0 r j 2 s2 t2 → gr_Rn E d h m (gr_E t0 s0 us0 nd0 (gs_dats K rc (some ca) o Ls s2) (fun _ s1 t' => gr_DE K X c f o at_ ca dp t0 s0 us0 nd0 s1 t')) t2 := by
      intro s2 t2 j I2
      obtain ⟨us, nd, ⟨Y, h8, h47⟩, ⟨f28, f29, f30, f31, f32, f33, f34⟩, ch, OO, BB, hsz, h14⟩ := I2
      have n7 := Y.n7
      have pn := Y.pn
      have nb := Y.nb
      have chh := ch.ch (fun z hz => by have := hz.1; omega)
      refine .step h47 (by omega) h8 (gr_std (P := fun t' => t' = gr_ui (gr_ui (gr_ui t2 33 f (nI (r + 1))) 34 f 0) 29 f 0) (by omega) h47 (by omega) f28 (m_dLv (by omega) (by omega) f31 f32 f33 chh (by omega) (by omega) (fun _ => m_dN (by omega) f29 f33 (gr_ps.ok rfl)) (fun l' k hl' hk D => m_dN (by omega) f29 f33 (gr_ps.ok rfl)))) (fun t3 x3 => ?_)
      have hm : gr_hm t2 t3 := by rw [x3]; exact ((gr_hm.refl.ui (by omega)).ui (by omega)).ui (by omega)
      have v : ∀ q, q ≠ 33 → q ≠ 34 → q ≠ 29 → t3.1 q f = t2.1 q f := fun q a b e => by rw [x3, gr_ui_no e, gr_ui_no b, gr_ui_no a]
      refine ih (r + 1) s2 t3 hr2 (by omega) ⟨us, nd, ⟨Y.hm hm, by rw [x3, gr_ui_no (by decide), gr_ui_no (by decide), gr_ui_no (by decide)]; exact h8, by rw [x3, gr_ui_no (by decide), gr_ui_no (by decide), gr_ui_no (by decide)]; exact h47⟩, ⟨by rw [v 28 (by decide) (by decide) (by decide)]; exact f28, by rw [x3, gr_ui_eq], by rw [v 30 (by decide) (by decide) (by decide)]; exact f30, by rw [v 31 (by decide) (by decide) (by decide)]; exact f31, by rw [v 32 (by decide) (by decide) (by decide)]; exact f32, by rw [x3, gr_ui_no (by decide), gr_ui_no (by decide), gr_ui_eq], by rw [x3, gr_ui_no (by decide), gr_ui_eq]; rfl⟩, ch.kp (hm.kp (hb := 0) (ub := 0) (nb := nd)) (fun z hz => hz.1), ⟨OO.1, by rw [hm.1 13 o (by decide) (fun z => absurd z (by decide))]; exact OO.2⟩, BB.step ⟨Nat.le_refl _, Nat.le_refl _⟩ (by rw [x3]; exact ((gr_fr.refl.ui (by omega)).ui (by omega)).ui (by omega)) hm.eh hm.kp BB.2.2.2.2 ⟨List.prefix_refl _, rfl⟩, hsz, h14⟩
    show gr_Rn E d h m (gr_E t0 s0 us0 nd0 (gs_b (gs_data K rc (some ca) o l) (fun _ => gs_dats K rc (some ca) o Ls) s) _) t
    rw [gs_data_eq, gs_bb]
    refine (gr_vals RC hd hdp hca hat ha ho0 (by omega) hl (gs_df l) 0 s t rfl I).bind (fun t1 x1 => ?_)
    refine x1.seq (fun _ s1 _ I1 => ?_)
    rw [Nat.zero_add] at I1
    obtain ⟨us, nd, ⟨Y, h8, h47⟩, ⟨f28, f29, f30, f31, f32, f33, f34⟩, ch, OO, BB, hsz, h14⟩ := id I1
    have n7 := Y.n7
    have pn := Y.pn
    have nb := Y.nb
    have f79 : f < 79 := by omega
    obtain ⟨o720, ol, o11, oat, oat4⟩ := OO.to Y ha
    have chh := ch.ch (fun z hz => by have := hz.1; omega)
    refine .step h47 (by omega) h8 (gr_std (P := fun t' => (gs_fl l &&& 1 = 0 ∧ t' = gr_ui t1 29 f 2) ∨ (¬ gs_fl l &&& 1 = 0 ∧ gs_ex K l (some ca) o s1 = .ok ((), s1) ∧ t' = gr_push (gr_ui t1 29 f 2) (f + 1) 4 (nI dp) 0 0) ∨ (¬ gs_fl l &&& 1 = 0 ∧ ∃ v, gs_ex K l (some ca) o s1 = gs_mod o (fun ob => (ob.1, ob.2.1, ob.2.2.1, ob.2.2.2.1, v)) s1 ∧ t' = gr_push (gr_ui (gr_ui t1 29 f 2) 14 o v) (f + 1) 4 (nI dp) 0 0)) (by omega) h47 (by omega) f28 (m_dLv (by omega) (by omega) f31 f32 f33 chh (by omega) (by omega) (fun z => absurd z (by omega)) (fun l' k hl' hk D => ?_))) (fun t2 x2 => ?_)
    · rw [hl] at hl'
      cases hl'
      exact m_dL (s := s1) (cc := some ca) (by omega) f79 hk D f29 f30 f34 h47 Y.B Y.C Y.wf Y.pl pn o720 o11 hc (fun z => gr_ps.ok (Or.inl ⟨z, rfl⟩)) (fun z y => gr_ps.ok (Or.inr (Or.inl ⟨z, y, rfl⟩))) (fun z v y => gr_ps.ok (Or.inr (Or.inr ⟨z, v, y, rfl⟩)))
    · -- with the heap behind the extra: the rest
      have rest : ∀ (s2 : gs_S) (ta : gr_t), ¬ gs_fl l &&& 1 = 0 → gs_ex K l (some ca) o s1 = .ok ((), s2) → t2 = gr_push ta (f + 1) 4 (nI dp) 0 0 → gr_DI K X c f o at_ ca dp leaf L t0 s0 us0 nd0 r (gs_df l).length 2 s2 ta → gr_Rn E d h m (gr_E t0 s0 us0 nd0 (gs_b (if gs_fl l &&& 1 = 0 then gs_r () else gs_b (gs_ex K l (some ca) o) fun _ => gs_rest K rc 701) (fun _ => gs_dats K rc (some ca) o Ls) s1) (fun _ s1 t' => gr_DE K X c f o at_ ca dp t0 s0 us0 nd0 s1 t')) t2 := by
        intro s2 ta z ex e2 Ia
        obtain ⟨us, nd, ⟨Y, h8, h47⟩, ⟨f28, f29, f30, f31, f32, f33, f34⟩, ch, OO, BB, hsz, h14⟩ := Ia
        have n7 := Y.n7
        have pn := Y.pn
        have ol := (OO.to Y ha).2.1
        rw [if_neg z, gs_bb, gs_b_ok ex]
        obtain ⟨p1, p2, p3, p4, p5, p6, p7, p8, p9⟩ := gr_push_fr (t := ta) (tp := f + 1) (k := 4) (dd := nI dp) (a := 0) (b := 0)
        rw [← e2] at p1 p2 p3 p4 p5 p6 p7 p8 p9
        have hm2 : gr_hm ta t2 := by rw [e2]; exact gr_hm.refl.push
        have fr2 : gr_fr (f + 1) ta t2 := by rw [e2]; exact gr_fr.refl.push (Nat.le_refl _)
        refine (gr_rest (B := 14 * (70 - dp)) RC hK (by omega) hdp (by omega) 701 X c us nd (f + 1) t2 s2 (Y.hm hm2) (p9.trans h8) p8 ⟨p1, p3⟩ (by omega) hsz (by omega)).bind (fun t3 q3 => ?_)
        cases er : gs_rest K rc 701 s2 with
        | error x =>
          rw [er] at q3
          exact .done (gr_E.er (gs_b_er er) (gr_F.from q3 (BB.2.2.2.1.trans hm2.kp) BB.2.2.2.2.len BB.1.1 BB.1.2))
        | ok w =>
          rw [er] at q3
          obtain ⟨us3, nd3, g1, Y3, ⟨g8, g47⟩, g3, g6, g4, g5, v3, v4⟩ := q3
          rw [gs_b_ok (a := w.1) (s1 := w.2) er]
          have ff : ∀ x, 28 ≤ x → x ≤ 34 → t3.1 x f = ta.1 x f := fun x x1 x2 => (g3 x f x1 x2 (by omega)).trans (fr2 x f x1 x2 (by omega))
          refine fin w.2 t3 (gs_df l).length ⟨us3, nd3, ⟨Y3, g8, g47⟩, ⟨by rw [ff 28 (by omega) (by omega)]; exact f28, by rw [ff 29 (by omega) (by omega)]; exact f29, by rw [ff 30 (by omega) (by omega)]; exact f30, by rw [ff 31 (by omega) (by omega)]; exact f31, by rw [ff 32 (by omega) (by omega)]; exact f32, by rw [ff 33 (by omega) (by omega)]; exact f33, by rw [ff 34 (by omega) (by omega)]; exact f34⟩, ((ch.kp (hm2.kp (hb := 0) (ub := 0) (nb := nd)) (fun z hz => hz.1)).kp g4 (fun z hz => hz.1)).up (fun z hz => ⟨by have := hz.1; omega, hz.2⟩), ?_, ?_, v3, by omega⟩
          · obtain ⟨⟨y, y1, y2⟩, y3⟩ := OO
            refine ⟨⟨y, gs_pre_get g5.1 y1, y2⟩, ?_⟩
            rw [g4.1 13 o (by unfold gr_pr; omega), hm2.1 13 o (by decide) (fun z => absurd z (by decide))]
            exact y3
          · refine BB.step g1 (fun x i x1 x2 x3 => ?_) (hm2.eh.trans g6) (hm2.kp.trans (g4.wk BB.2.2.2.2.len BB.1.1 BB.1.2)) (BB.2.2.2.2.trans g5) ⟨g5.2.1, g5.2.2.1⟩
            rw [g3 x i x1 x2 (by omega), fr2 x i x1 x2 (by omega)]
      have hm1 : gr_hm t1 (gr_ui t1 29 f 2) := gr_hm.refl.ui (by omega)
      have I2 : gr_DI K X c f o at_ ca dp leaf L t0 s0 us0 nd0 r (gs_df l).length 2 s1 (gr_ui t1 29 f 2) := ⟨us, nd, ⟨Y.hm hm1, by rw [gr_ui_no (by decide)]; exact h8, by rw [gr_ui_no (by decide)]; exact h47⟩, ⟨by rw [gr_ui_no (by decide)]; exact f28, gr_ui_eq, by rw [gr_ui_no (by decide)]; exact f30, by rw [gr_ui_no (by decide)]; exact f31, by rw [gr_ui_no (by decide)]; exact f32, by rw [gr_ui_no (by decide)]; exact f33, by rw [gr_ui_no (by decide)]; exact f34⟩, ch.kp (hm1.kp (hb := 0) (ub := 0) (nb := nd)) (fun z hz => hz.1), ⟨OO.1, by rw [gr_ui_no (by decide)]; exact OO.2⟩, BB.step ⟨Nat.le_refl _, Nat.le_refl _⟩ (gr_fr.refl.ui (by omega)) hm1.eh hm1.kp BB.2.2.2.2 ⟨List.prefix_refl _, rfl⟩, hsz, h14⟩
      rcases x2 with ⟨z, rfl⟩ | ⟨z, ex, e2⟩ | ⟨z, v, ex, e2⟩
      · rw [if_pos z]
        exact fin s1 _ _ I2
      · exact rest s1 _ z ex e2 I2
      · obtain ⟨us9, nd9, ⟨Y9, a8, a47⟩, ⟨g28, g29, g30, g31, g32, g33, g34⟩, ch9, OO9, BB9, hsz9, h149⟩ := I2
        obtain ⟨⟨w, w1, w2, w3, w4⟩, h13⟩ := OO9
        refine rest (s1.1, (gs_hp s1).modify o (fun ob => (ob.1, ob.2.1, ob.2.2.1, ob.2.2.2.1, v)), s1.2.2) _ z (by rw [ex]; rfl) e2 ⟨us9, nd9, ⟨Y9.ext w1, by rw [gr_ui_no (by decide)]; exact a8, by rw [gr_ui_no (by decide)]; exact a47⟩, ⟨by rw [gr_ui_no (by decide)]; exact g28, by rw [gr_ui_no (by decide)]; exact g29, by rw [gr_ui_no (by decide)]; exact g30, by rw [gr_ui_no (by decide)]; exact g31, by rw [gr_ui_no (by decide)]; exact g32, by rw [gr_ui_no (by decide)]; exact g33, by rw [gr_ui_no (by decide)]; exact g34⟩, ch9.kp (hb := 0) (ub := 0) (nb := nd9) (gr_kp.refl.ui (by unfold gr_pr; omega)) (fun z hz => hz.1), ⟨⟨(w.1, w.2.1, w.2.2.1, w.2.2.2.1, v), ?_, w2, w3, w4⟩, by rw [gr_ui_no (by decide)]; exact h13⟩, BB9.step ⟨Nat.le_refl _, Nat.le_refl _⟩ (gr_fr.refl.ui (by omega)) (gr_eh.refl.ui (by omega)) (gr_kp.refl.ui (by unfold gr_pr; omega)) ⟨gs_pre_mod BB9.2.2.2.2.1 ho0, BB9.2.2.2.2.2⟩ ⟨List.prefix_refl _, rfl⟩, hsz9, h149⟩
        show ((gs_hp s1).modify o _)[o]? = _
        rw [List.getElem?_modify, w1]
        simp
end NR
