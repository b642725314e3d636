/-! THE REFERENCE, 54: the levels of an object's data. -/
section NR
variable {X N : Nat → Prop} {E : Nat → Value} {d m f n p dp c us nd k e o r j cnt hb ub nb B pp at_ ca us0 nd0 : Nat} {h : gm_H} {t t' t0 t1 : gr_t} {K : gs_K} {s s' s'' s0 : gs_S} {rc : gs_M Int32} {P : gr_t → Prop} {l : gs_L} {L : List gs_L} {Q : gm_R → gm_H → Prop} {leaf st : Int32} {cc : Option Nat}
/-- what an object tells beside its values -/
theorem gr_Y.ext {w : gs_O} {v : Int32} (Y : gr_Y X c us nd t K s) (hw : (gs_hp s)[o]? = some w) : gr_Y X c us nd (gr_ui t 14 o v) K (s.1, (gs_hp s).modify o (fun ob => (ob.1, ob.2.1, ob.2.2.1, ob.2.2.2.1, v)), s.2.2) := by
  have z : ∀ q i, q ≠ 14 → (gr_ui t 14 o v).1 q i = t.1 q i := fun q i hq => gr_ui_no hq
  have kpz : gr_kp 0 us nd t (gr_ui t 14 o v) := gr_kp.refl.ui (by unfold gr_pr; omega)
  have get : ∀ i w2, ((gs_hp s).modify o (fun ob => (ob.1, ob.2.1, ob.2.2.1, ob.2.2.2.1, v)))[i]? = some w2 → ∃ w1, (gs_hp s)[i]? = some w1 ∧ w2.1 = w1.1 ∧ w2.2.1 = w1.2.1 ∧ w2.2.2.1 = w1.2.2.1 ∧ w2.2.2.2.1 = w1.2.2.2.1 ∧ ((i = o ∧ w2.2.2.2.2 = v) ∨ (i ≠ o ∧ w2.2.2.2.2 = w1.2.2.2.2)) := by
    intro i w2 h2
    rcases gs_mod_get hw h2 with ⟨y1, y2⟩ | ⟨y1, y2⟩
    · exact ⟨w, by rw [y1]; exact hw, by rw [y2], by rw [y2], by rw [y2], by rw [y2], Or.inl ⟨y1, by rw [y2]⟩⟩
    · exact ⟨w2, y2, rfl, rfl, rfl, rfl, Or.inr ⟨y1, rfl⟩⟩
  exact gr_Y.mk
    (lm := kpz.lm Y.lm)
    (B := kpz.gB Y.B)
    (C := kpz.gC Y.C)
    (wf := Y.wf)
    (ndK := Y.ndK)
    (pl := (z 0 6 (by decide)).trans Y.pl)
    (pn := Y.pn)
    (pp := by
      refine ⟨((z 0 23 (by decide)).trans Y.pp.1).trans (by show _ = nI ((gs_hp s).modify o _).length; rw [List.length_modify]), fun i w2 h2 => ?_⟩
      obtain ⟨w1, g0, g1, g2, g3, g4, g5⟩ := get i w2 h2
      obtain ⟨p1, p2, p3, p4, p5, p6, p7, p8, p9⟩ := Y.pp.2 i w1 g0
      refine ⟨by rw [z 10 i (by decide), g1]; exact p1, by rw [g1]; exact p2, by rw [z 11 i (by decide), g2]; exact p3, by rw [g2]; exact p4, ?_, by rw [z 12 i (by decide), g1, g3, g4]; exact p6, by rw [g3]; exact p7, by rw [g1, g3]; exact p8, ?_⟩
      · rcases g5 with ⟨rfl, y⟩ | ⟨y1, y2⟩
        · rw [gr_ui_eq, y]
        · rw [gr_ui_ni y1, y2]; exact p5
      · unfold gr_ov at p9 ⊢
        rw [g1, g3, z 13 i (by decide)]
        exact p9)
    (hh := ⟨(z 0 28 (by decide)).trans Y.hh.1, Y.hh.2.1, Y.hh.2.2.1, fun i w hi hw => (Y.hh.2.2.2 i w hi hw).kp kpz (fun k hk => hk.1) (fun k hk => hk) (z 16 i (by decide)) (z 17 i (by decide))⟩)
    (xb := Y.xb)
    (u := (z 0 25 (by decide)).trans Y.u)
    (ub := Y.ub)
    (n := (z 0 39 (by decide)).trans Y.n)
    (nb := Y.nb)
    (dj := by
      intro i k oi ok hik hi hk si sk
      obtain ⟨w1, g1, g2, -, g3, -⟩ := get i oi hi
      obtain ⟨w3, g4, g5, -, g6, -⟩ := get k ok hk
      rw [g2] at si
      rw [g5] at sk
      rw [g3, z 13 i (by decide), z 13 k (by decide)]
      exact Y.dj i k w1 w3 hik g1 g4 si sk)
    (hin := by
      intro i q hq hn
      obtain ⟨x, x1, x2⟩ := Y.hin i q hq hn
      exact ⟨x, by show x < ((gs_hp s).modify _ _).length; rw [List.length_modify]; exact x1, x2⟩)
    (lok := Y.lok)
    (hb := by show 3 * ((gs_hp s).modify _ _).length + c ≤ _; rw [List.length_modify]; exact Y.hb)
    (eb := Y.eb)
/-- the data are behind: the frame is gone -/
def gr_DE (K : gs_K) (X : Nat → Prop) (c f o at_ ca dp : Nat) (t0 : gr_t) (s0 : gs_S) (us0 nd0 : Nat) (s : gs_S) (t : gr_t) : Prop := ∃ us nd, (gr_Y X c us nd t K s ∧ t.1 0 8 = 0 ∧ t.1 0 47 = nI f) ∧ gr_OO K t s o at_ ca ∧ gr_BB t0 s0 us0 nd0 f us nd t s ∧ 14 * gs_size s ≤ 14 * (70 - dp) + gs_pl s
theorem gs_data_eq {ca : Nat} : gs_data K rc (some ca) o l = gs_b (gs_vals K rc (gs_tg K l (some ca)) o (gs_df l)) fun _ => if gs_fl l &&& 1 = 0 then gs_r () else gs_b (gs_ex K l (some ca) o) fun _ => gs_rest K rc 701 := rfl
theorem gr_dats (RC : gr_RC E d h m K (dp + 1) rc) (hK : gs_rst K = true) (hd : 12 ≤ d) (hdp : 1 ≤ dp ∧ dp ≤ 8) (hca : ca < 6 ∧ (gs_cls K ca).isSome = true) (hat : us0 ≤ at_) (ha : at_ < 2 ^ 31) (ho0 : (gs_hp s0).length ≤ o) (hL : L.length ≤ 900) : ∀ (Ls : List gs_L) (r : Nat) (s : gs_S) (t : gr_t), L.reverse.drop r = Ls → r ≤ L.length → gr_DI K X c f o at_ ca dp leaf L t0 s0 us0 nd0 r 0 0 s t → gr_Rn E d h m (gr_E t0 s0 us0 nd0 (gs_dats K rc (some ca) o Ls s) (fun _ s1 t' => gr_DE K X c f o at_ ca dp t0 s0 us0 nd0 s1 t')) t := by
  intro Ls
  induction Ls with
  | nil =>
    intro r s t hr hrl I
    obtain ⟨us, nd, ⟨Y, h8, h47⟩, ⟨f28, f29, f30, f31, f32, f33, f34⟩, ch, OO, BB, hsz, h14⟩ := id I
    have n7 := Y.n7
    have pn := Y.pn
    have nb := Y.nb
    have rl : L.length ≤ r := by
      have := List.drop_eq_nil_iff.mp hr
      rw [List.length_reverse] at this
      exact this
    have chh := ch.ch (fun z hz => by have := hz.1; omega)
    refine .step h47 (by omega) h8 (gr_std (P := fun t' => t' = gr_give t (nI o)) (by omega) h47 (by omega) f28 (m_dLv (by omega) (by omega) f31 f32 f33 chh (by omega) (by omega) (fun _ => m_dE (by omega) (by omega) f29 (gr_ps.ok rfl)) (fun l' k hl' => ?_))) (fun t1 x1 => ?_)
    · have := (List.getElem?_eq_some_iff.mp hl').1
      rw [List.length_reverse] at this
      omega
    · subst x1
      have hm : gr_hm t (gr_give t (nI o)) := gr_hm.refl.give
      refine .done ⟨us, nd, ⟨Y.hm hm, (gr_give8 h8 h47).1⟩, ⟨OO.1, by rw [hm.1 13 o (by decide) (fun z => absurd z (by decide))]; exact OO.2⟩, BB.step ⟨Nat.le_refl _, Nat.le_refl _⟩ gr_fr.refl.give hm.eh hm.kp BB.2.2.2.2 ⟨List.prefix_refl _, rfl⟩, hsz⟩
  | cons l Ls ih =>
    intro r s t hr hrl I
    have hl : L.reverse[r]? = some l := by
      have := List.getElem?_drop (xs := L.reverse) (i := r) (j := 0)
      rw [hr, Nat.add_zero] at this
      exact this.symm
    have rl : r < L.length := by
      have := (List.getElem?_eq_some_iff.mp hl).1
      rw [List.length_reverse] at this
      exact this
    have hr2 : L.reverse.drop (r + 1) = Ls := by rw [← List.drop_drop, hr]; rfl
    have hc : ∀ x, some ca = some x → x < 6 ∧ (gs_cls K x).isSome = true := fun x hx => by cases hx; exact hca
    -- from state 2 on
    have fin : ∀ (s2 : gs_S) (t2 : gr_t) (j : Nat), gr_DI K X c f o at_ ca dp leaf L t0 s0 us0 nd0 r j 2 s2 t2 → gr_Rn E d h m (gr_E t0 s0 us0 nd0 (gs_dats K rc (some ca) o Ls s2) (fun _ s1 t' => gr_DE K X c f o at_ ca dp t0 s0 us0 nd0 s1 t')) t2 := by
      intro s2 t2 j I2
      obtain ⟨us, nd, ⟨Y, h8, h47⟩, ⟨f28, f29, f30, f31, f32, f33, f34⟩, ch, OO, BB, hsz, h14⟩ := I2
      have n7 := Y.n7
      have pn := Y.pn
      have nb := Y.nb
      have chh := ch.ch (fun z hz => by have := hz.1; omega)
      refine .step h47 (by omega) h8 (gr_std (P := fun t' => t' = gr_ui (gr_ui (gr_ui t2 33 f (nI (r + 1))) 34 f 0) 29 f 0) (by omega) h47 (by omega) f28 (m_dLv (by omega) (by omega) f31 f32 f33 chh (by omega) (by omega) (fun _ => m_dN (by omega) f29 f33 (gr_ps.ok rfl)) (fun l' k hl' hk D => m_dN (by omega) f29 f33 (gr_ps.ok rfl)))) (fun t3 x3 => ?_)
      have hm : gr_hm t2 t3 := by rw [x3]; exact ((gr_hm.refl.ui (by omega)).ui (by omega)).ui (by omega)
      have v : ∀ q, q ≠ 33 → q ≠ 34 → q ≠ 29 → t3.1 q f = t2.1 q f := fun q a b e => by rw [x3, gr_ui_no e, gr_ui_no b, gr_ui_no a]
      refine ih (r + 1) s2 t3 hr2 (by omega) ⟨us, nd, ⟨Y.hm hm, by rw [x3, gr_ui_no (by decide), gr_ui_no (by decide), gr_ui_no (by decide)]; exact h8, by rw [x3, gr_ui_no (by decide), gr_ui_no (by decide), gr_ui_no (by decide)]; exact h47⟩, ⟨by rw [v 28 (by decide) (by decide) (by decide)]; exact f28, by rw [x3, gr_ui_eq], by rw [v 30 (by decide) (by decide) (by decide)]; exact f30, by rw [v 31 (by decide) (by decide) (by decide)]; exact f31, by rw [v 32 (by decide) (by decide) (by decide)]; exact f32, by rw [x3, gr_ui_no (by decide), gr_ui_no (by decide), gr_ui_eq], by rw [x3, gr_ui_no (by decide), gr_ui_eq]; rfl⟩, ch.kp (hm.kp (hb := 0) (ub := 0) (nb := nd)) (fun z hz => hz.1), ⟨OO.1, by rw [hm.1 13 o (by decide) (fun z => absurd z (by decide))]; exact OO.2⟩, BB.step ⟨Nat.le_refl _, Nat.le_refl _⟩ (by rw [x3]; exact ((gr_fr.refl.ui (by omega)).ui (by omega)).ui (by omega)) hm.eh hm.kp BB.2.2.2.2 ⟨List.prefix_refl _, rfl⟩, hsz, h14⟩
    show gr_Rn E d h m (gr_E t0 s0 us0 nd0 (gs_b (gs_data K rc (some ca) o l) (fun _ => gs_dats K rc (some ca) o Ls) s) _) t
    rw [gs_data_eq, gs_bb]
    refine (gr_vals RC hd hdp hca hat ha ho0 (by omega) hl (gs_df l) 0 s t rfl I).bind (fun t1 x1 => ?_)
    refine x1.seq (fun _ s1 _ I1 => ?_)
    rw [Nat.zero_add] at I1
    obtain ⟨us, nd, ⟨Y, h8, h47⟩, ⟨f28, f29, f30, f31, f32, f33, f34⟩, ch, OO, BB, hsz, h14⟩ := id I1
    have n7 := Y.n7
    have pn := Y.pn
    have nb := Y.nb
    have f79 : f < 79 := by omega
    obtain ⟨o720, ol, o11, oat, oat4⟩ := OO.to Y ha
    have chh := ch.ch (fun z hz => by have := hz.1; omega)
    refine .step h47 (by omega) h8 (gr_std (P := fun t' => (gs_fl l &&& 1 = 0 ∧ t' = gr_ui t1 29 f 2) ∨ (¬ gs_fl l &&& 1 = 0 ∧ gs_ex K l (some ca) o s1 = .ok ((), s1) ∧ t' = gr_push (gr_ui t1 29 f 2) (f + 1) 4 (nI dp) 0 0) ∨ (¬ gs_fl l &&& 1 = 0 ∧ ∃ v, gs_ex K l (some ca) o s1 = gs_mod o (fun ob => (ob.1, ob.2.1, ob.2.2.1, ob.2.2.2.1, v)) s1 ∧ t' = gr_push (gr_ui (gr_ui t1 29 f 2) 14 o v) (f + 1) 4 (nI dp) 0 0)) (by omega) h47 (by omega) f28 (m_dLv (by omega) (by omega) f31 f32 f33 chh (by omega) (by omega) (fun z => absurd z (by omega)) (fun l' k hl' hk D => ?_))) (fun t2 x2 => ?_)
    · rw [hl] at hl'
      cases hl'
      exact m_dL (s := s1) (cc := some ca) (by omega) f79 hk D f29 f30 f34 h47 Y.B Y.C Y.wf Y.pl pn o720 o11 hc (fun z => gr_ps.ok (Or.inl ⟨z, rfl⟩)) (fun z y => gr_ps.ok (Or.inr (Or.inl ⟨z, y, rfl⟩))) (fun z v y => gr_ps.ok (Or.inr (Or.inr ⟨z, v, y, rfl⟩)))
    · -- with the heap behind the extra: the rest
      have rest : ∀ (s2 : gs_S) (ta : gr_t), ¬ gs_fl l &&& 1 = 0 → gs_ex K l (some ca) o s1 = .ok ((), s2) → t2 = gr_push ta (f + 1) 4 (nI dp) 0 0 → gr_DI K X c f o at_ ca dp leaf L t0 s0 us0 nd0 r (gs_df l).length 2 s2 ta → gr_Rn E d h m (gr_E t0 s0 us0 nd0 (gs_b (if gs_fl l &&& 1 = 0 then gs_r () else gs_b (gs_ex K l (some ca) o) fun _ => gs_rest K rc 701) (fun _ => gs_dats K rc (some ca) o Ls) s1) (fun _ s1 t' => gr_DE K X c f o at_ ca dp t0 s0 us0 nd0 s1 t')) t2 := by
        intro s2 ta z ex e2 Ia
        obtain ⟨us, nd, ⟨Y, h8, h47⟩, ⟨f28, f29, f30, f31, f32, f33, f34⟩, ch, OO, BB, hsz, h14⟩ := Ia
        have n7 := Y.n7
        have pn := Y.pn
        have ol := (OO.to Y ha).2.1
        rw [if_neg z, gs_bb, gs_b_ok ex]
        obtain ⟨p1, p2, p3, p4, p5, p6, p7, p8, p9⟩ := gr_push_fr (t := ta) (tp := f + 1) (k := 4) (dd := nI dp) (a := 0) (b := 0)
        rw [← e2] at p1 p2 p3 p4 p5 p6 p7 p8 p9
        have hm2 : gr_hm ta t2 := by rw [e2]; exact gr_hm.refl.push
        have fr2 : gr_fr (f + 1) ta t2 := by rw [e2]; exact gr_fr.refl.push (Nat.le_refl _)
        refine (gr_rest (B := 14 * (70 - dp)) RC hK (by omega) hdp (by omega) 701 X c us nd (f + 1) t2 s2 (Y.hm hm2) (p9.trans h8) p8 ⟨p1, p3⟩ (by omega) hsz (by omega)).bind (fun t3 q3 => ?_)
        cases er : gs_rest K rc 701 s2 with
        | error x =>
          rw [er] at q3
          exact .done (gr_E.er (gs_b_er er) (gr_F.from q3 (BB.2.2.2.1.trans hm2.kp) BB.2.2.2.2.len BB.1.1 BB.1.2))
        | ok w =>
          rw [er] at q3
          obtain ⟨us3, nd3, g1, Y3, ⟨g8, g47⟩, g3, g6, g4, g5, v3, v4⟩ := q3
          rw [gs_b_ok (a := w.1) (s1 := w.2) er]
          have ff : ∀ x, 28 ≤ x → x ≤ 34 → t3.1 x f = ta.1 x f := fun x x1 x2 => (g3 x f x1 x2 (by omega)).trans (fr2 x f x1 x2 (by omega))
          refine fin w.2 t3 (gs_df l).length ⟨us3, nd3, ⟨Y3, g8, g47⟩, ⟨by rw [ff 28 (by omega) (by omega)]; exact f28, by rw [ff 29 (by omega) (by omega)]; exact f29, by rw [ff 30 (by omega) (by omega)]; exact f30, by rw [ff 31 (by omega) (by omega)]; exact f31, by rw [ff 32 (by omega) (by omega)]; exact f32, by rw [ff 33 (by omega) (by omega)]; exact f33, by rw [ff 34 (by omega) (by omega)]; exact f34⟩, ((ch.kp (hm2.kp (hb := 0) (ub := 0) (nb := nd)) (fun z hz => hz.1)).kp g4 (fun z hz => hz.1)).up (fun z hz => ⟨by have := hz.1; omega, hz.2⟩), ?_, ?_, v3, by omega⟩
          · obtain ⟨⟨y, y1, y2⟩, y3⟩ := OO
            refine ⟨⟨y, gs_pre_get g5.1 y1, y2⟩, ?_⟩
            rw [g4.1 13 o (by unfold gr_pr; omega), hm2.1 13 o (by decide) (fun z => absurd z (by decide))]
            exact y3
          · refine BB.step g1 (fun x i x1 x2 x3 => ?_) (hm2.eh.trans g6) (hm2.kp.trans (g4.wk BB.2.2.2.2.len BB.1.1 BB.1.2)) (BB.2.2.2.2.trans g5) ⟨g5.2.1, g5.2.2.1⟩
            rw [g3 x i x1 x2 (by omega), fr2 x i x1 x2 (by omega)]
      have hm1 : gr_hm t1 (gr_ui t1 29 f 2) := gr_hm.refl.ui (by omega)
      have I2 : gr_DI K X c f o at_ ca dp leaf L t0 s0 us0 nd0 r (gs_df l).length 2 s1 (gr_ui t1 29 f 2) := ⟨us, nd, ⟨Y.hm hm1, by rw [gr_ui_no (by decide)]; exact h8, by rw [gr_ui_no (by decide)]; exact h47⟩, ⟨by rw [gr_ui_no (by decide)]; exact f28, gr_ui_eq, by rw [gr_ui_no (by decide)]; exact f30, by rw [gr_ui_no (by decide)]; exact f31, by rw [gr_ui_no (by decide)]; exact f32, by rw [gr_ui_no (by decide)]; exact f33, by rw [gr_ui_no (by decide)]; exact f34⟩, ch.kp (hm1.kp (hb := 0) (ub := 0) (nb := nd)) (fun z hz => hz.1), ⟨OO.1, by rw [gr_ui_no (by decide)]; exact OO.2⟩, BB.step ⟨Nat.le_refl _, Nat.le_refl _⟩ (gr_fr.refl.ui (by omega)) hm1.eh hm1.kp BB.2.2.2.2 ⟨List.prefix_refl _, rfl⟩, hsz, h14⟩
      rcases x2 with ⟨z, rfl⟩ | ⟨z, ex, e2⟩ | ⟨z, v, ex, e2⟩
      · rw [if_pos z]
        exact fin s1 _ _ I2
      · exact rest s1 _ z ex e2 I2
      · obtain ⟨us9, nd9, ⟨Y9, a8, a47⟩, ⟨g28, g29, g30, g31, g32, g33, g34⟩, ch9, OO9, BB9, hsz9, h149⟩ := I2
        obtain ⟨⟨w, w1, w2, w3, w4⟩, h13⟩ := OO9
        refine rest (s1.1, (gs_hp s1).modify o (fun ob => (ob.1, ob.2.1, ob.2.2.1, ob.2.2.2.1, v)), s1.2.2) _ z (by rw [ex]; rfl) e2 ⟨us9, nd9, ⟨Y9.ext w1, by rw [gr_ui_no (by decide)]; exact a8, by rw [gr_ui_no (by decide)]; exact a47⟩, ⟨by rw [gr_ui_no (by decide)]; exact g28, by rw [gr_ui_no (by decide)]; exact g29, by rw [gr_ui_no (by decide)]; exact g30, by rw [gr_ui_no (by decide)]; exact g31, by rw [gr_ui_no (by decide)]; exact g32, by rw [gr_ui_no (by decide)]; exact g33, by rw [gr_ui_no (by decide)]; exact g34⟩, ch9.kp (hb := 0) (ub := 0) (nb := nd9) (gr_kp.refl.ui (by unfold gr_pr; omega)) (fun z hz => hz.1), ⟨⟨(w.1, w.2.1, w.2.2.1, w.2.2.2.1, v), ?_, w2, w3, w4⟩, by rw [gr_ui_no (by decide)]; exact h13⟩, BB9.step ⟨Nat.le_refl _, Nat.le_refl _⟩ (gr_fr.refl.ui (by omega)) (gr_eh.refl.ui (by omega)) (gr_kp.refl.ui (by unfold gr_pr; omega)) ⟨gs_pre_mod BB9.2.2.2.2.1 ho0, BB9.2.2.2.2.2⟩ ⟨List.prefix_refl _, rfl⟩, hsz9, h149⟩
        show ((gs_hp s1).modify o _)[o]? = _
        rw [List.getElem?_modify, w1]
        simp
end NR
/-! THE REFERENCE, 55: an instance's first and last step. -/
section NS
variable {X N : Nat → Prop} {E : Nat → Value} {d m f n p dp c us nd k e o r j cnt hb ub nb B pp at_ ca us0 nd0 : Nat} {h : gm_H} {t t' t0 t1 : gr_t} {K : gs_K} {s s' s'' s0 : gs_S} {rc : gs_M Int32} {P : gr_t → Prop} {l : gs_L} {L : List gs_L} {Q : gm_R → gm_H → Prop} {leaf st : Int32} {cc : Option Nat}
theorem m_nI0 (hd : 1 ≤ d) (h8 : t.1 0 8 = 0) (h9 : t.1 0 9 = -2) : gm_Ca E d 24 [.ref m, .int (nI f)] (gr_H h m t) (gx_v none (gr_H h m (gr_ui t 0 8 (-4)))) := by
  have ef : gr_fl t (-4) = gr_ui t 0 8 (-4) := by unfold gr_fl; rw [if_pos h8]
  have n4 : ¬ (-4 : Int32) = 0 := by decide
  obtain ⟨Q, hQ⟩ : ∃ Q, Q = gx_v none (gr_H h m (gr_ui t 0 8 (-4))) := ⟨_, rfl⟩
  rw [← hQ]
  show gm_W E d 24 0 [.ref m, .int (nI f), gm_u, gm_u, gm_u, gm_u, gm_u, gm_u, gm_u] [] (gr_H h m t) Q
  simp only [r24_0, r24_0n, r24_1, r24_4, r24_5, r24_6, r24_8, r24_11, r24_11n, r24_12, r24_17, r24_17n, r24_18, r24_21, r24_24, r24_24n, r24_25, r24_25n, r24_26, r24_29, r24_30, r24_31, r24_32, r24_36, r24_39, r24_40, r24_40n, r24_41, r24_44, r24_45, r24_46, r24_47, r24_47n, r24_48, r24_51, r24_52, r24_53, r24_55, r24_56, r24_59, r24_59n, r24_60, r24_65, r24_68, r24_69, r24_72, r24_72n, r24_73, r24_78, r24_81, r24_81n, r24_82, r24_85, r24_86, r24_87, r24_90, r24_90n, r24_91, r24_94, r24_95, r24_96, r24_97, r24_100, r24_100n, r24_101, r24_106, r24_106n, r24_107, r24_110, r24_113, r24_114, r24_114n, r24_115, r24_119, r24_119n, r24_120, r24_123, r24_124, r24_125, r24_126, r24_128, r24_128n, r24_129, r24_130, r24_131, r24_133, r24_133n, r24_134, r24_140, r24_142, r24_143, r24_145, r24_147, r24_150, r24_151, r24_153, r24_155, r24_155n, r24_156, r24_159, r24_161, r24_162, r24_165, r24_165n, r24_166, r24_169, r24_170, r24_172, r24_173, r24_175, r24_176, r24_177, r24_179, r24_179n, r24_180, r24_183, r24_183n, r24_184, r24_187, r24_187n, r24_188, r24_193, r24_194, r24_196, r24_197, r24_199, r24_200, r24_203, r24_206, r24_209, r24_209n, r24_210, r24_213, r24_215, r24_216, r24_219, r24_220, r24_223, r24_225, r24_226, r24_229, r24_230, r24_233, r24_236, r24_237, r24_240, r24_243, r24_243n, r24_244, r24_247, r24_249, r24_250, r24_252, r24_255, r24_255n, r24_256, r24_256i, r24_257, r24_260, r24_262, r24_263, r24_266, r24_266n, r24_267, r24_270, r24_271, r24_273, r24_274, r24_274n, r24_275, r24_278, r24_279, r24_279n, r24_280, r24_280n, r24_281, r24_284, r24_285, r24_286, r24_287, r24_290, r24_291, r24_294, r24_295, r24_300, r24_301, r24_301n, r24_302, r24_305, r24_306, r24_307, r24_308, r24_308n, r24_309, r24_310, r24_310n, r24_311, r24_314, r24_315, r24_316, r24_318, r24_322, i32_10, reduceIte, gm_cmp1, gm_cmp3, gm_cmp4, gm_kd_sf, gm_ln_sf, gm_sf_1, gm_sf_2, gm_nw_1, gm_nw_2, gm_k_int, gm_k_ref, gm_k_null, gm_k_u, gm_k_long, and_true, true_and, true_or, or_true, or_false, false_or, and_self, or_self, if_true, if_false, List.map_nil, List.map_cons, List.sum_nil, List.sum_cons, Nat.zero_le, Option.toList_some, Option.toList_none, List.cons_append, List.nil_append, ne_eq, not_false_eq_true, not_true_eq_false, nI_1, nI_add, Value.category, Nat.reduceAdd, Nat.reduceMod, Nat.reduceLeDiff, Nat.reduceLT, Nat.reduceEqDiff, Nat.reducePow, Nat.le_refl, Nat.add_left_cancel_iff, Nat.add_eq_left, Nat.left_eq_add, Nat.add_zero, g_k0, g_k1, g_l1, g_p4, g_a1, g_w1, g_k2, g_l2, g_p10, g_a2, g_w2, g_k3, g_l3, g_p11, g_a3, g_w3, g_k4, g_l4, g_p12, g_a4, g_w4, g_k5, g_l5, g_p13, g_a5, g_w5, g_k6, g_l6, g_p14, g_a6, g_w6, g_k7, g_l7, g_p15, g_a7, g_w7, g_k8, g_l8, g_p16, g_a8, g_w8, g_k9, g_l9, g_p17, g_a9, g_w9, g_k10, g_l10, g_p18, g_a10, g_w10, g_k11, g_l11, g_p19, g_a11, g_w11, g_k12, g_l12, g_p20, g_a12, g_w12, g_k13, g_l13, g_p21, g_a13, g_w13, g_k14, g_l14, g_p22, g_a14, g_w14, g_k15, g_l15, g_p24, g_a15, g_w15, g_k16, g_l16, g_p26, g_a16, g_w16, g_k17, g_l17, g_p27, g_a17, g_w17, g_k18, g_l18, g_p29, g_a18, g_w18, g_k19, g_l19, g_p30, g_a19, g_w19, g_k20, g_l20, g_p31, g_a20, g_w20, g_k21, g_l21, g_p32, g_a21, g_w21, g_k22, g_l22, g_p33, g_a22, g_w22, g_k23, g_l23, g_p34, g_a23, g_w23, g_k24, g_l24, g_p35, g_a24, g_w24, g_k25, g_l25, g_p36, g_a25, g_w25, g_k26, g_l26, g_p37, g_a26, g_w26, g_k27, g_l27, g_p38, g_a27, g_w27, g_k28, g_l28, g_p40, g_a28, g_w28, g_k29, g_l29, g_p41, g_a29, g_w29, g_k30, g_l30, g_p42, g_a30, g_w30, g_k31, g_l31, g_p43, g_a31, g_w31, g_k32, g_l32, g_p44, g_a32, g_w32, g_k33, g_l33, g_p45, g_a33, g_w33, g_k34, g_l34, g_p46, g_a34, g_w34, g_f0, g_s0, g_f1, g_s1, g_f2, g_s2, g_f3, g_s3, g_f5, g_s5, g_f6, g_s6, g_f7, g_s7, g_f8, g_s8, g_f9, g_s9, g_f23, g_s23, g_f25, g_s25, g_f28, g_s28, g_f39, g_s39, g_f47, g_s47, gr_ui_eq, gr_ui_2, gr_ul_eq, gr_ul_1, gr_ui_no, gr_ui_ni, gr_ul_no, gr_ul_ni, h9, eq_self]
  refine c24_14 (by simp) g_k0 (by omega) m_fail (gx_kn ?_) gx_kx
  rw [ef]
  simp only [r24_0, r24_0n, r24_1, r24_4, r24_5, r24_6, r24_8, r24_11, r24_11n, r24_12, r24_17, r24_17n, r24_18, r24_21, r24_24, r24_24n, r24_25, r24_25n, r24_26, r24_29, r24_30, r24_31, r24_32, r24_36, r24_39, r24_40, r24_40n, r24_41, r24_44, r24_45, r24_46, r24_47, r24_47n, r24_48, r24_51, r24_52, r24_53, r24_55, r24_56, r24_59, r24_59n, r24_60, r24_65, r24_68, r24_69, r24_72, r24_72n, r24_73, r24_78, r24_81, r24_81n, r24_82, r24_85, r24_86, r24_87, r24_90, r24_90n, r24_91, r24_94, r24_95, r24_96, r24_97, r24_100, r24_100n, r24_101, r24_106, r24_106n, r24_107, r24_110, r24_113, r24_114, r24_114n, r24_115, r24_119, r24_119n, r24_120, r24_123, r24_124, r24_125, r24_126, r24_128, r24_128n, r24_129, r24_130, r24_131, r24_133, r24_133n, r24_134, r24_140, r24_142, r24_143, r24_145, r24_147, r24_150, r24_151, r24_153, r24_155, r24_155n, r24_156, r24_159, r24_161, r24_162, r24_165, r24_165n, r24_166, r24_169, r24_170, r24_172, r24_173, r24_175, r24_176, r24_177, r24_179, r24_179n, r24_180, r24_183, r24_183n, r24_184, r24_187, r24_187n, r24_188, r24_193, r24_194, r24_196, r24_197, r24_199, r24_200, r24_203, r24_206, r24_209, r24_209n, r24_210, r24_213, r24_215, r24_216, r24_219, r24_220, r24_223, r24_225, r24_226, r24_229, r24_230, r24_233, r24_236, r24_237, r24_240, r24_243, r24_243n, r24_244, r24_247, r24_249, r24_250, r24_252, r24_255, r24_255n, r24_256, r24_256i, r24_257, r24_260, r24_262, r24_263, r24_266, r24_266n, r24_267, r24_270, r24_271, r24_273, r24_274, r24_274n, r24_275, r24_278, r24_279, r24_279n, r24_280, r24_280n, r24_281, r24_284, r24_285, r24_286, r24_287, r24_290, r24_291, r24_294, r24_295, r24_300, r24_301, r24_301n, r24_302, r24_305, r24_306, r24_307, r24_308, r24_308n, r24_309, r24_310, r24_310n, r24_311, r24_314, r24_315, r24_316, r24_318, r24_322, i32_10, reduceIte, gm_cmp1, gm_cmp3, gm_cmp4, gm_kd_sf, gm_ln_sf, gm_sf_1, gm_sf_2, gm_nw_1, gm_nw_2, gm_k_int, gm_k_ref, gm_k_null, gm_k_u, gm_k_long, and_true, true_and, true_or, or_true, or_false, false_or, and_self, or_self, if_true, if_false, List.map_nil, List.map_cons, List.sum_nil, List.sum_cons, Nat.zero_le, Option.toList_some, Option.toList_none, List.cons_append, List.nil_append, ne_eq, not_false_eq_true, not_true_eq_false, nI_1, nI_add, Value.category, Nat.reduceAdd, Nat.reduceMod, Nat.reduceLeDiff, Nat.reduceLT, Nat.reduceEqDiff, Nat.reducePow, Nat.le_refl, Nat.add_left_cancel_iff, Nat.add_eq_left, Nat.left_eq_add, Nat.add_zero, g_k0, g_k1, g_l1, g_p4, g_a1, g_w1, g_k2, g_l2, g_p10, g_a2, g_w2, g_k3, g_l3, g_p11, g_a3, g_w3, g_k4, g_l4, g_p12, g_a4, g_w4, g_k5, g_l5, g_p13, g_a5, g_w5, g_k6, g_l6, g_p14, g_a6, g_w6, g_k7, g_l7, g_p15, g_a7, g_w7, g_k8, g_l8, g_p16, g_a8, g_w8, g_k9, g_l9, g_p17, g_a9, g_w9, g_k10, g_l10, g_p18, g_a10, g_w10, g_k11, g_l11, g_p19, g_a11, g_w11, g_k12, g_l12, g_p20, g_a12, g_w12, g_k13, g_l13, g_p21, g_a13, g_w13, g_k14, g_l14, g_p22, g_a14, g_w14, g_k15, g_l15, g_p24, g_a15, g_w15, g_k16, g_l16, g_p26, g_a16, g_w16, g_k17, g_l17, g_p27, g_a17, g_w17, g_k18, g_l18, g_p29, g_a18, g_w18, g_k19, g_l19, g_p30, g_a19, g_w19, g_k20, g_l20, g_p31, g_a20, g_w20, g_k21, g_l21, g_p32, g_a21, g_w21, g_k22, g_l22, g_p33, g_a22, g_w22, g_k23, g_l23, g_p34, g_a23, g_w23, g_k24, g_l24, g_p35, g_a24, g_w24, g_k25, g_l25, g_p36, g_a25, g_w25, g_k26, g_l26, g_p37, g_a26, g_w26, g_k27, g_l27, g_p38, g_a27, g_w27, g_k28, g_l28, g_p40, g_a28, g_w28, g_k29, g_l29, g_p41, g_a29, g_w29, g_k30, g_l30, g_p42, g_a30, g_w30, g_k31, g_l31, g_p43, g_a31, g_w31, g_k32, g_l32, g_p44, g_a32, g_w32, g_k33, g_l33, g_p45, g_a33, g_w33, g_k34, g_l34, g_p46, g_a34, g_w34, g_f0, g_s0, g_f1, g_s1, g_f2, g_s2, g_f3, g_s3, g_f5, g_s5, g_f6, g_s6, g_f7, g_s7, g_f8, g_s8, g_f9, g_s9, g_f23, g_s23, g_f25, g_s25, g_f28, g_s28, g_f39, g_s39, g_f47, g_s47, gr_ui_eq, gr_ui_2, gr_ul_eq, gr_ul_1, gr_ui_no, gr_ui_ni, gr_ul_no, gr_ul_ni, n4]
  rw [hQ]
  exact ⟨rfl, rfl⟩
/-- the first values laid -/
def gr_vF (t1 : gr_t) (us n lo : Nat) (vs : List Int64) (tF : gr_t) : Prop := tF.1 = t1.1 ∧ (∀ q i, (q ≠ 15 ∨ i < us ∨ us + n ≤ i) → tF.2 q i = t1.2 q i) ∧ ∀ i, lo ≤ i → i < n → tF.2 15 (us + i) = vs.getD i 0
def gr_nIt (t tF : gr_t) (f e o dp us n k : Nat) (kd : Int32) : gr_t := gr_push (gr_ui (gr_ui (gr_ent (gr_ui (gr_ui tF 0 25 (nI (us + n))) 31 f (nI o)) e kd (nI o)) 32 f (nI e)) 29 f 2) (f + 1) 3 (nI dp) (nI o) (nI k)
def gr_nI (t : gr_t) (K : gs_K) (f e o dp us k : Nat) (l : gs_L) (s : gs_S) (t' : gr_t) : Prop := match gs_lim K l dp 0 s with
  | .error _ => t' = gr_ui t 0 8 (-8)
  | .ok _ => if gs_fl l &&& 16 ≠ 0 then t' = gr_ui t 0 8 (-5) else match gs_own l with
    | none => t' = gr_ui t 0 8 (-9)
    | some c => match gs_cls K c with
      | none => False
      | some C => if gs_kind C = 0 ∨ gs_kind C = 3 then t' = gr_ui t 0 8 (-5) else ∃ tF, gr_vF (gr_make t o 0 (nI c) (nI (gs_slots K (some c))) (nI us)) us (gs_slots K (some c)) 0 (gs_slot0 K (some c)) tF ∧ t' = gr_nIt t tF f e o dp us (gs_slots K (some c)) k (if gs_kind C = 4 then 3 else 2)
theorem gr_v0 {C : gs_C} {ty : Int32} : gs_v0 C ty = if ¬ ty ≤ 5 then -2 else if ¬ gs_kind C = 0 then 0 else if ty = 5 then 1 else 7 := by
  unfold gs_v0
  have e : (6 ≤ ty) ↔ ¬ ty ≤ 5 := by
    rw [Int32.not_le, Int32.lt_iff_toInt_lt, Int32.le_iff_toInt_le]
    show (6 : Int) ≤ _ ↔ (5 : Int) < _
    omega
  by_cases c1 : ty ≤ 5
  · have h6 : ¬ 6 ≤ ty := fun z => e.mp z c1
    simp only [if_neg h6, not_true_eq_false, c1, if_false, ne_eq]
  · simp only [if_pos (e.mpr c1), c1, not_false_eq_true, if_true]
theorem gs_first_lt {C : gs_C} {a : Nat} (hw : gs_wf K) (hC : gs_cls K a = some C) : gs_slots K (some a) = gs_first K C + (gs_fs C).length := by rw [gs_slots_cons hw hC]; omega
/-- all values of a chain of classes -/
theorem m_fill {t1 : gr_t} {ca : Nat} {k : Nat} {v4 : Value} {nn : Int32} {FN : Nat} (hd : 1 ≤ d) (Cl : gr_C t1 K) (hw : gs_wf K) (h6 : ∀ c, 6 ≤ c → gs_cls K c = none) (h25 : t1.1 0 25 = nI us) (hus : us + 24 ≤ 4000) (hFN : FN ≤ 24) {v0 : List Int64} (hv0 : v0.length = FN)
    (W : ∀ tF, gr_vF t1 us FN 0 v0 tF → ∀ w7 w8 : Value, gm_W E d 24 255 [.ref m, .int (nI f), .int (nI k), .int (nI ca), .int nn, .int (nI o), .int (-1), w7, w8] [] (gr_H h m tF) Q) :
    ∀ (q : Nat) (a : Option Nat) (tF : gr_t) (w7 w8 : Value), (∀ x, a = some x → x < q ∧ (gs_cls K x).isSome = true) → q ≤ 6 → gs_slot0 K a <+: v0 → gr_vF t1 us FN (gs_slots K a) v0 tF → gm_W E d 24 145 [.ref m, .int (nI f), .int (nI k), .int (nI ca), .int nn, .int (nI o), .int (gr_o a), w7, w8] [] (gr_H h m tF) Q := by
  intro q
  induction q with
  | zero =>
    intro a tF w7 w8 hq _ _ vF
    cases a with
    | some x => exact absurd (hq x rfl).1 (Nat.not_lt_zero x)
    | none =>
      have e0 : (gr_o none : Int32) < 0 := by decide
      have w := W tF vF w7 w8
      rw [r24_145]
      simp only [r24_0, r24_0n, r24_1, r24_4, r24_5, r24_6, r24_8, r24_11, r24_11n, r24_12, r24_17, r24_17n, r24_18, r24_21, r24_24, r24_24n, r24_25, r24_25n, r24_26, r24_29, r24_30, r24_31, r24_32, r24_36, r24_39, r24_40, r24_40n, r24_41, r24_44, r24_45, r24_46, r24_47, r24_47n, r24_48, r24_51, r24_52, r24_53, r24_55, r24_56, r24_59, r24_59n, r24_60, r24_65, r24_68, r24_69, r24_72, r24_72n, r24_73, r24_78, r24_81, r24_81n, r24_82, r24_85, r24_86, r24_87, r24_90, r24_90n, r24_91, r24_94, r24_95, r24_96, r24_97, r24_100, r24_100n, r24_101, r24_106, r24_106n, r24_107, r24_110, r24_113, r24_114, r24_114n, r24_115, r24_119, r24_119n, r24_120, r24_123, r24_124, r24_125, r24_126, r24_128, r24_128n, r24_129, r24_130, r24_131, r24_133, r24_133n, r24_134, r24_140, r24_142, r24_143, r24_147, r24_150, r24_151, r24_153, r24_155, r24_155n, r24_156, r24_159, r24_161, r24_162, r24_165, r24_165n, r24_166, r24_169, r24_170, r24_172, r24_173, r24_175, r24_176, r24_177, r24_179, r24_179n, r24_180, r24_183, r24_183n, r24_184, r24_187, r24_187n, r24_188, r24_193, r24_194, r24_196, r24_197, r24_199, r24_200, r24_203, r24_206, r24_209, r24_209n, r24_210, r24_213, r24_215, r24_216, r24_219, r24_220, r24_223, r24_225, r24_226, r24_229, r24_230, r24_233, r24_236, r24_237, r24_240, r24_243, r24_243n, r24_244, r24_247, r24_249, r24_250, r24_252, r24_256, r24_256i, r24_257, r24_260, r24_262, r24_263, r24_266, r24_266n, r24_267, r24_270, r24_271, r24_273, r24_274, r24_274n, r24_275, r24_278, r24_279, r24_279n, r24_280, r24_280n, r24_281, r24_284, r24_285, r24_286, r24_287, r24_290, r24_291, r24_294, r24_295, r24_300, r24_301, r24_301n, r24_302, r24_305, r24_306, r24_307, r24_308, r24_308n, r24_309, r24_310, r24_310n, r24_311, r24_314, r24_315, r24_316, r24_318, r24_322, i32_10, reduceIte, gm_cmp1, gm_cmp3, gm_cmp4, gm_kd_sf, gm_ln_sf, gm_sf_1, gm_sf_2, gm_nw_1, gm_nw_2, gm_k_int, gm_k_ref, gm_k_null, gm_k_u, gm_k_long, and_true, true_and, true_or, or_true, or_false, false_or, and_self, or_self, if_true, if_false, List.map_nil, List.map_cons, List.sum_nil, List.sum_cons, Nat.zero_le, Option.toList_some, Option.toList_none, List.cons_append, List.nil_append, ne_eq, not_false_eq_true, not_true_eq_false, nI_1, nI_add, Value.category, Nat.reduceAdd, Nat.reduceMod, Nat.reduceLeDiff, Nat.reduceLT, Nat.reduceEqDiff, Nat.reducePow, Nat.le_refl, Nat.add_left_cancel_iff, Nat.add_eq_left, Nat.left_eq_add, Nat.add_zero, g_k0, g_k1, g_l1, g_p4, g_a1, g_w1, g_k2, g_l2, g_p10, g_a2, g_w2, g_k3, g_l3, g_p11, g_a3, g_w3, g_k4, g_l4, g_p12, g_a4, g_w4, g_k5, g_l5, g_p13, g_a5, g_w5, g_k6, g_l6, g_p14, g_a6, g_w6, g_k7, g_l7, g_p15, g_a7, g_w7, g_k8, g_l8, g_p16, g_a8, g_w8, g_k9, g_l9, g_p17, g_a9, g_w9, g_k10, g_l10, g_p18, g_a10, g_w10, g_k11, g_l11, g_p19, g_a11, g_w11, g_k12, g_l12, g_p20, g_a12, g_w12, g_k13, g_l13, g_p21, g_a13, g_w13, g_k14, g_l14, g_p22, g_a14, g_w14, g_k15, g_l15, g_p24, g_a15, g_w15, g_k16, g_l16, g_p26, g_a16, g_w16, g_k17, g_l17, g_p27, g_a17, g_w17, g_k18, g_l18, g_p29, g_a18, g_w18, g_k19, g_l19, g_p30, g_a19, g_w19, g_k20, g_l20, g_p31, g_a20, g_w20, g_k21, g_l21, g_p32, g_a21, g_w21, g_k22, g_l22, g_p33, g_a22, g_w22, g_k23, g_l23, g_p34, g_a23, g_w23, g_k24, g_l24, g_p35, g_a24, g_w24, g_k25, g_l25, g_p36, g_a25, g_w25, g_k26, g_l26, g_p37, g_a26, g_w26, g_k27, g_l27, g_p38, g_a27, g_w27, g_k28, g_l28, g_p40, g_a28, g_w28, g_k29, g_l29, g_p41, g_a29, g_w29, g_k30, g_l30, g_p42, g_a30, g_w30, g_k31, g_l31, g_p43, g_a31, g_w31, g_k32, g_l32, g_p44, g_a32, g_w32, g_k33, g_l33, g_p45, g_a33, g_w33, g_k34, g_l34, g_p46, g_a34, g_w34, g_f0, g_s0, g_f1, g_s1, g_f2, g_s2, g_f3, g_s3, g_f5, g_s5, g_f6, g_s6, g_f7, g_s7, g_f8, g_s8, g_f9, g_s9, g_f23, g_s23, g_f25, g_s25, g_f28, g_s28, g_f39, g_s39, g_f47, g_s47, gr_ui_eq, gr_ui_2, gr_ul_eq, gr_ul_1, gr_ui_no, gr_ui_ni, gr_ul_no, gr_ul_ni, e0]
      exact w
  | succ q ih =>
    intro a tF w7 w8 hq q6 pre vF
    cases a with
    | none =>
      have e0 : (gr_o none : Int32) < 0 := by decide
      have w := W tF vF w7 w8
      rw [r24_145]
      simp only [r24_0, r24_0n, r24_1, r24_4, r24_5, r24_6, r24_8, r24_11, r24_11n, r24_12, r24_17, r24_17n, r24_18, r24_21, r24_24, r24_24n, r24_25, r24_25n, r24_26, r24_29, r24_30, r24_31, r24_32, r24_36, r24_39, r24_40, r24_40n, r24_41, r24_44, r24_45, r24_46, r24_47, r24_47n, r24_48, r24_51, r24_52, r24_53, r24_55, r24_56, r24_59, r24_59n, r24_60, r24_65, r24_68, r24_69, r24_72, r24_72n, r24_73, r24_78, r24_81, r24_81n, r24_82, r24_85, r24_86, r24_87, r24_90, r24_90n, r24_91, r24_94, r24_95, r24_96, r24_97, r24_100, r24_100n, r24_101, r24_106, r24_106n, r24_107, r24_110, r24_113, r24_114, r24_114n, r24_115, r24_119, r24_119n, r24_120, r24_123, r24_124, r24_125, r24_126, r24_128, r24_128n, r24_129, r24_130, r24_131, r24_133, r24_133n, r24_134, r24_140, r24_142, r24_143, r24_147, r24_150, r24_151, r24_153, r24_155, r24_155n, r24_156, r24_159, r24_161, r24_162, r24_165, r24_165n, r24_166, r24_169, r24_170, r24_172, r24_173, r24_175, r24_176, r24_177, r24_179, r24_179n, r24_180, r24_183, r24_183n, r24_184, r24_187, r24_187n, r24_188, r24_193, r24_194, r24_196, r24_197, r24_199, r24_200, r24_203, r24_206, r24_209, r24_209n, r24_210, r24_213, r24_215, r24_216, r24_219, r24_220, r24_223, r24_225, r24_226, r24_229, r24_230, r24_233, r24_236, r24_237, r24_240, r24_243, r24_243n, r24_244, r24_247, r24_249, r24_250, r24_252, r24_256, r24_256i, r24_257, r24_260, r24_262, r24_263, r24_266, r24_266n, r24_267, r24_270, r24_271, r24_273, r24_274, r24_274n, r24_275, r24_278, r24_279, r24_279n, r24_280, r24_280n, r24_281, r24_284, r24_285, r24_286, r24_287, r24_290, r24_291, r24_294, r24_295, r24_300, r24_301, r24_301n, r24_302, r24_305, r24_306, r24_307, r24_308, r24_308n, r24_309, r24_310, r24_310n, r24_311, r24_314, r24_315, r24_316, r24_318, r24_322, i32_10, reduceIte, gm_cmp1, gm_cmp3, gm_cmp4, gm_kd_sf, gm_ln_sf, gm_sf_1, gm_sf_2, gm_nw_1, gm_nw_2, gm_k_int, gm_k_ref, gm_k_null, gm_k_u, gm_k_long, and_true, true_and, true_or, or_true, or_false, false_or, and_self, or_self, if_true, if_false, List.map_nil, List.map_cons, List.sum_nil, List.sum_cons, Nat.zero_le, Option.toList_some, Option.toList_none, List.cons_append, List.nil_append, ne_eq, not_false_eq_true, not_true_eq_false, nI_1, nI_add, Value.category, Nat.reduceAdd, Nat.reduceMod, Nat.reduceLeDiff, Nat.reduceLT, Nat.reduceEqDiff, Nat.reducePow, Nat.le_refl, Nat.add_left_cancel_iff, Nat.add_eq_left, Nat.left_eq_add, Nat.add_zero, g_k0, g_k1, g_l1, g_p4, g_a1, g_w1, g_k2, g_l2, g_p10, g_a2, g_w2, g_k3, g_l3, g_p11, g_a3, g_w3, g_k4, g_l4, g_p12, g_a4, g_w4, g_k5, g_l5, g_p13, g_a5, g_w5, g_k6, g_l6, g_p14, g_a6, g_w6, g_k7, g_l7, g_p15, g_a7, g_w7, g_k8, g_l8, g_p16, g_a8, g_w8, g_k9, g_l9, g_p17, g_a9, g_w9, g_k10, g_l10, g_p18, g_a10, g_w10, g_k11, g_l11, g_p19, g_a11, g_w11, g_k12, g_l12, g_p20, g_a12, g_w12, g_k13, g_l13, g_p21, g_a13, g_w13, g_k14, g_l14, g_p22, g_a14, g_w14, g_k15, g_l15, g_p24, g_a15, g_w15, g_k16, g_l16, g_p26, g_a16, g_w16, g_k17, g_l17, g_p27, g_a17, g_w17, g_k18, g_l18, g_p29, g_a18, g_w18, g_k19, g_l19, g_p30, g_a19, g_w19, g_k20, g_l20, g_p31, g_a20, g_w20, g_k21, g_l21, g_p32, g_a21, g_w21, g_k22, g_l22, g_p33, g_a22, g_w22, g_k23, g_l23, g_p34, g_a23, g_w23, g_k24, g_l24, g_p35, g_a24, g_w24, g_k25, g_l25, g_p36, g_a25, g_w25, g_k26, g_l26, g_p37, g_a26, g_w26, g_k27, g_l27, g_p38, g_a27, g_w27, g_k28, g_l28, g_p40, g_a28, g_w28, g_k29, g_l29, g_p41, g_a29, g_w29, g_k30, g_l30, g_p42, g_a30, g_w30, g_k31, g_l31, g_p43, g_a31, g_w31, g_k32, g_l32, g_p44, g_a32, g_w32, g_k33, g_l33, g_p45, g_a33, g_w33, g_k34, g_l34, g_p46, g_a34, g_w34, g_f0, g_s0, g_f1, g_s1, g_f2, g_s2, g_f3, g_s3, g_f5, g_s5, g_f6, g_s6, g_f7, g_s7, g_f8, g_s8, g_f9, g_s9, g_f23, g_s23, g_f25, g_s25, g_f28, g_s28, g_f39, g_s39, g_f47, g_s47, gr_ui_eq, gr_ui_2, gr_ul_eq, gr_ul_1, gr_ui_no, gr_ui_ni, gr_ul_no, gr_ul_ni, e0]
      exact w
    | some x =>
      obtain ⟨xq, xs⟩ := hq x rfl
      obtain ⟨C, hC⟩ := Option.isSome_iff_exists.mp xs
      have x6 : x < 6 := by omega
      have eo : gr_o (some x) = nI x := rfl
      have sl := gs_first_lt hw hC
      have s0c := gs_slot0_cons hw hC
      have lenv : (gs_slot0 K (some x)).length = gs_slots K (some x) := gs_slot0_len
      have lenu : (gs_slot0 K (gs_sup C)).length = gs_first K C := gs_slot0_len
      have lle := pre.length_le
      have n0 : ¬ nI x < 0 := nI_pos (by omega)
      -- one class's own fields
      have inner : ∀ (j i : Nat) (tG : gr_t) (w8 : Value), i + j = (gs_fs C).length → (gr_vF t1 us FN (gs_slots K (some x)) v0 tG ∧ ∀ y, y < i → tG.2 15 (us + (gs_first K C + y)) = v0.getD (gs_first K C + y) 0) → gm_W E d 24 153 [.ref m, .int (nI f), .int (nI k), .int (nI ca), .int nn, .int (nI o), .int (nI x), .int (nI i), w8] [] (gr_H h m tG) Q := by
        intro j
        induction j with
        | zero =>
          intro i tG w8 hi vG
          have hi2 : i = (gs_fs C).length := by omega
          have ClG : gr_C tG K := fun c hc => by
            have z := Cl c hc
            rw [vG.1.1]
            cases e : gs_cls K c with
            | none => rw [e] at z; exact z
            | some D => rw [e] at z; obtain ⟨z1, z2, z3, z4, z5⟩ := z; exact ⟨z1, z2, z3, by rw [vG.1.2.1 3 c (by omega)]; exact z4, z5⟩
          have qC := ClG x x6
          rw [hC] at qC
          obtain ⟨k1, kr, k4, k3, k5, k5l, -, -, k9⟩ := qC
          have c1 : nI (gs_fs C).length ≤ nI i := by rw [hi2]; exact Int32.le_refl _
          have w := ih (gs_sup C) tG (.int (nI i)) w8 (fun y hy => by
            have g := (hw x C hC).2 y hy
            exact ⟨by omega, g.2⟩) (by omega) (by rw [s0c] at pre; exact (List.prefix_append _ _).trans pre) ⟨vG.1.1, vG.1.2.1, fun y y1 y2 => by
              have y1 : gs_first K C ≤ y := y1
              rcases Nat.lt_or_ge y (gs_slots K (some x)) with z | z
              · have := vG.2 (y - gs_first K C) (by omega)
                rw [show gs_first K C + (y - gs_first K C) = y by omega] at this
                exact this
              · exact vG.1.2.2 y z y2⟩
          rw [r24_153]
          simp only [r24_0, r24_0n, r24_1, r24_4, r24_5, r24_6, r24_8, r24_11, r24_11n, r24_12, r24_17, r24_17n, r24_18, r24_21, r24_24, r24_24n, r24_25, r24_25n, r24_26, r24_29, r24_30, r24_31, r24_32, r24_36, r24_39, r24_40, r24_40n, r24_41, r24_44, r24_45, r24_46, r24_47, r24_47n, r24_48, r24_51, r24_52, r24_53, r24_55, r24_56, r24_59, r24_59n, r24_60, r24_65, r24_68, r24_69, r24_72, r24_72n, r24_73, r24_78, r24_81, r24_81n, r24_82, r24_85, r24_86, r24_87, r24_90, r24_90n, r24_91, r24_94, r24_95, r24_96, r24_97, r24_100, r24_100n, r24_101, r24_106, r24_106n, r24_107, r24_110, r24_113, r24_114, r24_114n, r24_115, r24_119, r24_119n, r24_120, r24_123, r24_124, r24_125, r24_126, r24_128, r24_128n, r24_129, r24_130, r24_131, r24_133, r24_133n, r24_134, r24_140, r24_142, r24_143, r24_147, r24_150, r24_151, r24_155, r24_155n, r24_156, r24_159, r24_161, r24_162, r24_165, r24_165n, r24_166, r24_169, r24_170, r24_172, r24_173, r24_175, r24_176, r24_177, r24_179, r24_179n, r24_180, r24_183, r24_183n, r24_184, r24_187, r24_187n, r24_188, r24_193, r24_194, r24_196, r24_197, r24_199, r24_200, r24_203, r24_206, r24_209, r24_209n, r24_210, r24_213, r24_215, r24_216, r24_219, r24_220, r24_223, r24_225, r24_226, r24_229, r24_230, r24_233, r24_236, r24_237, r24_240, r24_243, r24_243n, r24_244, r24_247, r24_249, r24_250, r24_252, r24_256, r24_256i, r24_257, r24_260, r24_262, r24_263, r24_266, r24_266n, r24_267, r24_270, r24_271, r24_273, r24_274, r24_274n, r24_275, r24_278, r24_279, r24_279n, r24_280, r24_280n, r24_281, r24_284, r24_285, r24_286, r24_287, r24_290, r24_291, r24_294, r24_295, r24_300, r24_301, r24_301n, r24_302, r24_305, r24_306, r24_307, r24_308, r24_308n, r24_309, r24_310, r24_310n, r24_311, r24_314, r24_315, r24_316, r24_318, r24_322, i32_10, reduceIte, gm_cmp1, gm_cmp3, gm_cmp4, gm_kd_sf, gm_ln_sf, gm_sf_1, gm_sf_2, gm_nw_1, gm_nw_2, gm_k_int, gm_k_ref, gm_k_null, gm_k_u, gm_k_long, and_true, true_and, true_or, or_true, or_false, false_or, and_self, or_self, if_true, if_false, List.map_nil, List.map_cons, List.sum_nil, List.sum_cons, Nat.zero_le, Option.toList_some, Option.toList_none, List.cons_append, List.nil_append, ne_eq, not_false_eq_true, not_true_eq_false, nI_1, nI_add, Value.category, Nat.reduceAdd, Nat.reduceMod, Nat.reduceLeDiff, Nat.reduceLT, Nat.reduceEqDiff, Nat.reducePow, Nat.le_refl, Nat.add_left_cancel_iff, Nat.add_eq_left, Nat.left_eq_add, Nat.add_zero, g_k0, g_k1, g_l1, g_p4, g_a1, g_w1, g_k2, g_l2, g_p10, g_a2, g_w2, g_k3, g_l3, g_p11, g_a3, g_w3, g_k4, g_l4, g_p12, g_a4, g_w4, g_k5, g_l5, g_p13, g_a5, g_w5, g_k6, g_l6, g_p14, g_a6, g_w6, g_k7, g_l7, g_p15, g_a7, g_w7, g_k8, g_l8, g_p16, g_a8, g_w8, g_k9, g_l9, g_p17, g_a9, g_w9, g_k10, g_l10, g_p18, g_a10, g_w10, g_k11, g_l11, g_p19, g_a11, g_w11, g_k12, g_l12, g_p20, g_a12, g_w12, g_k13, g_l13, g_p21, g_a13, g_w13, g_k14, g_l14, g_p22, g_a14, g_w14, g_k15, g_l15, g_p24, g_a15, g_w15, g_k16, g_l16, g_p26, g_a16, g_w16, g_k17, g_l17, g_p27, g_a17, g_w17, g_k18, g_l18, g_p29, g_a18, g_w18, g_k19, g_l19, g_p30, g_a19, g_w19, g_k20, g_l20, g_p31, g_a20, g_w20, g_k21, g_l21, g_p32, g_a21, g_w21, g_k22, g_l22, g_p33, g_a22, g_w22, g_k23, g_l23, g_p34, g_a23, g_w23, g_k24, g_l24, g_p35, g_a24, g_w24, g_k25, g_l25, g_p36, g_a25, g_w25, g_k26, g_l26, g_p37, g_a26, g_w26, g_k27, g_l27, g_p38, g_a27, g_w27, g_k28, g_l28, g_p40, g_a28, g_w28, g_k29, g_l29, g_p41, g_a29, g_w29, g_k30, g_l30, g_p42, g_a30, g_w30, g_k31, g_l31, g_p43, g_a31, g_w31, g_k32, g_l32, g_p44, g_a32, g_w32, g_k33, g_l33, g_p45, g_a33, g_w33, g_k34, g_l34, g_p46, g_a34, g_w34, g_f0, g_s0, g_f1, g_s1, g_f2, g_s2, g_f3, g_s3, g_f5, g_s5, g_f6, g_s6, g_f7, g_s7, g_f8, g_s8, g_f9, g_s9, g_f23, g_s23, g_f25, g_s25, g_f28, g_s28, g_f39, g_s39, g_f47, g_s47, gr_ui_eq, gr_ui_2, gr_ul_eq, gr_ul_1, gr_ui_no, gr_ui_ni, gr_ul_no, gr_ul_ni, x6, k5, c1, k4]
          exact w
        | succ j ih2 =>
          intro i tG w8 hi vG
          have ClG : gr_C tG K := fun c hc => by
            have z := Cl c hc
            rw [vG.1.1]
            cases e : gs_cls K c with
            | none => rw [e] at z; exact z
            | some D => rw [e] at z; obtain ⟨z1, z2, z3, z4, z5⟩ := z; exact ⟨z1, z2, z3, by rw [vG.1.2.1 3 c (by omega)]; exact z4, z5⟩
          have qC := ClG x x6
          rw [hC] at qC
          obtain ⟨k1, kr, k4, k3, k5, k5l, -, -, k9⟩ := qC
          have c1 : ¬ nI (gs_fs C).length ≤ nI i := by rw [Int32.not_le]; exact nI_lt (by omega) (by omega)
          obtain ⟨p, hp⟩ : ∃ p, (gs_fs C)[i]? = some p := ⟨_, List.getElem?_eq_getElem (by omega)⟩
          obtain ⟨e6, e7⟩ := k9 i p hp
          have i4 : (4 : Int32) * nI x = nI (4 * x) := (Int32.ofNat_mul 4 x).symm
          have ia : nI (4 * x) + nI i = nI (4 * x + i) := nI_add _ _
          have ib : 4 * x + i < 24 := by omega
          have g25 : tG.1 0 25 = nI us := by rw [vG.1.1]; exact h25
          have ua : nI us + nI (gs_first K C) = nI (us + gs_first K C) := nI_add _ _
          have ub : nI (us + gs_first K C) + nI i = nI (us + gs_first K C + i) := nI_add _ _
          have uc : us + gs_first K C + i < 4000 := by omega
          have vv : v0.getD (gs_first K C + i) 0 = gs_v0 C p.2 := by
            have h1 : (gs_slot0 K (some x))[gs_first K C + i]? = some (gs_v0 C p.2) := by
              rw [s0c, List.getElem?_append_right (by omega), lenu, Nat.add_sub_cancel_left, List.getElem?_map, hp]
              rfl
            have h2 := gs_pre_get pre h1
            rw [List.getD_eq_getElem?_getD, h2]
            rfl
          have go : ∀ (val : Int64), val = gs_v0 C p.2 → gm_W E d 24 236 [.ref m, .int (nI f), .int (nI k), .int (nI ca), .int nn, .int (nI o), .int (nI x), .int (nI i), .int p.2] [.long val, .int (nI (us + gs_first K C + i)), .ref (m + 15)] (gr_H h m tG) Q := by
            intro val hval
            have w := ih2 (i + 1) (gr_ul tG 15 (us + gs_first K C + i) val) (.int p.2) (by omega) ⟨⟨vG.1.1, fun y z hz => ?_, fun y y1 y2 => ?_⟩, fun y hy => ?_⟩
            · simp only [r24_0, r24_0n, r24_1, r24_4, r24_5, r24_6, r24_8, r24_11, r24_11n, r24_12, r24_17, r24_17n, r24_18, r24_21, r24_24, r24_24n, r24_25, r24_25n, r24_26, r24_29, r24_30, r24_31, r24_32, r24_36, r24_39, r24_40, r24_40n, r24_41, r24_44, r24_45, r24_46, r24_47, r24_47n, r24_48, r24_51, r24_52, r24_53, r24_55, r24_56, r24_59, r24_59n, r24_60, r24_65, r24_68, r24_69, r24_72, r24_72n, r24_73, r24_78, r24_81, r24_81n, r24_82, r24_85, r24_86, r24_87, r24_90, r24_90n, r24_91, r24_94, r24_95, r24_96, r24_97, r24_100, r24_100n, r24_101, r24_106, r24_106n, r24_107, r24_110, r24_113, r24_114, r24_114n, r24_115, r24_119, r24_119n, r24_120, r24_123, r24_124, r24_125, r24_126, r24_128, r24_128n, r24_129, r24_130, r24_131, r24_133, r24_133n, r24_134, r24_140, r24_142, r24_143, r24_147, r24_150, r24_151, r24_155, r24_155n, r24_156, r24_159, r24_161, r24_162, r24_165, r24_165n, r24_166, r24_169, r24_170, r24_172, r24_173, r24_175, r24_176, r24_177, r24_179, r24_179n, r24_180, r24_183, r24_183n, r24_184, r24_187, r24_187n, r24_188, r24_193, r24_194, r24_196, r24_197, r24_199, r24_200, r24_203, r24_206, r24_209, r24_209n, r24_210, r24_213, r24_215, r24_216, r24_219, r24_220, r24_223, r24_225, r24_226, r24_229, r24_230, r24_233, r24_236, r24_237, r24_240, r24_243, r24_243n, r24_244, r24_247, r24_249, r24_250, r24_252, r24_256, r24_256i, r24_257, r24_260, r24_262, r24_263, r24_266, r24_266n, r24_267, r24_270, r24_271, r24_273, r24_274, r24_274n, r24_275, r24_278, r24_279, r24_279n, r24_280, r24_280n, r24_281, r24_284, r24_285, r24_286, r24_287, r24_290, r24_291, r24_294, r24_295, r24_300, r24_301, r24_301n, r24_302, r24_305, r24_306, r24_307, r24_308, r24_308n, r24_309, r24_310, r24_310n, r24_311, r24_314, r24_315, r24_316, r24_318, r24_322, i32_10, reduceIte, gm_cmp1, gm_cmp3, gm_cmp4, gm_kd_sf, gm_ln_sf, gm_sf_1, gm_sf_2, gm_nw_1, gm_nw_2, gm_k_int, gm_k_ref, gm_k_null, gm_k_u, gm_k_long, and_true, true_and, true_or, or_true, or_false, false_or, and_self, or_self, if_true, if_false, List.map_nil, List.map_cons, List.sum_nil, List.sum_cons, Nat.zero_le, Option.toList_some, Option.toList_none, List.cons_append, List.nil_append, ne_eq, not_false_eq_true, not_true_eq_false, nI_1, nI_add, Value.category, Nat.reduceAdd, Nat.reduceMod, Nat.reduceLeDiff, Nat.reduceLT, Nat.reduceEqDiff, Nat.reducePow, Nat.le_refl, Nat.add_left_cancel_iff, Nat.add_eq_left, Nat.left_eq_add, Nat.add_zero, g_k0, g_k1, g_l1, g_p4, g_a1, g_w1, g_k2, g_l2, g_p10, g_a2, g_w2, g_k3, g_l3, g_p11, g_a3, g_w3, g_k4, g_l4, g_p12, g_a4, g_w4, g_k5, g_l5, g_p13, g_a5, g_w5, g_k6, g_l6, g_p14, g_a6, g_w6, g_k7, g_l7, g_p15, g_a7, g_w7, g_k8, g_l8, g_p16, g_a8, g_w8, g_k9, g_l9, g_p17, g_a9, g_w9, g_k10, g_l10, g_p18, g_a10, g_w10, g_k11, g_l11, g_p19, g_a11, g_w11, g_k12, g_l12, g_p20, g_a12, g_w12, g_k13, g_l13, g_p21, g_a13, g_w13, g_k14, g_l14, g_p22, g_a14, g_w14, g_k15, g_l15, g_p24, g_a15, g_w15, g_k16, g_l16, g_p26, g_a16, g_w16, g_k17, g_l17, g_p27, g_a17, g_w17, g_k18, g_l18, g_p29, g_a18, g_w18, g_k19, g_l19, g_p30, g_a19, g_w19, g_k20, g_l20, g_p31, g_a20, g_w20, g_k21, g_l21, g_p32, g_a21, g_w21, g_k22, g_l22, g_p33, g_a22, g_w22, g_k23, g_l23, g_p34, g_a23, g_w23, g_k24, g_l24, g_p35, g_a24, g_w24, g_k25, g_l25, g_p36, g_a25, g_w25, g_k26, g_l26, g_p37, g_a26, g_w26, g_k27, g_l27, g_p38, g_a27, g_w27, g_k28, g_l28, g_p40, g_a28, g_w28, g_k29, g_l29, g_p41, g_a29, g_w29, g_k30, g_l30, g_p42, g_a30, g_w30, g_k31, g_l31, g_p43, g_a31, g_w31, g_k32, g_l32, g_p44, g_a32, g_w32, g_k33, g_l33, g_p45, g_a33, g_w33, g_k34, g_l34, g_p46, g_a34, g_w34, g_f0, g_s0, g_f1, g_s1, g_f2, g_s2, g_f3, g_s3, g_f5, g_s5, g_f6, g_s6, g_f7, g_s7, g_f8, g_s8, g_f9, g_s9, g_f23, g_s23, g_f25, g_s25, g_f28, g_s28, g_f39, g_s39, g_f47, g_s47, gr_ui_eq, gr_ui_2, gr_ul_eq, gr_ul_1, gr_ui_no, gr_ui_ni, gr_ul_no, gr_ul_ni, uc]
              exact w
            · show (if y = 15 ∧ z = us + gs_first K C + i then val else tG.2 y z) = _
              rw [if_neg (by omega)]
              exact vG.1.2.1 y z hz
            · show (if 15 = 15 ∧ us + y = us + gs_first K C + i then val else tG.2 15 (us + y)) = _
              rw [if_neg (by omega)]
              exact vG.1.2.2 y y1 y2
            · show (if 15 = 15 ∧ us + (gs_first K C + y) = us + gs_first K C + i then val else tG.2 15 (us + (gs_first K C + y))) = _
              by_cases z : y = i
              · rw [if_pos ⟨rfl, by omega⟩, z, vv, hval]
              · rw [if_neg (by omega)]
                exact vG.2 y (by omega)
          rw [r24_153]
          simp only [r24_0, r24_0n, r24_1, r24_4, r24_5, r24_6, r24_8, r24_11, r24_11n, r24_12, r24_17, r24_17n, r24_18, r24_21, r24_24, r24_24n, r24_25, r24_25n, r24_26, r24_29, r24_30, r24_31, r24_32, r24_36, r24_39, r24_40, r24_40n, r24_41, r24_44, r24_45, r24_46, r24_47, r24_47n, r24_48, r24_51, r24_52, r24_53, r24_55, r24_56, r24_59, r24_59n, r24_60, r24_65, r24_68, r24_69, r24_72, r24_72n, r24_73, r24_78, r24_81, r24_81n, r24_82, r24_85, r24_86, r24_87, r24_90, r24_90n, r24_91, r24_94, r24_95, r24_96, r24_97, r24_100, r24_100n, r24_101, r24_106, r24_106n, r24_107, r24_110, r24_113, r24_114, r24_114n, r24_115, r24_119, r24_119n, r24_120, r24_123, r24_124, r24_125, r24_126, r24_128, r24_128n, r24_129, r24_130, r24_131, r24_133, r24_133n, r24_134, r24_140, r24_142, r24_143, r24_147, r24_150, r24_151, r24_155, r24_155n, r24_156, r24_159, r24_161, r24_162, r24_165, r24_165n, r24_166, r24_169, r24_170, r24_172, r24_173, r24_175, r24_176, r24_177, r24_179, r24_179n, r24_180, r24_183, r24_183n, r24_184, r24_187, r24_187n, r24_188, r24_193, r24_194, r24_196, r24_197, r24_199, r24_200, r24_203, r24_206, r24_209, r24_209n, r24_210, r24_213, r24_215, r24_216, r24_219, r24_220, r24_223, r24_225, r24_226, r24_229, r24_230, r24_233, r24_237, r24_240, r24_243, r24_243n, r24_244, r24_247, r24_249, r24_250, r24_252, r24_256, r24_256i, r24_257, r24_260, r24_262, r24_263, r24_266, r24_266n, r24_267, r24_270, r24_271, r24_273, r24_274, r24_274n, r24_275, r24_278, r24_279, r24_279n, r24_280, r24_280n, r24_281, r24_284, r24_285, r24_286, r24_287, r24_290, r24_291, r24_294, r24_295, r24_300, r24_301, r24_301n, r24_302, r24_305, r24_306, r24_307, r24_308, r24_308n, r24_309, r24_310, r24_310n, r24_311, r24_314, r24_315, r24_316, r24_318, r24_322, i32_10, reduceIte, gm_cmp1, gm_cmp3, gm_cmp4, gm_kd_sf, gm_ln_sf, gm_sf_1, gm_sf_2, gm_nw_1, gm_nw_2, gm_k_int, gm_k_ref, gm_k_null, gm_k_u, gm_k_long, and_true, true_and, true_or, or_true, or_false, false_or, and_self, or_self, if_true, if_false, List.map_nil, List.map_cons, List.sum_nil, List.sum_cons, Nat.zero_le, Option.toList_some, Option.toList_none, List.cons_append, List.nil_append, ne_eq, not_false_eq_true, not_true_eq_false, nI_1, nI_add, Value.category, Nat.reduceAdd, Nat.reduceMod, Nat.reduceLeDiff, Nat.reduceLT, Nat.reduceEqDiff, Nat.reducePow, Nat.le_refl, Nat.add_left_cancel_iff, Nat.add_eq_left, Nat.left_eq_add, Nat.add_zero, g_k0, g_k1, g_l1, g_p4, g_a1, g_w1, g_k2, g_l2, g_p10, g_a2, g_w2, g_k3, g_l3, g_p11, g_a3, g_w3, g_k4, g_l4, g_p12, g_a4, g_w4, g_k5, g_l5, g_p13, g_a5, g_w5, g_k6, g_l6, g_p14, g_a6, g_w6, g_k7, g_l7, g_p15, g_a7, g_w7, g_k8, g_l8, g_p16, g_a8, g_w8, g_k9, g_l9, g_p17, g_a9, g_w9, g_k10, g_l10, g_p18, g_a10, g_w10, g_k11, g_l11, g_p19, g_a11, g_w11, g_k12, g_l12, g_p20, g_a12, g_w12, g_k13, g_l13, g_p21, g_a13, g_w13, g_k14, g_l14, g_p22, g_a14, g_w14, g_k15, g_l15, g_p24, g_a15, g_w15, g_k16, g_l16, g_p26, g_a16, g_w16, g_k17, g_l17, g_p27, g_a17, g_w17, g_k18, g_l18, g_p29, g_a18, g_w18, g_k19, g_l19, g_p30, g_a19, g_w19, g_k20, g_l20, g_p31, g_a20, g_w20, g_k21, g_l21, g_p32, g_a21, g_w21, g_k22, g_l22, g_p33, g_a22, g_w22, g_k23, g_l23, g_p34, g_a23, g_w23, g_k24, g_l24, g_p35, g_a24, g_w24, g_k25, g_l25, g_p36, g_a25, g_w25, g_k26, g_l26, g_p37, g_a26, g_w26, g_k27, g_l27, g_p38, g_a27, g_w27, g_k28, g_l28, g_p40, g_a28, g_w28, g_k29, g_l29, g_p41, g_a29, g_w29, g_k30, g_l30, g_p42, g_a30, g_w30, g_k31, g_l31, g_p43, g_a31, g_w31, g_k32, g_l32, g_p44, g_a32, g_w32, g_k33, g_l33, g_p45, g_a33, g_w33, g_k34, g_l34, g_p46, g_a34, g_w34, g_f0, g_s0, g_f1, g_s1, g_f2, g_s2, g_f3, g_s3, g_f5, g_s5, g_f6, g_s6, g_f7, g_s7, g_f8, g_s8, g_f9, g_s9, g_f23, g_s23, g_f25, g_s25, g_f28, g_s28, g_f39, g_s39, g_f47, g_s47, gr_ui_eq, gr_ui_2, gr_ul_eq, gr_ul_1, gr_ui_no, gr_ui_ni, gr_ul_no, gr_ul_ni, x6, k5, c1, i4, ia, ib, e7, g25]
          refine c24_190 (by simp [Value.category]) g_k0 (by omega) (m_firstSlot ClG hw h6 hC) (gx_kn ?_) gx_kx
          rw [gr_v0] at go
          by_cases t1' : p.2 ≤ 5
          · rw [if_neg (fun z => z t1')] at go
            by_cases t2' : gs_kind C = 0
            · rw [if_neg (fun z => z t2')] at go
              by_cases t3' : p.2 = 5
              · rw [if_pos t3'] at go
                have g := go 1 rfl
                rw [t3'] at g t1'
                simp only [r24_0, r24_0n, r24_1, r24_4, r24_5, r24_6, r24_8, r24_11, r24_11n, r24_12, r24_17, r24_17n, r24_18, r24_21, r24_24, r24_24n, r24_25, r24_25n, r24_26, r24_29, r24_30, r24_31, r24_32, r24_36, r24_39, r24_40, r24_40n, r24_41, r24_44, r24_45, r24_46, r24_47, r24_47n, r24_48, r24_51, r24_52, r24_53, r24_55, r24_56, r24_59, r24_59n, r24_60, r24_65, r24_68, r24_69, r24_72, r24_72n, r24_73, r24_78, r24_81, r24_81n, r24_82, r24_85, r24_86, r24_87, r24_90, r24_90n, r24_91, r24_94, r24_95, r24_96, r24_97, r24_100, r24_100n, r24_101, r24_106, r24_106n, r24_107, r24_110, r24_113, r24_114, r24_114n, r24_115, r24_119, r24_119n, r24_120, r24_123, r24_124, r24_125, r24_126, r24_128, r24_128n, r24_129, r24_130, r24_131, r24_133, r24_133n, r24_134, r24_140, r24_142, r24_143, r24_147, r24_150, r24_151, r24_155, r24_155n, r24_156, r24_159, r24_161, r24_162, r24_165, r24_165n, r24_166, r24_169, r24_170, r24_172, r24_173, r24_175, r24_176, r24_177, r24_179, r24_179n, r24_180, r24_183, r24_183n, r24_184, r24_187, r24_187n, r24_188, r24_193, r24_194, r24_196, r24_197, r24_199, r24_200, r24_203, r24_206, r24_209, r24_209n, r24_210, r24_213, r24_215, r24_216, r24_219, r24_220, r24_223, r24_225, r24_226, r24_229, r24_230, r24_233, r24_237, r24_240, r24_243, r24_243n, r24_244, r24_247, r24_249, r24_250, r24_252, r24_256, r24_256i, r24_257, r24_260, r24_262, r24_263, r24_266, r24_266n, r24_267, r24_270, r24_271, r24_273, r24_274, r24_274n, r24_275, r24_278, r24_279, r24_279n, r24_280, r24_280n, r24_281, r24_284, r24_285, r24_286, r24_287, r24_290, r24_291, r24_294, r24_295, r24_300, r24_301, r24_301n, r24_302, r24_305, r24_306, r24_307, r24_308, r24_308n, r24_309, r24_310, r24_310n, r24_311, r24_314, r24_315, r24_316, r24_318, r24_322, i32_10, reduceIte, gm_cmp1, gm_cmp3, gm_cmp4, gm_kd_sf, gm_ln_sf, gm_sf_1, gm_sf_2, gm_nw_1, gm_nw_2, gm_k_int, gm_k_ref, gm_k_null, gm_k_u, gm_k_long, and_true, true_and, true_or, or_true, or_false, false_or, and_self, or_self, if_true, if_false, List.map_nil, List.map_cons, List.sum_nil, List.sum_cons, Nat.zero_le, Option.toList_some, Option.toList_none, List.cons_append, List.nil_append, ne_eq, not_false_eq_true, not_true_eq_false, nI_1, nI_add, Value.category, Nat.reduceAdd, Nat.reduceMod, Nat.reduceLeDiff, Nat.reduceLT, Nat.reduceEqDiff, Nat.reducePow, Nat.le_refl, Nat.add_left_cancel_iff, Nat.add_eq_left, Nat.left_eq_add, Nat.add_zero, g_k0, g_k1, g_l1, g_p4, g_a1, g_w1, g_k2, g_l2, g_p10, g_a2, g_w2, g_k3, g_l3, g_p11, g_a3, g_w3, g_k4, g_l4, g_p12, g_a4, g_w4, g_k5, g_l5, g_p13, g_a5, g_w5, g_k6, g_l6, g_p14, g_a6, g_w6, g_k7, g_l7, g_p15, g_a7, g_w7, g_k8, g_l8, g_p16, g_a8, g_w8, g_k9, g_l9, g_p17, g_a9, g_w9, g_k10, g_l10, g_p18, g_a10, g_w10, g_k11, g_l11, g_p19, g_a11, g_w11, g_k12, g_l12, g_p20, g_a12, g_w12, g_k13, g_l13, g_p21, g_a13, g_w13, g_k14, g_l14, g_p22, g_a14, g_w14, g_k15, g_l15, g_p24, g_a15, g_w15, g_k16, g_l16, g_p26, g_a16, g_w16, g_k17, g_l17, g_p27, g_a17, g_w17, g_k18, g_l18, g_p29, g_a18, g_w18, g_k19, g_l19, g_p30, g_a19, g_w19, g_k20, g_l20, g_p31, g_a20, g_w20, g_k21, g_l21, g_p32, g_a21, g_w21, g_k22, g_l22, g_p33, g_a22, g_w22, g_k23, g_l23, g_p34, g_a23, g_w23, g_k24, g_l24, g_p35, g_a24, g_w24, g_k25, g_l25, g_p36, g_a25, g_w25, g_k26, g_l26, g_p37, g_a26, g_w26, g_k27, g_l27, g_p38, g_a27, g_w27, g_k28, g_l28, g_p40, g_a28, g_w28, g_k29, g_l29, g_p41, g_a29, g_w29, g_k30, g_l30, g_p42, g_a30, g_w30, g_k31, g_l31, g_p43, g_a31, g_w31, g_k32, g_l32, g_p44, g_a32, g_w32, g_k33, g_l33, g_p45, g_a33, g_w33, g_k34, g_l34, g_p46, g_a34, g_w34, g_f0, g_s0, g_f1, g_s1, g_f2, g_s2, g_f3, g_s3, g_f5, g_s5, g_f6, g_s6, g_f7, g_s7, g_f8, g_s8, g_f9, g_s9, g_f23, g_s23, g_f25, g_s25, g_f28, g_s28, g_f39, g_s39, g_f47, g_s47, gr_ui_eq, gr_ui_2, gr_ul_eq, gr_ul_1, gr_ui_no, gr_ui_ni, gr_ul_no, gr_ul_ni, ua, ub, t3', t1', x6, k1, t2', eq_self]
                exact g
              · rw [if_neg t3'] at go
                have g := go 7 rfl
                simp only [r24_0, r24_0n, r24_1, r24_4, r24_5, r24_6, r24_8, r24_11, r24_11n, r24_12, r24_17, r24_17n, r24_18, r24_21, r24_24, r24_24n, r24_25, r24_25n, r24_26, r24_29, r24_30, r24_31, r24_32, r24_36, r24_39, r24_40, r24_40n, r24_41, r24_44, r24_45, r24_46, r24_47, r24_47n, r24_48, r24_51, r24_52, r24_53, r24_55, r24_56, r24_59, r24_59n, r24_60, r24_65, r24_68, r24_69, r24_72, r24_72n, r24_73, r24_78, r24_81, r24_81n, r24_82, r24_85, r24_86, r24_87, r24_90, r24_90n, r24_91, r24_94, r24_95, r24_96, r24_97, r24_100, r24_100n, r24_101, r24_106, r24_106n, r24_107, r24_110, r24_113, r24_114, r24_114n, r24_115, r24_119, r24_119n, r24_120, r24_123, r24_124, r24_125, r24_126, r24_128, r24_128n, r24_129, r24_130, r24_131, r24_133, r24_133n, r24_134, r24_140, r24_142, r24_143, r24_147, r24_150, r24_151, r24_155, r24_155n, r24_156, r24_159, r24_161, r24_162, r24_165, r24_165n, r24_166, r24_169, r24_170, r24_172, r24_173, r24_175, r24_176, r24_177, r24_179, r24_179n, r24_180, r24_183, r24_183n, r24_184, r24_187, r24_187n, r24_188, r24_193, r24_194, r24_196, r24_197, r24_199, r24_200, r24_203, r24_206, r24_209, r24_209n, r24_210, r24_213, r24_215, r24_216, r24_219, r24_220, r24_223, r24_225, r24_226, r24_229, r24_230, r24_233, r24_237, r24_240, r24_243, r24_243n, r24_244, r24_247, r24_249, r24_250, r24_252, r24_256, r24_256i, r24_257, r24_260, r24_262, r24_263, r24_266, r24_266n, r24_267, r24_270, r24_271, r24_273, r24_274, r24_274n, r24_275, r24_278, r24_279, r24_279n, r24_280, r24_280n, r24_281, r24_284, r24_285, r24_286, r24_287, r24_290, r24_291, r24_294, r24_295, r24_300, r24_301, r24_301n, r24_302, r24_305, r24_306, r24_307, r24_308, r24_308n, r24_309, r24_310, r24_310n, r24_311, r24_314, r24_315, r24_316, r24_318, r24_322, i32_10, reduceIte, gm_cmp1, gm_cmp3, gm_cmp4, gm_kd_sf, gm_ln_sf, gm_sf_1, gm_sf_2, gm_nw_1, gm_nw_2, gm_k_int, gm_k_ref, gm_k_null, gm_k_u, gm_k_long, and_true, true_and, true_or, or_true, or_false, false_or, and_self, or_self, if_true, if_false, List.map_nil, List.map_cons, List.sum_nil, List.sum_cons, Nat.zero_le, Option.toList_some, Option.toList_none, List.cons_append, List.nil_append, ne_eq, not_false_eq_true, not_true_eq_false, nI_1, nI_add, Value.category, Nat.reduceAdd, Nat.reduceMod, Nat.reduceLeDiff, Nat.reduceLT, Nat.reduceEqDiff, Nat.reducePow, Nat.le_refl, Nat.add_left_cancel_iff, Nat.add_eq_left, Nat.left_eq_add, Nat.add_zero, g_k0, g_k1, g_l1, g_p4, g_a1, g_w1, g_k2, g_l2, g_p10, g_a2, g_w2, g_k3, g_l3, g_p11, g_a3, g_w3, g_k4, g_l4, g_p12, g_a4, g_w4, g_k5, g_l5, g_p13, g_a5, g_w5, g_k6, g_l6, g_p14, g_a6, g_w6, g_k7, g_l7, g_p15, g_a7, g_w7, g_k8, g_l8, g_p16, g_a8, g_w8, g_k9, g_l9, g_p17, g_a9, g_w9, g_k10, g_l10, g_p18, g_a10, g_w10, g_k11, g_l11, g_p19, g_a11, g_w11, g_k12, g_l12, g_p20, g_a12, g_w12, g_k13, g_l13, g_p21, g_a13, g_w13, g_k14, g_l14, g_p22, g_a14, g_w14, g_k15, g_l15, g_p24, g_a15, g_w15, g_k16, g_l16, g_p26, g_a16, g_w16, g_k17, g_l17, g_p27, g_a17, g_w17, g_k18, g_l18, g_p29, g_a18, g_w18, g_k19, g_l19, g_p30, g_a19, g_w19, g_k20, g_l20, g_p31, g_a20, g_w20, g_k21, g_l21, g_p32, g_a21, g_w21, g_k22, g_l22, g_p33, g_a22, g_w22, g_k23, g_l23, g_p34, g_a23, g_w23, g_k24, g_l24, g_p35, g_a24, g_w24, g_k25, g_l25, g_p36, g_a25, g_w25, g_k26, g_l26, g_p37, g_a26, g_w26, g_k27, g_l27, g_p38, g_a27, g_w27, g_k28, g_l28, g_p40, g_a28, g_w28, g_k29, g_l29, g_p41, g_a29, g_w29, g_k30, g_l30, g_p42, g_a30, g_w30, g_k31, g_l31, g_p43, g_a31, g_w31, g_k32, g_l32, g_p44, g_a32, g_w32, g_k33, g_l33, g_p45, g_a33, g_w33, g_k34, g_l34, g_p46, g_a34, g_w34, g_f0, g_s0, g_f1, g_s1, g_f2, g_s2, g_f3, g_s3, g_f5, g_s5, g_f6, g_s6, g_f7, g_s7, g_f8, g_s8, g_f9, g_s9, g_f23, g_s23, g_f25, g_s25, g_f28, g_s28, g_f39, g_s39, g_f47, g_s47, gr_ui_eq, gr_ui_2, gr_ul_eq, gr_ul_1, gr_ui_no, gr_ui_ni, gr_ul_no, gr_ul_ni, ua, ub, t1', x6, k1, t2', t3']
                exact g
            · rw [if_pos t2'] at go
              have g := go 0 rfl
              simp only [r24_0, r24_0n, r24_1, r24_4, r24_5, r24_6, r24_8, r24_11, r24_11n, r24_12, r24_17, r24_17n, r24_18, r24_21, r24_24, r24_24n, r24_25, r24_25n, r24_26, r24_29, r24_30, r24_31, r24_32, r24_36, r24_39, r24_40, r24_40n, r24_41, r24_44, r24_45, r24_46, r24_47, r24_47n, r24_48, r24_51, r24_52, r24_53, r24_55, r24_56, r24_59, r24_59n, r24_60, r24_65, r24_68, r24_69, r24_72, r24_72n, r24_73, r24_78, r24_81, r24_81n, r24_82, r24_85, r24_86, r24_87, r24_90, r24_90n, r24_91, r24_94, r24_95, r24_96, r24_97, r24_100, r24_100n, r24_101, r24_106, r24_106n, r24_107, r24_110, r24_113, r24_114, r24_114n, r24_115, r24_119, r24_119n, r24_120, r24_123, r24_124, r24_125, r24_126, r24_128, r24_128n, r24_129, r24_130, r24_131, r24_133, r24_133n, r24_134, r24_140, r24_142, r24_143, r24_147, r24_150, r24_151, r24_155, r24_155n, r24_156, r24_159, r24_161, r24_162, r24_165, r24_165n, r24_166, r24_169, r24_170, r24_172, r24_173, r24_175, r24_176, r24_177, r24_179, r24_179n, r24_180, r24_183, r24_183n, r24_184, r24_187, r24_187n, r24_188, r24_193, r24_194, r24_196, r24_197, r24_199, r24_200, r24_203, r24_206, r24_209, r24_209n, r24_210, r24_213, r24_215, r24_216, r24_219, r24_220, r24_223, r24_225, r24_226, r24_229, r24_230, r24_233, r24_237, r24_240, r24_243, r24_243n, r24_244, r24_247, r24_249, r24_250, r24_252, r24_256, r24_256i, r24_257, r24_260, r24_262, r24_263, r24_266, r24_266n, r24_267, r24_270, r24_271, r24_273, r24_274, r24_274n, r24_275, r24_278, r24_279, r24_279n, r24_280, r24_280n, r24_281, r24_284, r24_285, r24_286, r24_287, r24_290, r24_291, r24_294, r24_295, r24_300, r24_301, r24_301n, r24_302, r24_305, r24_306, r24_307, r24_308, r24_308n, r24_309, r24_310, r24_310n, r24_311, r24_314, r24_315, r24_316, r24_318, r24_322, i32_10, reduceIte, gm_cmp1, gm_cmp3, gm_cmp4, gm_kd_sf, gm_ln_sf, gm_sf_1, gm_sf_2, gm_nw_1, gm_nw_2, gm_k_int, gm_k_ref, gm_k_null, gm_k_u, gm_k_long, and_true, true_and, true_or, or_true, or_false, false_or, and_self, or_self, if_true, if_false, List.map_nil, List.map_cons, List.sum_nil, List.sum_cons, Nat.zero_le, Option.toList_some, Option.toList_none, List.cons_append, List.nil_append, ne_eq, not_false_eq_true, not_true_eq_false, nI_1, nI_add, Value.category, Nat.reduceAdd, Nat.reduceMod, Nat.reduceLeDiff, Nat.reduceLT, Nat.reduceEqDiff, Nat.reducePow, Nat.le_refl, Nat.add_left_cancel_iff, Nat.add_eq_left, Nat.left_eq_add, Nat.add_zero, g_k0, g_k1, g_l1, g_p4, g_a1, g_w1, g_k2, g_l2, g_p10, g_a2, g_w2, g_k3, g_l3, g_p11, g_a3, g_w3, g_k4, g_l4, g_p12, g_a4, g_w4, g_k5, g_l5, g_p13, g_a5, g_w5, g_k6, g_l6, g_p14, g_a6, g_w6, g_k7, g_l7, g_p15, g_a7, g_w7, g_k8, g_l8, g_p16, g_a8, g_w8, g_k9, g_l9, g_p17, g_a9, g_w9, g_k10, g_l10, g_p18, g_a10, g_w10, g_k11, g_l11, g_p19, g_a11, g_w11, g_k12, g_l12, g_p20, g_a12, g_w12, g_k13, g_l13, g_p21, g_a13, g_w13, g_k14, g_l14, g_p22, g_a14, g_w14, g_k15, g_l15, g_p24, g_a15, g_w15, g_k16, g_l16, g_p26, g_a16, g_w16, g_k17, g_l17, g_p27, g_a17, g_w17, g_k18, g_l18, g_p29, g_a18, g_w18, g_k19, g_l19, g_p30, g_a19, g_w19, g_k20, g_l20, g_p31, g_a20, g_w20, g_k21, g_l21, g_p32, g_a21, g_w21, g_k22, g_l22, g_p33, g_a22, g_w22, g_k23, g_l23, g_p34, g_a23, g_w23, g_k24, g_l24, g_p35, g_a24, g_w24, g_k25, g_l25, g_p36, g_a25, g_w25, g_k26, g_l26, g_p37, g_a26, g_w26, g_k27, g_l27, g_p38, g_a27, g_w27, g_k28, g_l28, g_p40, g_a28, g_w28, g_k29, g_l29, g_p41, g_a29, g_w29, g_k30, g_l30, g_p42, g_a30, g_w30, g_k31, g_l31, g_p43, g_a31, g_w31, g_k32, g_l32, g_p44, g_a32, g_w32, g_k33, g_l33, g_p45, g_a33, g_w33, g_k34, g_l34, g_p46, g_a34, g_w34, g_f0, g_s0, g_f1, g_s1, g_f2, g_s2, g_f3, g_s3, g_f5, g_s5, g_f6, g_s6, g_f7, g_s7, g_f8, g_s8, g_f9, g_s9, g_f23, g_s23, g_f25, g_s25, g_f28, g_s28, g_f39, g_s39, g_f47, g_s47, gr_ui_eq, gr_ui_2, gr_ul_eq, gr_ul_1, gr_ui_no, gr_ui_ni, gr_ul_no, gr_ul_ni, ua, ub, t1', x6, k1, t2']
              exact g
          · rw [if_pos t1'] at go
            have g := go (-2) rfl
            simp only [r24_0, r24_0n, r24_1, r24_4, r24_5, r24_6, r24_8, r24_11, r24_11n, r24_12, r24_17, r24_17n, r24_18, r24_21, r24_24, r24_24n, r24_25, r24_25n, r24_26, r24_29, r24_30, r24_31, r24_32, r24_36, r24_39, r24_40, r24_40n, r24_41, r24_44, r24_45, r24_46, r24_47, r24_47n, r24_48, r24_51, r24_52, r24_53, r24_55, r24_56, r24_59, r24_59n, r24_60, r24_65, r24_68, r24_69, r24_72, r24_72n, r24_73, r24_78, r24_81, r24_81n, r24_82, r24_85, r24_86, r24_87, r24_90, r24_90n, r24_91, r24_94, r24_95, r24_96, r24_97, r24_100, r24_100n, r24_101, r24_106, r24_106n, r24_107, r24_110, r24_113, r24_114, r24_114n, r24_115, r24_119, r24_119n, r24_120, r24_123, r24_124, r24_125, r24_126, r24_128, r24_128n, r24_129, r24_130, r24_131, r24_133, r24_133n, r24_134, r24_140, r24_142, r24_143, r24_147, r24_150, r24_151, r24_155, r24_155n, r24_156, r24_159, r24_161, r24_162, r24_165, r24_165n, r24_166, r24_169, r24_170, r24_172, r24_173, r24_175, r24_176, r24_177, r24_179, r24_179n, r24_180, r24_183, r24_183n, r24_184, r24_187, r24_187n, r24_188, r24_193, r24_194, r24_196, r24_197, r24_199, r24_200, r24_203, r24_206, r24_209, r24_209n, r24_210, r24_213, r24_215, r24_216, r24_219, r24_220, r24_223, r24_225, r24_226, r24_229, r24_230, r24_233, r24_237, r24_240, r24_243, r24_243n, r24_244, r24_247, r24_249, r24_250, r24_252, r24_256, r24_256i, r24_257, r24_260, r24_262, r24_263, r24_266, r24_266n, r24_267, r24_270, r24_271, r24_273, r24_274, r24_274n, r24_275, r24_278, r24_279, r24_279n, r24_280, r24_280n, r24_281, r24_284, r24_285, r24_286, r24_287, r24_290, r24_291, r24_294, r24_295, r24_300, r24_301, r24_301n, r24_302, r24_305, r24_306, r24_307, r24_308, r24_308n, r24_309, r24_310, r24_310n, r24_311, r24_314, r24_315, r24_316, r24_318, r24_322, i32_10, reduceIte, gm_cmp1, gm_cmp3, gm_cmp4, gm_kd_sf, gm_ln_sf, gm_sf_1, gm_sf_2, gm_nw_1, gm_nw_2, gm_k_int, gm_k_ref, gm_k_null, gm_k_u, gm_k_long, and_true, true_and, true_or, or_true, or_false, false_or, and_self, or_self, if_true, if_false, List.map_nil, List.map_cons, List.sum_nil, List.sum_cons, Nat.zero_le, Option.toList_some, Option.toList_none, List.cons_append, List.nil_append, ne_eq, not_false_eq_true, not_true_eq_false, nI_1, nI_add, Value.category, Nat.reduceAdd, Nat.reduceMod, Nat.reduceLeDiff, Nat.reduceLT, Nat.reduceEqDiff, Nat.reducePow, Nat.le_refl, Nat.add_left_cancel_iff, Nat.add_eq_left, Nat.left_eq_add, Nat.add_zero, g_k0, g_k1, g_l1, g_p4, g_a1, g_w1, g_k2, g_l2, g_p10, g_a2, g_w2, g_k3, g_l3, g_p11, g_a3, g_w3, g_k4, g_l4, g_p12, g_a4, g_w4, g_k5, g_l5, g_p13, g_a5, g_w5, g_k6, g_l6, g_p14, g_a6, g_w6, g_k7, g_l7, g_p15, g_a7, g_w7, g_k8, g_l8, g_p16, g_a8, g_w8, g_k9, g_l9, g_p17, g_a9, g_w9, g_k10, g_l10, g_p18, g_a10, g_w10, g_k11, g_l11, g_p19, g_a11, g_w11, g_k12, g_l12, g_p20, g_a12, g_w12, g_k13, g_l13, g_p21, g_a13, g_w13, g_k14, g_l14, g_p22, g_a14, g_w14, g_k15, g_l15, g_p24, g_a15, g_w15, g_k16, g_l16, g_p26, g_a16, g_w16, g_k17, g_l17, g_p27, g_a17, g_w17, g_k18, g_l18, g_p29, g_a18, g_w18, g_k19, g_l19, g_p30, g_a19, g_w19, g_k20, g_l20, g_p31, g_a20, g_w20, g_k21, g_l21, g_p32, g_a21, g_w21, g_k22, g_l22, g_p33, g_a22, g_w22, g_k23, g_l23, g_p34, g_a23, g_w23, g_k24, g_l24, g_p35, g_a24, g_w24, g_k25, g_l25, g_p36, g_a25, g_w25, g_k26, g_l26, g_p37, g_a26, g_w26, g_k27, g_l27, g_p38, g_a27, g_w27, g_k28, g_l28, g_p40, g_a28, g_w28, g_k29, g_l29, g_p41, g_a29, g_w29, g_k30, g_l30, g_p42, g_a30, g_w30, g_k31, g_l31, g_p43, g_a31, g_w31, g_k32, g_l32, g_p44, g_a32, g_w32, g_k33, g_l33, g_p45, g_a33, g_w33, g_k34, g_l34, g_p46, g_a34, g_w34, g_f0, g_s0, g_f1, g_s1, g_f2, g_s2, g_f3, g_s3, g_f5, g_s5, g_f6, g_s6, g_f7, g_s7, g_f8, g_s8, g_f9, g_s9, g_f23, g_s23, g_f25, g_s25, g_f28, g_s28, g_f39, g_s39, g_f47, g_s47, gr_ui_eq, gr_ui_2, gr_ul_eq, gr_ul_1, gr_ui_no, gr_ui_ni, gr_ul_no, gr_ul_ni, ua, ub, t1']
            exact g
      have w := inner (gs_fs C).length 0 tF w8 (by omega) ⟨vF, fun y hy => absurd hy (Nat.not_lt_zero y)⟩
      rw [r24_145, eo]
      simp only [r24_0, r24_0n, r24_1, r24_4, r24_5, r24_6, r24_8, r24_11, r24_11n, r24_12, r24_17, r24_17n, r24_18, r24_21, r24_24, r24_24n, r24_25, r24_25n, r24_26, r24_29, r24_30, r24_31, r24_32, r24_36, r24_39, r24_40, r24_40n, r24_41, r24_44, r24_45, r24_46, r24_47, r24_47n, r24_48, r24_51, r24_52, r24_53, r24_55, r24_56, r24_59, r24_59n, r24_60, r24_65, r24_68, r24_69, r24_72, r24_72n, r24_73, r24_78, r24_81, r24_81n, r24_82, r24_85, r24_86, r24_87, r24_90, r24_90n, r24_91, r24_94, r24_95, r24_96, r24_97, r24_100, r24_100n, r24_101, r24_106, r24_106n, r24_107, r24_110, r24_113, r24_114, r24_114n, r24_115, r24_119, r24_119n, r24_120, r24_123, r24_124, r24_125, r24_126, r24_128, r24_128n, r24_129, r24_130, r24_131, r24_133, r24_133n, r24_134, r24_140, r24_142, r24_143, r24_147, r24_150, r24_151, r24_155, r24_155n, r24_156, r24_159, r24_161, r24_162, r24_165, r24_165n, r24_166, r24_169, r24_170, r24_172, r24_173, r24_175, r24_176, r24_177, r24_179, r24_179n, r24_180, r24_183, r24_183n, r24_184, r24_187, r24_187n, r24_188, r24_193, r24_194, r24_196, r24_197, r24_199, r24_200, r24_203, r24_206, r24_209, r24_209n, r24_210, r24_213, r24_215, r24_216, r24_219, r24_220, r24_223, r24_225, r24_226, r24_229, r24_230, r24_233, r24_236, r24_237, r24_240, r24_243, r24_243n, r24_244, r24_247, r24_249, r24_250, r24_252, r24_256, r24_256i, r24_257, r24_260, r24_262, r24_263, r24_266, r24_266n, r24_267, r24_270, r24_271, r24_273, r24_274, r24_274n, r24_275, r24_278, r24_279, r24_279n, r24_280, r24_280n, r24_281, r24_284, r24_285, r24_286, r24_287, r24_290, r24_291, r24_294, r24_295, r24_300, r24_301, r24_301n, r24_302, r24_305, r24_306, r24_307, r24_308, r24_308n, r24_309, r24_310, r24_310n, r24_311, r24_314, r24_315, r24_316, r24_318, r24_322, i32_10, reduceIte, gm_cmp1, gm_cmp3, gm_cmp4, gm_kd_sf, gm_ln_sf, gm_sf_1, gm_sf_2, gm_nw_1, gm_nw_2, gm_k_int, gm_k_ref, gm_k_null, gm_k_u, gm_k_long, and_true, true_and, true_or, or_true, or_false, false_or, and_self, or_self, if_true, if_false, List.map_nil, List.map_cons, List.sum_nil, List.sum_cons, Nat.zero_le, Option.toList_some, Option.toList_none, List.cons_append, List.nil_append, ne_eq, not_false_eq_true, not_true_eq_false, nI_1, nI_add, Value.category, Nat.reduceAdd, Nat.reduceMod, Nat.reduceLeDiff, Nat.reduceLT, Nat.reduceEqDiff, Nat.reducePow, Nat.le_refl, Nat.add_left_cancel_iff, Nat.add_eq_left, Nat.left_eq_add, Nat.add_zero, g_k0, g_k1, g_l1, g_p4, g_a1, g_w1, g_k2, g_l2, g_p10, g_a2, g_w2, g_k3, g_l3, g_p11, g_a3, g_w3, g_k4, g_l4, g_p12, g_a4, g_w4, g_k5, g_l5, g_p13, g_a5, g_w5, g_k6, g_l6, g_p14, g_a6, g_w6, g_k7, g_l7, g_p15, g_a7, g_w7, g_k8, g_l8, g_p16, g_a8, g_w8, g_k9, g_l9, g_p17, g_a9, g_w9, g_k10, g_l10, g_p18, g_a10, g_w10, g_k11, g_l11, g_p19, g_a11, g_w11, g_k12, g_l12, g_p20, g_a12, g_w12, g_k13, g_l13, g_p21, g_a13, g_w13, g_k14, g_l14, g_p22, g_a14, g_w14, g_k15, g_l15, g_p24, g_a15, g_w15, g_k16, g_l16, g_p26, g_a16, g_w16, g_k17, g_l17, g_p27, g_a17, g_w17, g_k18, g_l18, g_p29, g_a18, g_w18, g_k19, g_l19, g_p30, g_a19, g_w19, g_k20, g_l20, g_p31, g_a20, g_w20, g_k21, g_l21, g_p32, g_a21, g_w21, g_k22, g_l22, g_p33, g_a22, g_w22, g_k23, g_l23, g_p34, g_a23, g_w23, g_k24, g_l24, g_p35, g_a24, g_w24, g_k25, g_l25, g_p36, g_a25, g_w25, g_k26, g_l26, g_p37, g_a26, g_w26, g_k27, g_l27, g_p38, g_a27, g_w27, g_k28, g_l28, g_p40, g_a28, g_w28, g_k29, g_l29, g_p41, g_a29, g_w29, g_k30, g_l30, g_p42, g_a30, g_w30, g_k31, g_l31, g_p43, g_a31, g_w31, g_k32, g_l32, g_p44, g_a32, g_w32, g_k33, g_l33, g_p45, g_a33, g_w33, g_k34, g_l34, g_p46, g_a34, g_w34, g_f0, g_s0, g_f1, g_s1, g_f2, g_s2, g_f3, g_s3, g_f5, g_s5, g_f6, g_s6, g_f7, g_s7, g_f8, g_s8, g_f9, g_s9, g_f23, g_s23, g_f25, g_s25, g_f28, g_s28, g_f39, g_s39, g_f47, g_s47, gr_ui_eq, gr_ui_2, gr_ul_eq, gr_ul_1, gr_ui_no, gr_ui_ni, gr_ul_no, gr_ul_ni, n0]
      exact w
end NS
/-! THE REFERENCE, 56: an instance's first and last step, walked. -/
section NT
variable {X N : Nat → Prop} {E : Nat → Value} {d m f n p dp c us nd k e o r j cnt hb ub nb B pp at_ ca us0 nd0 : Nat} {h : gm_H} {t t' t0 t1 : gr_t} {K : gs_K} {s s' s'' s0 : gs_S} {rc : gs_M Int32} {P : gr_t → Prop} {l : gs_L} {L : List gs_L} {Q : gm_R → gm_H → Prop} {leaf st : Int32} {cc : Option Nat}
theorem m_nI (hd : 2 ≤ d) (hf : f < 79) (hk : k < 130) (he : e < 130) (ho : o < 720) (h8 : t.1 0 8 = 0) (h9 : t.1 0 9 = nI k) (h47 : t.1 0 47 = nI (f + 1)) (h28 : t.1 0 28 = nI e) (h28s : e = gs_size s) (h23 : t.1 0 23 = nI o) (h25 : t.1 0 25 = nI us) (hus : us + 24 ≤ 4000) (h30 : t.1 30 f = nI dp) (hp : t.1 0 6 = nI (gs_pl s)) (L : gr_lm t K) (Cl : gr_C t K) (hw : gs_wf K) (h6 : ∀ c, 6 ≤ c → gs_cls K c = none) (D : gr_dl t K k l) : gm_Ca E d 24 [.ref m, .int (nI f)] (gr_H h m t) (gr_ps h m (gr_nI t K f e o dp us k l s)) := by
  obtain ⟨Q, hQ⟩ : ∃ Q, Q = gr_ps h m (gr_nI t K f e o dp us k l s) := ⟨_, rfl⟩
  rw [← hQ]
  have f80 : f < 80 := by omega
  have k2 := nI_m2 (i := k) (by omega)
  obtain ⟨D0, D1, D2, -⟩ := id D
  have ef5 : gr_fl t (-5) = gr_ui t 0 8 (-5) := by unfold gr_fl; rw [if_pos h8]
  have ef9 : gr_fl t (-9) = gr_ui t 0 8 (-9) := by unfold gr_fl; rw [if_pos h8]
  have n5 : ¬ (-5 : Int32) = 0 := by decide
  have n9 : ¬ (-9 : Int32) = 0 := by decide
  have i10 : ¬ (1 : Int32) = 0 := by decide
  show gm_W E d 24 0 [.ref m, .int (nI f), gm_u, gm_u, gm_u, gm_u, gm_u, gm_u, gm_u] [] (gr_H h m t) Q
  simp only [r24_0, r24_0n, r24_1, r24_4, r24_5, r24_6, r24_8, r24_11, r24_11n, r24_12, r24_17, r24_17n, r24_18, r24_21, r24_24, r24_24n, r24_25, r24_25n, r24_26, r24_29, r24_30, r24_31, r24_32, r24_36, r24_39, r24_40, r24_40n, r24_41, r24_44, r24_45, r24_46, r24_47, r24_47n, r24_48, r24_51, r24_52, r24_53, r24_55, r24_56, r24_59, r24_59n, r24_60, r24_65, r24_68, r24_69, r24_72, r24_72n, r24_73, r24_78, r24_81, r24_81n, r24_82, r24_85, r24_86, r24_87, r24_90, r24_90n, r24_91, r24_94, r24_95, r24_96, r24_97, r24_100, r24_100n, r24_101, r24_106, r24_106n, r24_107, r24_110, r24_113, r24_114, r24_114n, r24_115, r24_119, r24_119n, r24_120, r24_123, r24_124, r24_125, r24_126, r24_128, r24_128n, r24_129, r24_130, r24_131, r24_133, r24_133n, r24_134, r24_140, r24_142, r24_143, r24_147, r24_150, r24_151, r24_153, r24_155, r24_155n, r24_156, r24_159, r24_161, r24_162, r24_165, r24_165n, r24_166, r24_169, r24_170, r24_172, r24_173, r24_175, r24_176, r24_177, r24_179, r24_179n, r24_180, r24_183, r24_183n, r24_184, r24_187, r24_187n, r24_188, r24_193, r24_194, r24_196, r24_197, r24_199, r24_200, r24_203, r24_206, r24_209, r24_209n, r24_210, r24_213, r24_215, r24_216, r24_219, r24_220, r24_223, r24_225, r24_226, r24_229, r24_230, r24_233, r24_236, r24_237, r24_240, r24_243, r24_243n, r24_244, r24_247, r24_249, r24_250, r24_252, r24_255, r24_255n, r24_256, r24_256i, r24_257, r24_260, r24_262, r24_263, r24_266, r24_266n, r24_267, r24_270, r24_271, r24_273, r24_274, r24_274n, r24_275, r24_278, r24_279, r24_279n, r24_280, r24_280n, r24_281, r24_284, r24_285, r24_286, r24_287, r24_290, r24_291, r24_294, r24_295, r24_300, r24_301, r24_301n, r24_302, r24_305, r24_306, r24_307, r24_308, r24_308n, r24_309, r24_310, r24_310n, r24_311, r24_314, r24_315, r24_316, r24_318, r24_322, i32_10, reduceIte, gm_cmp1, gm_cmp3, gm_cmp4, gm_kd_sf, gm_ln_sf, gm_sf_1, gm_sf_2, gm_nw_1, gm_nw_2, gm_k_int, gm_k_ref, gm_k_null, gm_k_u, gm_k_long, and_true, true_and, true_or, or_true, or_false, false_or, and_self, or_self, if_true, if_false, List.map_nil, List.map_cons, List.sum_nil, List.sum_cons, Nat.zero_le, Option.toList_some, Option.toList_none, List.cons_append, List.nil_append, ne_eq, not_false_eq_true, not_true_eq_false, nI_1, nI_add, Value.category, Nat.reduceAdd, Nat.reduceMod, Nat.reduceLeDiff, Nat.reduceLT, Nat.reduceEqDiff, Nat.reducePow, Nat.le_refl, Nat.add_left_cancel_iff, Nat.add_eq_left, Nat.left_eq_add, Nat.add_zero, g_k0, g_k1, g_l1, g_p4, g_a1, g_w1, g_k2, g_l2, g_p10, g_a2, g_w2, g_k3, g_l3, g_p11, g_a3, g_w3, g_k4, g_l4, g_p12, g_a4, g_w4, g_k5, g_l5, g_p13, g_a5, g_w5, g_k6, g_l6, g_p14, g_a6, g_w6, g_k7, g_l7, g_p15, g_a7, g_w7, g_k8, g_l8, g_p16, g_a8, g_w8, g_k9, g_l9, g_p17, g_a9, g_w9, g_k10, g_l10, g_p18, g_a10, g_w10, g_k11, g_l11, g_p19, g_a11, g_w11, g_k12, g_l12, g_p20, g_a12, g_w12, g_k13, g_l13, g_p21, g_a13, g_w13, g_k14, g_l14, g_p22, g_a14, g_w14, g_k15, g_l15, g_p24, g_a15, g_w15, g_k16, g_l16, g_p26, g_a16, g_w16, g_k17, g_l17, g_p27, g_a17, g_w17, g_k18, g_l18, g_p29, g_a18, g_w18, g_k19, g_l19, g_p30, g_a19, g_w19, g_k20, g_l20, g_p31, g_a20, g_w20, g_k21, g_l21, g_p32, g_a21, g_w21, g_k22, g_l22, g_p33, g_a22, g_w22, g_k23, g_l23, g_p34, g_a23, g_w23, g_k24, g_l24, g_p35, g_a24, g_w24, g_k25, g_l25, g_p36, g_a25, g_w25, g_k26, g_l26, g_p37, g_a26, g_w26, g_k27, g_l27, g_p38, g_a27, g_w27, g_k28, g_l28, g_p40, g_a28, g_w28, g_k29, g_l29, g_p41, g_a29, g_w29, g_k30, g_l30, g_p42, g_a30, g_w30, g_k31, g_l31, g_p43, g_a31, g_w31, g_k32, g_l32, g_p44, g_a32, g_w32, g_k33, g_l33, g_p45, g_a33, g_w33, g_k34, g_l34, g_p46, g_a34, g_w34, g_f0, g_s0, g_f1, g_s1, g_f2, g_s2, g_f3, g_s3, g_f5, g_s5, g_f6, g_s6, g_f7, g_s7, g_f8, g_s8, g_f9, g_s9, g_f23, g_s23, g_f25, g_s25, g_f28, g_s28, g_f39, g_s39, g_f47, g_s47, gr_ui_eq, gr_ui_2, gr_ul_eq, gr_ul_1, gr_ui_no, gr_ui_ni, gr_ul_no, gr_ul_ni, h9, k2, h8, f80, h30]
  refine c24_33 (by simp) g_k0 (by omega) (m_limits (dd := dp) (n := 0) (s := s) (by omega) L Cl (by rw [h28, h28s]) hp h8 hk D) (fun v9 h9 q => ?_) (fun x9 h9 q => ?_)
  rotate_left
  · rcases q with ⟨-, q, -⟩ | ⟨-, q, -⟩ <;> cases q
  rcases q with ⟨q1, q2, rfl⟩ | ⟨q1, q2, rfl⟩
  rotate_left
  · cases q2
    simp only [r24_0, r24_0n, r24_1, r24_4, r24_5, r24_6, r24_8, r24_11, r24_11n, r24_12, r24_17, r24_17n, r24_18, r24_21, r24_24, r24_24n, r24_25, r24_25n, r24_26, r24_29, r24_30, r24_31, r24_32, r24_36, r24_39, r24_40, r24_40n, r24_41, r24_44, r24_45, r24_46, r24_47, r24_47n, r24_48, r24_51, r24_52, r24_53, r24_55, r24_56, r24_59, r24_59n, r24_60, r24_65, r24_68, r24_69, r24_72, r24_72n, r24_73, r24_78, r24_81, r24_81n, r24_82, r24_85, r24_86, r24_87, r24_90, r24_90n, r24_91, r24_94, r24_95, r24_96, r24_97, r24_100, r24_100n, r24_101, r24_106, r24_106n, r24_107, r24_110, r24_113, r24_114, r24_114n, r24_115, r24_119, r24_119n, r24_120, r24_123, r24_124, r24_125, r24_126, r24_128, r24_128n, r24_129, r24_130, r24_131, r24_133, r24_133n, r24_134, r24_140, r24_142, r24_143, r24_147, r24_150, r24_151, r24_153, r24_155, r24_155n, r24_156, r24_159, r24_161, r24_162, r24_165, r24_165n, r24_166, r24_169, r24_170, r24_172, r24_173, r24_175, r24_176, r24_177, r24_179, r24_179n, r24_180, r24_183, r24_183n, r24_184, r24_187, r24_187n, r24_188, r24_193, r24_194, r24_196, r24_197, r24_199, r24_200, r24_203, r24_206, r24_209, r24_209n, r24_210, r24_213, r24_215, r24_216, r24_219, r24_220, r24_223, r24_225, r24_226, r24_229, r24_230, r24_233, r24_236, r24_237, r24_240, r24_243, r24_243n, r24_244, r24_247, r24_249, r24_250, r24_252, r24_255, r24_255n, r24_256, r24_256i, r24_257, r24_260, r24_262, r24_263, r24_266, r24_266n, r24_267, r24_270, r24_271, r24_273, r24_274, r24_274n, r24_275, r24_278, r24_279, r24_279n, r24_280, r24_280n, r24_281, r24_284, r24_285, r24_286, r24_287, r24_290, r24_291, r24_294, r24_295, r24_300, r24_301, r24_301n, r24_302, r24_305, r24_306, r24_307, r24_308, r24_308n, r24_309, r24_310, r24_310n, r24_311, r24_314, r24_315, r24_316, r24_318, r24_322, i32_10, reduceIte, gm_cmp1, gm_cmp3, gm_cmp4, gm_kd_sf, gm_ln_sf, gm_sf_1, gm_sf_2, gm_nw_1, gm_nw_2, gm_k_int, gm_k_ref, gm_k_null, gm_k_u, gm_k_long, and_true, true_and, true_or, or_true, or_false, false_or, and_self, or_self, if_true, if_false, List.map_nil, List.map_cons, List.sum_nil, List.sum_cons, Nat.zero_le, Option.toList_some, Option.toList_none, List.cons_append, List.nil_append, ne_eq, not_false_eq_true, not_true_eq_false, nI_1, nI_add, Value.category, Nat.reduceAdd, Nat.reduceMod, Nat.reduceLeDiff, Nat.reduceLT, Nat.reduceEqDiff, Nat.reducePow, Nat.le_refl, Nat.add_left_cancel_iff, Nat.add_eq_left, Nat.left_eq_add, Nat.add_zero, g_k0, g_k1, g_l1, g_p4, g_a1, g_w1, g_k2, g_l2, g_p10, g_a2, g_w2, g_k3, g_l3, g_p11, g_a3, g_w3, g_k4, g_l4, g_p12, g_a4, g_w4, g_k5, g_l5, g_p13, g_a5, g_w5, g_k6, g_l6, g_p14, g_a6, g_w6, g_k7, g_l7, g_p15, g_a7, g_w7, g_k8, g_l8, g_p16, g_a8, g_w8, g_k9, g_l9, g_p17, g_a9, g_w9, g_k10, g_l10, g_p18, g_a10, g_w10, g_k11, g_l11, g_p19, g_a11, g_w11, g_k12, g_l12, g_p20, g_a12, g_w12, g_k13, g_l13, g_p21, g_a13, g_w13, g_k14, g_l14, g_p22, g_a14, g_w14, g_k15, g_l15, g_p24, g_a15, g_w15, g_k16, g_l16, g_p26, g_a16, g_w16, g_k17, g_l17, g_p27, g_a17, g_w17, g_k18, g_l18, g_p29, g_a18, g_w18, g_k19, g_l19, g_p30, g_a19, g_w19, g_k20, g_l20, g_p31, g_a20, g_w20, g_k21, g_l21, g_p32, g_a21, g_w21, g_k22, g_l22, g_p33, g_a22, g_w22, g_k23, g_l23, g_p34, g_a23, g_w23, g_k24, g_l24, g_p35, g_a24, g_w24, g_k25, g_l25, g_p36, g_a25, g_w25, g_k26, g_l26, g_p37, g_a26, g_w26, g_k27, g_l27, g_p38, g_a27, g_w27, g_k28, g_l28, g_p40, g_a28, g_w28, g_k29, g_l29, g_p41, g_a29, g_w29, g_k30, g_l30, g_p42, g_a30, g_w30, g_k31, g_l31, g_p43, g_a31, g_w31, g_k32, g_l32, g_p44, g_a32, g_w32, g_k33, g_l33, g_p45, g_a33, g_w33, g_k34, g_l34, g_p46, g_a34, g_w34, g_f0, g_s0, g_f1, g_s1, g_f2, g_s2, g_f3, g_s3, g_f5, g_s5, g_f6, g_s6, g_f7, g_s7, g_f8, g_s8, g_f9, g_s9, g_f23, g_s23, g_f25, g_s25, g_f28, g_s28, g_f39, g_s39, g_f47, g_s47, gr_ui_eq, gr_ui_2, gr_ul_eq, gr_ul_1, gr_ui_no, gr_ui_ni, gr_ul_no, gr_ul_ni]
    rw [hQ]
    refine gr_ps.ok ?_
    unfold gr_nI
    rw [q1]
  cases q2
  have fin : ∀ t', (if gs_fl l &&& 16 ≠ 0 then t' = gr_ui t 0 8 (-5) else match gs_own l with
    | none => t' = gr_ui t 0 8 (-9)
    | some c => match gs_cls K c with
      | none => False
      | some C => if gs_kind C = 0 ∨ gs_kind C = 3 then t' = gr_ui t 0 8 (-5) else ∃ tF, gr_vF (gr_make t o 0 (nI c) (nI (gs_slots K (some c))) (nI us)) us (gs_slots K (some c)) 0 (gs_slot0 K (some c)) tF ∧ t' = gr_nIt t tF f e o dp us (gs_slots K (some c)) k (if gs_kind C = 4 then 3 else 2)) → Q (.inl none) (gr_H h m t') := fun t' z => by
    rw [hQ]
    refine gr_ps.ok ?_
    unfold gr_nI
    rw [q1]
    exact z
  by_cases c1 : gs_fl l &&& 16 = 0
  rotate_left
  · simp only [r24_0, r24_0n, r24_1, r24_4, r24_5, r24_6, r24_8, r24_11, r24_11n, r24_12, r24_17, r24_17n, r24_18, r24_21, r24_24, r24_24n, r24_25, r24_25n, r24_26, r24_29, r24_30, r24_31, r24_32, r24_36, r24_39, r24_40, r24_40n, r24_41, r24_44, r24_45, r24_46, r24_47, r24_47n, r24_48, r24_51, r24_52, r24_53, r24_55, r24_56, r24_59, r24_59n, r24_60, r24_65, r24_68, r24_69, r24_72, r24_72n, r24_73, r24_78, r24_81, r24_81n, r24_82, r24_85, r24_86, r24_87, r24_90, r24_90n, r24_91, r24_94, r24_95, r24_96, r24_97, r24_100, r24_100n, r24_101, r24_106, r24_106n, r24_107, r24_110, r24_113, r24_114, r24_114n, r24_115, r24_119, r24_119n, r24_120, r24_123, r24_124, r24_125, r24_126, r24_128, r24_128n, r24_129, r24_130, r24_131, r24_133, r24_133n, r24_134, r24_140, r24_142, r24_143, r24_147, r24_150, r24_151, r24_153, r24_155, r24_155n, r24_156, r24_159, r24_161, r24_162, r24_165, r24_165n, r24_166, r24_169, r24_170, r24_172, r24_173, r24_175, r24_176, r24_177, r24_179, r24_179n, r24_180, r24_183, r24_183n, r24_184, r24_187, r24_187n, r24_188, r24_193, r24_194, r24_196, r24_197, r24_199, r24_200, r24_203, r24_206, r24_209, r24_209n, r24_210, r24_213, r24_215, r24_216, r24_219, r24_220, r24_223, r24_225, r24_226, r24_229, r24_230, r24_233, r24_236, r24_237, r24_240, r24_243, r24_243n, r24_244, r24_247, r24_249, r24_250, r24_252, r24_255, r24_255n, r24_256, r24_256i, r24_257, r24_260, r24_262, r24_263, r24_266, r24_266n, r24_267, r24_270, r24_271, r24_273, r24_274, r24_274n, r24_275, r24_278, r24_279, r24_279n, r24_280, r24_280n, r24_281, r24_284, r24_285, r24_286, r24_287, r24_290, r24_291, r24_294, r24_295, r24_300, r24_301, r24_301n, r24_302, r24_305, r24_306, r24_307, r24_308, r24_308n, r24_309, r24_310, r24_310n, r24_311, r24_314, r24_315, r24_316, r24_318, r24_322, i32_10, reduceIte, gm_cmp1, gm_cmp3, gm_cmp4, gm_kd_sf, gm_ln_sf, gm_sf_1, gm_sf_2, gm_nw_1, gm_nw_2, gm_k_int, gm_k_ref, gm_k_null, gm_k_u, gm_k_long, and_true, true_and, true_or, or_true, or_false, false_or, and_self, or_self, if_true, if_false, List.map_nil, List.map_cons, List.sum_nil, List.sum_cons, Nat.zero_le, Option.toList_some, Option.toList_none, List.cons_append, List.nil_append, ne_eq, not_false_eq_true, not_true_eq_false, nI_1, nI_add, Value.category, Nat.reduceAdd, Nat.reduceMod, Nat.reduceLeDiff, Nat.reduceLT, Nat.reduceEqDiff, Nat.reducePow, Nat.le_refl, Nat.add_left_cancel_iff, Nat.add_eq_left, Nat.left_eq_add, Nat.add_zero, g_k0, g_k1, g_l1, g_p4, g_a1, g_w1, g_k2, g_l2, g_p10, g_a2, g_w2, g_k3, g_l3, g_p11, g_a3, g_w3, g_k4, g_l4, g_p12, g_a4, g_w4, g_k5, g_l5, g_p13, g_a5, g_w5, g_k6, g_l6, g_p14, g_a6, g_w6, g_k7, g_l7, g_p15, g_a7, g_w7, g_k8, g_l8, g_p16, g_a8, g_w8, g_k9, g_l9, g_p17, g_a9, g_w9, g_k10, g_l10, g_p18, g_a10, g_w10, g_k11, g_l11, g_p19, g_a11, g_w11, g_k12, g_l12, g_p20, g_a12, g_w12, g_k13, g_l13, g_p21, g_a13, g_w13, g_k14, g_l14, g_p22, g_a14, g_w14, g_k15, g_l15, g_p24, g_a15, g_w15, g_k16, g_l16, g_p26, g_a16, g_w16, g_k17, g_l17, g_p27, g_a17, g_w17, g_k18, g_l18, g_p29, g_a18, g_w18, g_k19, g_l19, g_p30, g_a19, g_w19, g_k20, g_l20, g_p31, g_a20, g_w20, g_k21, g_l21, g_p32, g_a21, g_w21, g_k22, g_l22, g_p33, g_a22, g_w22, g_k23, g_l23, g_p34, g_a23, g_w23, g_k24, g_l24, g_p35, g_a24, g_w24, g_k25, g_l25, g_p36, g_a25, g_w25, g_k26, g_l26, g_p37, g_a26, g_w26, g_k27, g_l27, g_p38, g_a27, g_w27, g_k28, g_l28, g_p40, g_a28, g_w28, g_k29, g_l29, g_p41, g_a29, g_w29, g_k30, g_l30, g_p42, g_a30, g_w30, g_k31, g_l31, g_p43, g_a31, g_w31, g_k32, g_l32, g_p44, g_a32, g_w32, g_k33, g_l33, g_p45, g_a33, g_w33, g_k34, g_l34, g_p46, g_a34, g_w34, g_f0, g_s0, g_f1, g_s1, g_f2, g_s2, g_f3, g_s3, g_f5, g_s5, g_f6, g_s6, g_f7, g_s7, g_f8, g_s8, g_f9, g_s9, g_f23, g_s23, g_f25, g_s25, g_f28, g_s28, g_f39, g_s39, g_f47, g_s47, gr_ui_eq, gr_ui_2, gr_ul_eq, gr_ul_1, gr_ui_no, gr_ui_ni, gr_ul_no, gr_ul_ni, i10, hk, D2, c1]
    refine c24_62 (by simp) g_k0 (by omega) m_fail (gx_kn ?_) gx_kx
    rw [ef5]
    simp only [r24_0, r24_0n, r24_1, r24_4, r24_5, r24_6, r24_8, r24_11, r24_11n, r24_12, r24_17, r24_17n, r24_18, r24_21, r24_24, r24_24n, r24_25, r24_25n, r24_26, r24_29, r24_30, r24_31, r24_32, r24_36, r24_39, r24_40, r24_40n, r24_41, r24_44, r24_45, r24_46, r24_47, r24_47n, r24_48, r24_51, r24_52, r24_53, r24_55, r24_56, r24_59, r24_59n, r24_60, r24_65, r24_68, r24_69, r24_72, r24_72n, r24_73, r24_78, r24_81, r24_81n, r24_82, r24_85, r24_86, r24_87, r24_90, r24_90n, r24_91, r24_94, r24_95, r24_96, r24_97, r24_100, r24_100n, r24_101, r24_106, r24_106n, r24_107, r24_110, r24_113, r24_114, r24_114n, r24_115, r24_119, r24_119n, r24_120, r24_123, r24_124, r24_125, r24_126, r24_128, r24_128n, r24_129, r24_130, r24_131, r24_133, r24_133n, r24_134, r24_140, r24_142, r24_143, r24_147, r24_150, r24_151, r24_153, r24_155, r24_155n, r24_156, r24_159, r24_161, r24_162, r24_165, r24_165n, r24_166, r24_169, r24_170, r24_172, r24_173, r24_175, r24_176, r24_177, r24_179, r24_179n, r24_180, r24_183, r24_183n, r24_184, r24_187, r24_187n, r24_188, r24_193, r24_194, r24_196, r24_197, r24_199, r24_200, r24_203, r24_206, r24_209, r24_209n, r24_210, r24_213, r24_215, r24_216, r24_219, r24_220, r24_223, r24_225, r24_226, r24_229, r24_230, r24_233, r24_236, r24_237, r24_240, r24_243, r24_243n, r24_244, r24_247, r24_249, r24_250, r24_252, r24_255, r24_255n, r24_256, r24_256i, r24_257, r24_260, r24_262, r24_263, r24_266, r24_266n, r24_267, r24_270, r24_271, r24_273, r24_274, r24_274n, r24_275, r24_278, r24_279, r24_279n, r24_280, r24_280n, r24_281, r24_284, r24_285, r24_286, r24_287, r24_290, r24_291, r24_294, r24_295, r24_300, r24_301, r24_301n, r24_302, r24_305, r24_306, r24_307, r24_308, r24_308n, r24_309, r24_310, r24_310n, r24_311, r24_314, r24_315, r24_316, r24_318, r24_322, i32_10, reduceIte, gm_cmp1, gm_cmp3, gm_cmp4, gm_kd_sf, gm_ln_sf, gm_sf_1, gm_sf_2, gm_nw_1, gm_nw_2, gm_k_int, gm_k_ref, gm_k_null, gm_k_u, gm_k_long, and_true, true_and, true_or, or_true, or_false, false_or, and_self, or_self, if_true, if_false, List.map_nil, List.map_cons, List.sum_nil, List.sum_cons, Nat.zero_le, Option.toList_some, Option.toList_none, List.cons_append, List.nil_append, ne_eq, not_false_eq_true, not_true_eq_false, nI_1, nI_add, Value.category, Nat.reduceAdd, Nat.reduceMod, Nat.reduceLeDiff, Nat.reduceLT, Nat.reduceEqDiff, Nat.reducePow, Nat.le_refl, Nat.add_left_cancel_iff, Nat.add_eq_left, Nat.left_eq_add, Nat.add_zero, g_k0, g_k1, g_l1, g_p4, g_a1, g_w1, g_k2, g_l2, g_p10, g_a2, g_w2, g_k3, g_l3, g_p11, g_a3, g_w3, g_k4, g_l4, g_p12, g_a4, g_w4, g_k5, g_l5, g_p13, g_a5, g_w5, g_k6, g_l6, g_p14, g_a6, g_w6, g_k7, g_l7, g_p15, g_a7, g_w7, g_k8, g_l8, g_p16, g_a8, g_w8, g_k9, g_l9, g_p17, g_a9, g_w9, g_k10, g_l10, g_p18, g_a10, g_w10, g_k11, g_l11, g_p19, g_a11, g_w11, g_k12, g_l12, g_p20, g_a12, g_w12, g_k13, g_l13, g_p21, g_a13, g_w13, g_k14, g_l14, g_p22, g_a14, g_w14, g_k15, g_l15, g_p24, g_a15, g_w15, g_k16, g_l16, g_p26, g_a16, g_w16, g_k17, g_l17, g_p27, g_a17, g_w17, g_k18, g_l18, g_p29, g_a18, g_w18, g_k19, g_l19, g_p30, g_a19, g_w19, g_k20, g_l20, g_p31, g_a20, g_w20, g_k21, g_l21, g_p32, g_a21, g_w21, g_k22, g_l22, g_p33, g_a22, g_w22, g_k23, g_l23, g_p34, g_a23, g_w23, g_k24, g_l24, g_p35, g_a24, g_w24, g_k25, g_l25, g_p36, g_a25, g_w25, g_k26, g_l26, g_p37, g_a26, g_w26, g_k27, g_l27, g_p38, g_a27, g_w27, g_k28, g_l28, g_p40, g_a28, g_w28, g_k29, g_l29, g_p41, g_a29, g_w29, g_k30, g_l30, g_p42, g_a30, g_w30, g_k31, g_l31, g_p43, g_a31, g_w31, g_k32, g_l32, g_p44, g_a32, g_w32, g_k33, g_l33, g_p45, g_a33, g_w33, g_k34, g_l34, g_p46, g_a34, g_w34, g_f0, g_s0, g_f1, g_s1, g_f2, g_s2, g_f3, g_s3, g_f5, g_s5, g_f6, g_s6, g_f7, g_s7, g_f8, g_s8, g_f9, g_s9, g_f23, g_s23, g_f25, g_s25, g_f28, g_s28, g_f39, g_s39, g_f47, g_s47, gr_ui_eq, gr_ui_2, gr_ul_eq, gr_ul_1, gr_ui_no, gr_ui_ni, gr_ul_no, gr_ul_ni, n5]
    exact fin _ (by rw [if_pos c1])
  cases eo : gs_own l with
  | none =>
    rw [eo] at D0
    have e0 : ¬ 0 ≤ (gr_o none : Int32) := by decide
    simp only [r24_0, r24_0n, r24_1, r24_4, r24_5, r24_6, r24_8, r24_11, r24_11n, r24_12, r24_17, r24_17n, r24_18, r24_21, r24_24, r24_24n, r24_25, r24_25n, r24_26, r24_29, r24_30, r24_31, r24_32, r24_36, r24_39, r24_40, r24_40n, r24_41, r24_44, r24_45, r24_46, r24_47, r24_47n, r24_48, r24_51, r24_52, r24_53, r24_55, r24_56, r24_59, r24_59n, r24_60, r24_65, r24_68, r24_69, r24_72, r24_72n, r24_73, r24_78, r24_81, r24_81n, r24_82, r24_85, r24_86, r24_87, r24_90, r24_90n, r24_91, r24_94, r24_95, r24_96, r24_97, r24_100, r24_100n, r24_101, r24_106, r24_106n, r24_107, r24_110, r24_113, r24_114, r24_114n, r24_115, r24_119, r24_119n, r24_120, r24_123, r24_124, r24_125, r24_126, r24_128, r24_128n, r24_129, r24_130, r24_131, r24_133, r24_133n, r24_134, r24_140, r24_142, r24_143, r24_147, r24_150, r24_151, r24_153, r24_155, r24_155n, r24_156, r24_159, r24_161, r24_162, r24_165, r24_165n, r24_166, r24_169, r24_170, r24_172, r24_173, r24_175, r24_176, r24_177, r24_179, r24_179n, r24_180, r24_183, r24_183n, r24_184, r24_187, r24_187n, r24_188, r24_193, r24_194, r24_196, r24_197, r24_199, r24_200, r24_203, r24_206, r24_209, r24_209n, r24_210, r24_213, r24_215, r24_216, r24_219, r24_220, r24_223, r24_225, r24_226, r24_229, r24_230, r24_233, r24_236, r24_237, r24_240, r24_243, r24_243n, r24_244, r24_247, r24_249, r24_250, r24_252, r24_255, r24_255n, r24_256, r24_256i, r24_257, r24_260, r24_262, r24_263, r24_266, r24_266n, r24_267, r24_270, r24_271, r24_273, r24_274, r24_274n, r24_275, r24_278, r24_279, r24_279n, r24_280, r24_280n, r24_281, r24_284, r24_285, r24_286, r24_287, r24_290, r24_291, r24_294, r24_295, r24_300, r24_301, r24_301n, r24_302, r24_305, r24_306, r24_307, r24_308, r24_308n, r24_309, r24_310, r24_310n, r24_311, r24_314, r24_315, r24_316, r24_318, r24_322, i32_10, reduceIte, gm_cmp1, gm_cmp3, gm_cmp4, gm_kd_sf, gm_ln_sf, gm_sf_1, gm_sf_2, gm_nw_1, gm_nw_2, gm_k_int, gm_k_ref, gm_k_null, gm_k_u, gm_k_long, and_true, true_and, true_or, or_true, or_false, false_or, and_self, or_self, if_true, if_false, List.map_nil, List.map_cons, List.sum_nil, List.sum_cons, Nat.zero_le, Option.toList_some, Option.toList_none, List.cons_append, List.nil_append, ne_eq, not_false_eq_true, not_true_eq_false, nI_1, nI_add, Value.category, Nat.reduceAdd, Nat.reduceMod, Nat.reduceLeDiff, Nat.reduceLT, Nat.reduceEqDiff, Nat.reducePow, Nat.le_refl, Nat.add_left_cancel_iff, Nat.add_eq_left, Nat.left_eq_add, Nat.add_zero, g_k0, g_k1, g_l1, g_p4, g_a1, g_w1, g_k2, g_l2, g_p10, g_a2, g_w2, g_k3, g_l3, g_p11, g_a3, g_w3, g_k4, g_l4, g_p12, g_a4, g_w4, g_k5, g_l5, g_p13, g_a5, g_w5, g_k6, g_l6, g_p14, g_a6, g_w6, g_k7, g_l7, g_p15, g_a7, g_w7, g_k8, g_l8, g_p16, g_a8, g_w8, g_k9, g_l9, g_p17, g_a9, g_w9, g_k10, g_l10, g_p18, g_a10, g_w10, g_k11, g_l11, g_p19, g_a11, g_w11, g_k12, g_l12, g_p20, g_a12, g_w12, g_k13, g_l13, g_p21, g_a13, g_w13, g_k14, g_l14, g_p22, g_a14, g_w14, g_k15, g_l15, g_p24, g_a15, g_w15, g_k16, g_l16, g_p26, g_a16, g_w16, g_k17, g_l17, g_p27, g_a17, g_w17, g_k18, g_l18, g_p29, g_a18, g_w18, g_k19, g_l19, g_p30, g_a19, g_w19, g_k20, g_l20, g_p31, g_a20, g_w20, g_k21, g_l21, g_p32, g_a21, g_w21, g_k22, g_l22, g_p33, g_a22, g_w22, g_k23, g_l23, g_p34, g_a23, g_w23, g_k24, g_l24, g_p35, g_a24, g_w24, g_k25, g_l25, g_p36, g_a25, g_w25, g_k26, g_l26, g_p37, g_a26, g_w26, g_k27, g_l27, g_p38, g_a27, g_w27, g_k28, g_l28, g_p40, g_a28, g_w28, g_k29, g_l29, g_p41, g_a29, g_w29, g_k30, g_l30, g_p42, g_a30, g_w30, g_k31, g_l31, g_p43, g_a31, g_w31, g_k32, g_l32, g_p44, g_a32, g_w32, g_k33, g_l33, g_p45, g_a33, g_w33, g_k34, g_l34, g_p46, g_a34, g_w34, g_f0, g_s0, g_f1, g_s1, g_f2, g_s2, g_f3, g_s3, g_f5, g_s5, g_f6, g_s6, g_f7, g_s7, g_f8, g_s8, g_f9, g_s9, g_f23, g_s23, g_f25, g_s25, g_f28, g_s28, g_f39, g_s39, g_f47, g_s47, gr_ui_eq, gr_ui_2, gr_ul_eq, gr_ul_1, gr_ui_no, gr_ui_ni, gr_ul_no, gr_ul_ni, i10, hk, D2, c1, D0, e0]
    refine c24_75 (by simp) g_k0 (by omega) m_fail (gx_kn ?_) gx_kx
    rw [ef9]
    simp only [r24_0, r24_0n, r24_1, r24_4, r24_5, r24_6, r24_8, r24_11, r24_11n, r24_12, r24_17, r24_17n, r24_18, r24_21, r24_24, r24_24n, r24_25, r24_25n, r24_26, r24_29, r24_30, r24_31, r24_32, r24_36, r24_39, r24_40, r24_40n, r24_41, r24_44, r24_45, r24_46, r24_47, r24_47n, r24_48, r24_51, r24_52, r24_53, r24_55, r24_56, r24_59, r24_59n, r24_60, r24_65, r24_68, r24_69, r24_72, r24_72n, r24_73, r24_78, r24_81, r24_81n, r24_82, r24_85, r24_86, r24_87, r24_90, r24_90n, r24_91, r24_94, r24_95, r24_96, r24_97, r24_100, r24_100n, r24_101, r24_106, r24_106n, r24_107, r24_110, r24_113, r24_114, r24_114n, r24_115, r24_119, r24_119n, r24_120, r24_123, r24_124, r24_125, r24_126, r24_128, r24_128n, r24_129, r24_130, r24_131, r24_133, r24_133n, r24_134, r24_140, r24_142, r24_143, r24_147, r24_150, r24_151, r24_153, r24_155, r24_155n, r24_156, r24_159, r24_161, r24_162, r24_165, r24_165n, r24_166, r24_169, r24_170, r24_172, r24_173, r24_175, r24_176, r24_177, r24_179, r24_179n, r24_180, r24_183, r24_183n, r24_184, r24_187, r24_187n, r24_188, r24_193, r24_194, r24_196, r24_197, r24_199, r24_200, r24_203, r24_206, r24_209, r24_209n, r24_210, r24_213, r24_215, r24_216, r24_219, r24_220, r24_223, r24_225, r24_226, r24_229, r24_230, r24_233, r24_236, r24_237, r24_240, r24_243, r24_243n, r24_244, r24_247, r24_249, r24_250, r24_252, r24_255, r24_255n, r24_256, r24_256i, r24_257, r24_260, r24_262, r24_263, r24_266, r24_266n, r24_267, r24_270, r24_271, r24_273, r24_274, r24_274n, r24_275, r24_278, r24_279, r24_279n, r24_280, r24_280n, r24_281, r24_284, r24_285, r24_286, r24_287, r24_290, r24_291, r24_294, r24_295, r24_300, r24_301, r24_301n, r24_302, r24_305, r24_306, r24_307, r24_308, r24_308n, r24_309, r24_310, r24_310n, r24_311, r24_314, r24_315, r24_316, r24_318, r24_322, i32_10, reduceIte, gm_cmp1, gm_cmp3, gm_cmp4, gm_kd_sf, gm_ln_sf, gm_sf_1, gm_sf_2, gm_nw_1, gm_nw_2, gm_k_int, gm_k_ref, gm_k_null, gm_k_u, gm_k_long, and_true, true_and, true_or, or_true, or_false, false_or, and_self, or_self, if_true, if_false, List.map_nil, List.map_cons, List.sum_nil, List.sum_cons, Nat.zero_le, Option.toList_some, Option.toList_none, List.cons_append, List.nil_append, ne_eq, not_false_eq_true, not_true_eq_false, nI_1, nI_add, Value.category, Nat.reduceAdd, Nat.reduceMod, Nat.reduceLeDiff, Nat.reduceLT, Nat.reduceEqDiff, Nat.reducePow, Nat.le_refl, Nat.add_left_cancel_iff, Nat.add_eq_left, Nat.left_eq_add, Nat.add_zero, g_k0, g_k1, g_l1, g_p4, g_a1, g_w1, g_k2, g_l2, g_p10, g_a2, g_w2, g_k3, g_l3, g_p11, g_a3, g_w3, g_k4, g_l4, g_p12, g_a4, g_w4, g_k5, g_l5, g_p13, g_a5, g_w5, g_k6, g_l6, g_p14, g_a6, g_w6, g_k7, g_l7, g_p15, g_a7, g_w7, g_k8, g_l8, g_p16, g_a8, g_w8, g_k9, g_l9, g_p17, g_a9, g_w9, g_k10, g_l10, g_p18, g_a10, g_w10, g_k11, g_l11, g_p19, g_a11, g_w11, g_k12, g_l12, g_p20, g_a12, g_w12, g_k13, g_l13, g_p21, g_a13, g_w13, g_k14, g_l14, g_p22, g_a14, g_w14, g_k15, g_l15, g_p24, g_a15, g_w15, g_k16, g_l16, g_p26, g_a16, g_w16, g_k17, g_l17, g_p27, g_a17, g_w17, g_k18, g_l18, g_p29, g_a18, g_w18, g_k19, g_l19, g_p30, g_a19, g_w19, g_k20, g_l20, g_p31, g_a20, g_w20, g_k21, g_l21, g_p32, g_a21, g_w21, g_k22, g_l22, g_p33, g_a22, g_w22, g_k23, g_l23, g_p34, g_a23, g_w23, g_k24, g_l24, g_p35, g_a24, g_w24, g_k25, g_l25, g_p36, g_a25, g_w25, g_k26, g_l26, g_p37, g_a26, g_w26, g_k27, g_l27, g_p38, g_a27, g_w27, g_k28, g_l28, g_p40, g_a28, g_w28, g_k29, g_l29, g_p41, g_a29, g_w29, g_k30, g_l30, g_p42, g_a30, g_w30, g_k31, g_l31, g_p43, g_a31, g_w31, g_k32, g_l32, g_p44, g_a32, g_w32, g_k33, g_l33, g_p45, g_a33, g_w33, g_k34, g_l34, g_p46, g_a34, g_w34, g_f0, g_s0, g_f1, g_s1, g_f2, g_s2, g_f3, g_s3, g_f5, g_s5, g_f6, g_s6, g_f7, g_s7, g_f8, g_s8, g_f9, g_s9, g_f23, g_s23, g_f25, g_s25, g_f28, g_s28, g_f39, g_s39, g_f47, g_s47, gr_ui_eq, gr_ui_2, gr_ul_eq, gr_ul_1, gr_ui_no, gr_ui_ni, gr_ul_no, gr_ul_ni, n9]
    exact fin _ (by rw [if_neg (fun z => z c1), eo])
  | some a =>
    rw [eo] at D0
    have D0 : t.1 20 k = nI a := D0
    obtain ⟨a6, as⟩ := D.2.2.2.2.2.2.1 a eo
    obtain ⟨C, hC⟩ := Option.isSome_iff_exists.mp as
    have fin2 : ∀ t', (if gs_kind C = 0 ∨ gs_kind C = 3 then t' = gr_ui t 0 8 (-5) else ∃ tF, gr_vF (gr_make t o 0 (nI a) (nI (gs_slots K (some a))) (nI us)) us (gs_slots K (some a)) 0 (gs_slot0 K (some a)) tF ∧ t' = gr_nIt t tF f e o dp us (gs_slots K (some a)) k (if gs_kind C = 4 then 3 else 2)) → Q (.inl none) (gr_H h m t') := fun t' z => fin t' (by
      rw [if_neg (fun z => z c1), eo]
      dsimp only
      rw [hC]
      exact z)
    have e0 : 0 ≤ nI a := by rw [← Int32.not_lt]; exact nI_pos (by omega)
    obtain ⟨k1, -, k5, k5l, -⟩ := Cl.at a6 hC
    have bad : (gs_kind C = 0 ∨ gs_kind C = 3) → gm_W E d 24 100 [.ref m, .int (nI f), .int (nI k), .int (nI a), gm_u, gm_u, gm_u, gm_u, gm_u] [] (gr_H h m t) Q := fun z => by
      simp only [r24_0, r24_0n, r24_1, r24_4, r24_5, r24_6, r24_8, r24_11, r24_11n, r24_12, r24_17, r24_17n, r24_18, r24_21, r24_24, r24_24n, r24_25, r24_25n, r24_26, r24_29, r24_30, r24_31, r24_32, r24_36, r24_39, r24_40, r24_40n, r24_41, r24_44, r24_45, r24_46, r24_47, r24_47n, r24_48, r24_51, r24_52, r24_53, r24_55, r24_56, r24_59, r24_59n, r24_60, r24_65, r24_68, r24_69, r24_72, r24_72n, r24_73, r24_78, r24_81, r24_81n, r24_82, r24_85, r24_86, r24_87, r24_90, r24_90n, r24_91, r24_94, r24_95, r24_96, r24_97, r24_100, r24_100n, r24_101, r24_106, r24_106n, r24_107, r24_110, r24_113, r24_114, r24_114n, r24_115, r24_119, r24_119n, r24_120, r24_123, r24_124, r24_125, r24_126, r24_128, r24_128n, r24_129, r24_130, r24_131, r24_133, r24_133n, r24_134, r24_140, r24_142, r24_143, r24_147, r24_150, r24_151, r24_153, r24_155, r24_155n, r24_156, r24_159, r24_161, r24_162, r24_165, r24_165n, r24_166, r24_169, r24_170, r24_172, r24_173, r24_175, r24_176, r24_177, r24_179, r24_179n, r24_180, r24_183, r24_183n, r24_184, r24_187, r24_187n, r24_188, r24_193, r24_194, r24_196, r24_197, r24_199, r24_200, r24_203, r24_206, r24_209, r24_209n, r24_210, r24_213, r24_215, r24_216, r24_219, r24_220, r24_223, r24_225, r24_226, r24_229, r24_230, r24_233, r24_236, r24_237, r24_240, r24_243, r24_243n, r24_244, r24_247, r24_249, r24_250, r24_252, r24_255, r24_255n, r24_256, r24_256i, r24_257, r24_260, r24_262, r24_263, r24_266, r24_266n, r24_267, r24_270, r24_271, r24_273, r24_274, r24_274n, r24_275, r24_278, r24_279, r24_279n, r24_280, r24_280n, r24_281, r24_284, r24_285, r24_286, r24_287, r24_290, r24_291, r24_294, r24_295, r24_300, r24_301, r24_301n, r24_302, r24_305, r24_306, r24_307, r24_308, r24_308n, r24_309, r24_310, r24_310n, r24_311, r24_314, r24_315, r24_316, r24_318, r24_322, i32_10, reduceIte, gm_cmp1, gm_cmp3, gm_cmp4, gm_kd_sf, gm_ln_sf, gm_sf_1, gm_sf_2, gm_nw_1, gm_nw_2, gm_k_int, gm_k_ref, gm_k_null, gm_k_u, gm_k_long, and_true, true_and, true_or, or_true, or_false, false_or, and_self, or_self, if_true, if_false, List.map_nil, List.map_cons, List.sum_nil, List.sum_cons, Nat.zero_le, Option.toList_some, Option.toList_none, List.cons_append, List.nil_append, ne_eq, not_false_eq_true, not_true_eq_false, nI_1, nI_add, Value.category, Nat.reduceAdd, Nat.reduceMod, Nat.reduceLeDiff, Nat.reduceLT, Nat.reduceEqDiff, Nat.reducePow, Nat.le_refl, Nat.add_left_cancel_iff, Nat.add_eq_left, Nat.left_eq_add, Nat.add_zero, g_k0, g_k1, g_l1, g_p4, g_a1, g_w1, g_k2, g_l2, g_p10, g_a2, g_w2, g_k3, g_l3, g_p11, g_a3, g_w3, g_k4, g_l4, g_p12, g_a4, g_w4, g_k5, g_l5, g_p13, g_a5, g_w5, g_k6, g_l6, g_p14, g_a6, g_w6, g_k7, g_l7, g_p15, g_a7, g_w7, g_k8, g_l8, g_p16, g_a8, g_w8, g_k9, g_l9, g_p17, g_a9, g_w9, g_k10, g_l10, g_p18, g_a10, g_w10, g_k11, g_l11, g_p19, g_a11, g_w11, g_k12, g_l12, g_p20, g_a12, g_w12, g_k13, g_l13, g_p21, g_a13, g_w13, g_k14, g_l14, g_p22, g_a14, g_w14, g_k15, g_l15, g_p24, g_a15, g_w15, g_k16, g_l16, g_p26, g_a16, g_w16, g_k17, g_l17, g_p27, g_a17, g_w17, g_k18, g_l18, g_p29, g_a18, g_w18, g_k19, g_l19, g_p30, g_a19, g_w19, g_k20, g_l20, g_p31, g_a20, g_w20, g_k21, g_l21, g_p32, g_a21, g_w21, g_k22, g_l22, g_p33, g_a22, g_w22, g_k23, g_l23, g_p34, g_a23, g_w23, g_k24, g_l24, g_p35, g_a24, g_w24, g_k25, g_l25, g_p36, g_a25, g_w25, g_k26, g_l26, g_p37, g_a26, g_w26, g_k27, g_l27, g_p38, g_a27, g_w27, g_k28, g_l28, g_p40, g_a28, g_w28, g_k29, g_l29, g_p41, g_a29, g_w29, g_k30, g_l30, g_p42, g_a30, g_w30, g_k31, g_l31, g_p43, g_a31, g_w31, g_k32, g_l32, g_p44, g_a32, g_w32, g_k33, g_l33, g_p45, g_a33, g_w33, g_k34, g_l34, g_p46, g_a34, g_w34, g_f0, g_s0, g_f1, g_s1, g_f2, g_s2, g_f3, g_s3, g_f5, g_s5, g_f6, g_s6, g_f7, g_s7, g_f8, g_s8, g_f9, g_s9, g_f23, g_s23, g_f25, g_s25, g_f28, g_s28, g_f39, g_s39, g_f47, g_s47, gr_ui_eq, gr_ui_2, gr_ul_eq, gr_ul_1, gr_ui_no, gr_ui_ni, gr_ul_no, gr_ul_ni]
      refine c24_103 (by simp) g_k0 (by omega) m_fail (gx_kn ?_) gx_kx
      rw [ef5]
      simp only [r24_0, r24_0n, r24_1, r24_4, r24_5, r24_6, r24_8, r24_11, r24_11n, r24_12, r24_17, r24_17n, r24_18, r24_21, r24_24, r24_24n, r24_25, r24_25n, r24_26, r24_29, r24_30, r24_31, r24_32, r24_36, r24_39, r24_40, r24_40n, r24_41, r24_44, r24_45, r24_46, r24_47, r24_47n, r24_48, r24_51, r24_52, r24_53, r24_55, r24_56, r24_59, r24_59n, r24_60, r24_65, r24_68, r24_69, r24_72, r24_72n, r24_73, r24_78, r24_81, r24_81n, r24_82, r24_85, r24_86, r24_87, r24_90, r24_90n, r24_91, r24_94, r24_95, r24_96, r24_97, r24_100, r24_100n, r24_101, r24_106, r24_106n, r24_107, r24_110, r24_113, r24_114, r24_114n, r24_115, r24_119, r24_119n, r24_120, r24_123, r24_124, r24_125, r24_126, r24_128, r24_128n, r24_129, r24_130, r24_131, r24_133, r24_133n, r24_134, r24_140, r24_142, r24_143, r24_147, r24_150, r24_151, r24_153, r24_155, r24_155n, r24_156, r24_159, r24_161, r24_162, r24_165, r24_165n, r24_166, r24_169, r24_170, r24_172, r24_173, r24_175, r24_176, r24_177, r24_179, r24_179n, r24_180, r24_183, r24_183n, r24_184, r24_187, r24_187n, r24_188, r24_193, r24_194, r24_196, r24_197, r24_199, r24_200, r24_203, r24_206, r24_209, r24_209n, r24_210, r24_213, r24_215, r24_216, r24_219, r24_220, r24_223, r24_225, r24_226, r24_229, r24_230, r24_233, r24_236, r24_237, r24_240, r24_243, r24_243n, r24_244, r24_247, r24_249, r24_250, r24_252, r24_255, r24_255n, r24_256, r24_256i, r24_257, r24_260, r24_262, r24_263, r24_266, r24_266n, r24_267, r24_270, r24_271, r24_273, r24_274, r24_274n, r24_275, r24_278, r24_279, r24_279n, r24_280, r24_280n, r24_281, r24_284, r24_285, r24_286, r24_287, r24_290, r24_291, r24_294, r24_295, r24_300, r24_301, r24_301n, r24_302, r24_305, r24_306, r24_307, r24_308, r24_308n, r24_309, r24_310, r24_310n, r24_311, r24_314, r24_315, r24_316, r24_318, r24_322, i32_10, reduceIte, gm_cmp1, gm_cmp3, gm_cmp4, gm_kd_sf, gm_ln_sf, gm_sf_1, gm_sf_2, gm_nw_1, gm_nw_2, gm_k_int, gm_k_ref, gm_k_null, gm_k_u, gm_k_long, and_true, true_and, true_or, or_true, or_false, false_or, and_self, or_self, if_true, if_false, List.map_nil, List.map_cons, List.sum_nil, List.sum_cons, Nat.zero_le, Option.toList_some, Option.toList_none, List.cons_append, List.nil_append, ne_eq, not_false_eq_true, not_true_eq_false, nI_1, nI_add, Value.category, Nat.reduceAdd, Nat.reduceMod, Nat.reduceLeDiff, Nat.reduceLT, Nat.reduceEqDiff, Nat.reducePow, Nat.le_refl, Nat.add_left_cancel_iff, Nat.add_eq_left, Nat.left_eq_add, Nat.add_zero, g_k0, g_k1, g_l1, g_p4, g_a1, g_w1, g_k2, g_l2, g_p10, g_a2, g_w2, g_k3, g_l3, g_p11, g_a3, g_w3, g_k4, g_l4, g_p12, g_a4, g_w4, g_k5, g_l5, g_p13, g_a5, g_w5, g_k6, g_l6, g_p14, g_a6, g_w6, g_k7, g_l7, g_p15, g_a7, g_w7, g_k8, g_l8, g_p16, g_a8, g_w8, g_k9, g_l9, g_p17, g_a9, g_w9, g_k10, g_l10, g_p18, g_a10, g_w10, g_k11, g_l11, g_p19, g_a11, g_w11, g_k12, g_l12, g_p20, g_a12, g_w12, g_k13, g_l13, g_p21, g_a13, g_w13, g_k14, g_l14, g_p22, g_a14, g_w14, g_k15, g_l15, g_p24, g_a15, g_w15, g_k16, g_l16, g_p26, g_a16, g_w16, g_k17, g_l17, g_p27, g_a17, g_w17, g_k18, g_l18, g_p29, g_a18, g_w18, g_k19, g_l19, g_p30, g_a19, g_w19, g_k20, g_l20, g_p31, g_a20, g_w20, g_k21, g_l21, g_p32, g_a21, g_w21, g_k22, g_l22, g_p33, g_a22, g_w22, g_k23, g_l23, g_p34, g_a23, g_w23, g_k24, g_l24, g_p35, g_a24, g_w24, g_k25, g_l25, g_p36, g_a25, g_w25, g_k26, g_l26, g_p37, g_a26, g_w26, g_k27, g_l27, g_p38, g_a27, g_w27, g_k28, g_l28, g_p40, g_a28, g_w28, g_k29, g_l29, g_p41, g_a29, g_w29, g_k30, g_l30, g_p42, g_a30, g_w30, g_k31, g_l31, g_p43, g_a31, g_w31, g_k32, g_l32, g_p44, g_a32, g_w32, g_k33, g_l33, g_p45, g_a33, g_w33, g_k34, g_l34, g_p46, g_a34, g_w34, g_f0, g_s0, g_f1, g_s1, g_f2, g_s2, g_f3, g_s3, g_f5, g_s5, g_f6, g_s6, g_f7, g_s7, g_f8, g_s8, g_f9, g_s9, g_f23, g_s23, g_f25, g_s25, g_f28, g_s28, g_f39, g_s39, g_f47, g_s47, gr_ui_eq, gr_ui_2, gr_ul_eq, gr_ul_1, gr_ui_no, gr_ui_ni, gr_ul_no, gr_ul_ni, n5]
      exact fin2 _ (by rw [if_pos z])
    by_cases b0 : gs_kind C = 0
    · simp only [r24_0, r24_0n, r24_1, r24_4, r24_5, r24_6, r24_8, r24_11, r24_11n, r24_12, r24_17, r24_17n, r24_18, r24_21, r24_24, r24_24n, r24_25, r24_25n, r24_26, r24_29, r24_30, r24_31, r24_32, r24_36, r24_39, r24_40, r24_40n, r24_41, r24_44, r24_45, r24_46, r24_47, r24_47n, r24_48, r24_51, r24_52, r24_53, r24_55, r24_56, r24_59, r24_59n, r24_60, r24_65, r24_68, r24_69, r24_72, r24_72n, r24_73, r24_78, r24_81, r24_81n, r24_82, r24_85, r24_86, r24_87, r24_90, r24_90n, r24_91, r24_94, r24_95, r24_96, r24_97, r24_101, r24_106, r24_106n, r24_107, r24_110, r24_113, r24_114, r24_114n, r24_115, r24_119, r24_119n, r24_120, r24_123, r24_124, r24_125, r24_126, r24_128, r24_128n, r24_129, r24_130, r24_131, r24_133, r24_133n, r24_134, r24_140, r24_142, r24_143, r24_147, r24_150, r24_151, r24_153, r24_155, r24_155n, r24_156, r24_159, r24_161, r24_162, r24_165, r24_165n, r24_166, r24_169, r24_170, r24_172, r24_173, r24_175, r24_176, r24_177, r24_179, r24_179n, r24_180, r24_183, r24_183n, r24_184, r24_187, r24_187n, r24_188, r24_193, r24_194, r24_196, r24_197, r24_199, r24_200, r24_203, r24_206, r24_209, r24_209n, r24_210, r24_213, r24_215, r24_216, r24_219, r24_220, r24_223, r24_225, r24_226, r24_229, r24_230, r24_233, r24_236, r24_237, r24_240, r24_243, r24_243n, r24_244, r24_247, r24_249, r24_250, r24_252, r24_255, r24_255n, r24_256, r24_256i, r24_257, r24_260, r24_262, r24_263, r24_266, r24_266n, r24_267, r24_270, r24_271, r24_273, r24_274, r24_274n, r24_275, r24_278, r24_279, r24_279n, r24_280, r24_280n, r24_281, r24_284, r24_285, r24_286, r24_287, r24_290, r24_291, r24_294, r24_295, r24_300, r24_301, r24_301n, r24_302, r24_305, r24_306, r24_307, r24_308, r24_308n, r24_309, r24_310, r24_310n, r24_311, r24_314, r24_315, r24_316, r24_318, r24_322, i32_10, reduceIte, gm_cmp1, gm_cmp3, gm_cmp4, gm_kd_sf, gm_ln_sf, gm_sf_1, gm_sf_2, gm_nw_1, gm_nw_2, gm_k_int, gm_k_ref, gm_k_null, gm_k_u, gm_k_long, and_true, true_and, true_or, or_true, or_false, false_or, and_self, or_self, if_true, if_false, List.map_nil, List.map_cons, List.sum_nil, List.sum_cons, Nat.zero_le, Option.toList_some, Option.toList_none, List.cons_append, List.nil_append, ne_eq, not_false_eq_true, not_true_eq_false, nI_1, nI_add, Value.category, Nat.reduceAdd, Nat.reduceMod, Nat.reduceLeDiff, Nat.reduceLT, Nat.reduceEqDiff, Nat.reducePow, Nat.le_refl, Nat.add_left_cancel_iff, Nat.add_eq_left, Nat.left_eq_add, Nat.add_zero, g_k0, g_k1, g_l1, g_p4, g_a1, g_w1, g_k2, g_l2, g_p10, g_a2, g_w2, g_k3, g_l3, g_p11, g_a3, g_w3, g_k4, g_l4, g_p12, g_a4, g_w4, g_k5, g_l5, g_p13, g_a5, g_w5, g_k6, g_l6, g_p14, g_a6, g_w6, g_k7, g_l7, g_p15, g_a7, g_w7, g_k8, g_l8, g_p16, g_a8, g_w8, g_k9, g_l9, g_p17, g_a9, g_w9, g_k10, g_l10, g_p18, g_a10, g_w10, g_k11, g_l11, g_p19, g_a11, g_w11, g_k12, g_l12, g_p20, g_a12, g_w12, g_k13, g_l13, g_p21, g_a13, g_w13, g_k14, g_l14, g_p22, g_a14, g_w14, g_k15, g_l15, g_p24, g_a15, g_w15, g_k16, g_l16, g_p26, g_a16, g_w16, g_k17, g_l17, g_p27, g_a17, g_w17, g_k18, g_l18, g_p29, g_a18, g_w18, g_k19, g_l19, g_p30, g_a19, g_w19, g_k20, g_l20, g_p31, g_a20, g_w20, g_k21, g_l21, g_p32, g_a21, g_w21, g_k22, g_l22, g_p33, g_a22, g_w22, g_k23, g_l23, g_p34, g_a23, g_w23, g_k24, g_l24, g_p35, g_a24, g_w24, g_k25, g_l25, g_p36, g_a25, g_w25, g_k26, g_l26, g_p37, g_a26, g_w26, g_k27, g_l27, g_p38, g_a27, g_w27, g_k28, g_l28, g_p40, g_a28, g_w28, g_k29, g_l29, g_p41, g_a29, g_w29, g_k30, g_l30, g_p42, g_a30, g_w30, g_k31, g_l31, g_p43, g_a31, g_w31, g_k32, g_l32, g_p44, g_a32, g_w32, g_k33, g_l33, g_p45, g_a33, g_w33, g_k34, g_l34, g_p46, g_a34, g_w34, g_f0, g_s0, g_f1, g_s1, g_f2, g_s2, g_f3, g_s3, g_f5, g_s5, g_f6, g_s6, g_f7, g_s7, g_f8, g_s8, g_f9, g_s9, g_f23, g_s23, g_f25, g_s25, g_f28, g_s28, g_f39, g_s39, g_f47, g_s47, gr_ui_eq, gr_ui_2, gr_ul_eq, gr_ul_1, gr_ui_no, gr_ui_ni, gr_ul_no, gr_ul_ni, i10, hk, D2, c1, D0, e0, a6, k1, b0]
      exact bad (Or.inl b0)
    by_cases b3 : gs_kind C = 3
    · have n30 : ¬ (3 : Int32) = 0 := by decide
      simp only [r24_0, r24_0n, r24_1, r24_4, r24_5, r24_6, r24_8, r24_11, r24_11n, r24_12, r24_17, r24_17n, r24_18, r24_21, r24_24, r24_24n, r24_25, r24_25n, r24_26, r24_29, r24_30, r24_31, r24_32, r24_36, r24_39, r24_40, r24_40n, r24_41, r24_44, r24_45, r24_46, r24_47, r24_47n, r24_48, r24_51, r24_52, r24_53, r24_55, r24_56, r24_59, r24_59n, r24_60, r24_65, r24_68, r24_69, r24_72, r24_72n, r24_73, r24_78, r24_81, r24_81n, r24_82, r24_85, r24_86, r24_87, r24_90, r24_90n, r24_91, r24_94, r24_95, r24_96, r24_97, r24_101, r24_106, r24_106n, r24_107, r24_110, r24_113, r24_114, r24_114n, r24_115, r24_119, r24_119n, r24_120, r24_123, r24_124, r24_125, r24_126, r24_128, r24_128n, r24_129, r24_130, r24_131, r24_133, r24_133n, r24_134, r24_140, r24_142, r24_143, r24_147, r24_150, r24_151, r24_153, r24_155, r24_155n, r24_156, r24_159, r24_161, r24_162, r24_165, r24_165n, r24_166, r24_169, r24_170, r24_172, r24_173, r24_175, r24_176, r24_177, r24_179, r24_179n, r24_180, r24_183, r24_183n, r24_184, r24_187, r24_187n, r24_188, r24_193, r24_194, r24_196, r24_197, r24_199, r24_200, r24_203, r24_206, r24_209, r24_209n, r24_210, r24_213, r24_215, r24_216, r24_219, r24_220, r24_223, r24_225, r24_226, r24_229, r24_230, r24_233, r24_236, r24_237, r24_240, r24_243, r24_243n, r24_244, r24_247, r24_249, r24_250, r24_252, r24_255, r24_255n, r24_256, r24_256i, r24_257, r24_260, r24_262, r24_263, r24_266, r24_266n, r24_267, r24_270, r24_271, r24_273, r24_274, r24_274n, r24_275, r24_278, r24_279, r24_279n, r24_280, r24_280n, r24_281, r24_284, r24_285, r24_286, r24_287, r24_290, r24_291, r24_294, r24_295, r24_300, r24_301, r24_301n, r24_302, r24_305, r24_306, r24_307, r24_308, r24_308n, r24_309, r24_310, r24_310n, r24_311, r24_314, r24_315, r24_316, r24_318, r24_322, i32_10, reduceIte, gm_cmp1, gm_cmp3, gm_cmp4, gm_kd_sf, gm_ln_sf, gm_sf_1, gm_sf_2, gm_nw_1, gm_nw_2, gm_k_int, gm_k_ref, gm_k_null, gm_k_u, gm_k_long, and_true, true_and, true_or, or_true, or_false, false_or, and_self, or_self, if_true, if_false, List.map_nil, List.map_cons, List.sum_nil, List.sum_cons, Nat.zero_le, Option.toList_some, Option.toList_none, List.cons_append, List.nil_append, ne_eq, not_false_eq_true, not_true_eq_false, nI_1, nI_add, Value.category, Nat.reduceAdd, Nat.reduceMod, Nat.reduceLeDiff, Nat.reduceLT, Nat.reduceEqDiff, Nat.reducePow, Nat.le_refl, Nat.add_left_cancel_iff, Nat.add_eq_left, Nat.left_eq_add, Nat.add_zero, g_k0, g_k1, g_l1, g_p4, g_a1, g_w1, g_k2, g_l2, g_p10, g_a2, g_w2, g_k3, g_l3, g_p11, g_a3, g_w3, g_k4, g_l4, g_p12, g_a4, g_w4, g_k5, g_l5, g_p13, g_a5, g_w5, g_k6, g_l6, g_p14, g_a6, g_w6, g_k7, g_l7, g_p15, g_a7, g_w7, g_k8, g_l8, g_p16, g_a8, g_w8, g_k9, g_l9, g_p17, g_a9, g_w9, g_k10, g_l10, g_p18, g_a10, g_w10, g_k11, g_l11, g_p19, g_a11, g_w11, g_k12, g_l12, g_p20, g_a12, g_w12, g_k13, g_l13, g_p21, g_a13, g_w13, g_k14, g_l14, g_p22, g_a14, g_w14, g_k15, g_l15, g_p24, g_a15, g_w15, g_k16, g_l16, g_p26, g_a16, g_w16, g_k17, g_l17, g_p27, g_a17, g_w17, g_k18, g_l18, g_p29, g_a18, g_w18, g_k19, g_l19, g_p30, g_a19, g_w19, g_k20, g_l20, g_p31, g_a20, g_w20, g_k21, g_l21, g_p32, g_a21, g_w21, g_k22, g_l22, g_p33, g_a22, g_w22, g_k23, g_l23, g_p34, g_a23, g_w23, g_k24, g_l24, g_p35, g_a24, g_w24, g_k25, g_l25, g_p36, g_a25, g_w25, g_k26, g_l26, g_p37, g_a26, g_w26, g_k27, g_l27, g_p38, g_a27, g_w27, g_k28, g_l28, g_p40, g_a28, g_w28, g_k29, g_l29, g_p41, g_a29, g_w29, g_k30, g_l30, g_p42, g_a30, g_w30, g_k31, g_l31, g_p43, g_a31, g_w31, g_k32, g_l32, g_p44, g_a32, g_w32, g_k33, g_l33, g_p45, g_a33, g_w33, g_k34, g_l34, g_p46, g_a34, g_w34, g_f0, g_s0, g_f1, g_s1, g_f2, g_s2, g_f3, g_s3, g_f5, g_s5, g_f6, g_s6, g_f7, g_s7, g_f8, g_s8, g_f9, g_s9, g_f23, g_s23, g_f25, g_s25, g_f28, g_s28, g_f39, g_s39, g_f47, g_s47, gr_ui_eq, gr_ui_2, gr_ul_eq, gr_ul_1, gr_ui_no, gr_ui_ni, gr_ul_no, gr_ul_ni, i10, hk, D2, c1, D0, e0, a6, k1, b3, n30, eq_self]
      exact bad (Or.inr b3)
    have nb : ¬ (gs_kind C = 0 ∨ gs_kind C = 3) := fun z => by rcases z with z | z; exact b0 z; exact b3 z
    simp only [r24_0, r24_0n, r24_1, r24_4, r24_5, r24_6, r24_8, r24_11, r24_11n, r24_12, r24_17, r24_17n, r24_18, r24_21, r24_24, r24_24n, r24_25, r24_25n, r24_26, r24_29, r24_30, r24_31, r24_32, r24_36, r24_39, r24_40, r24_40n, r24_41, r24_44, r24_45, r24_46, r24_47, r24_47n, r24_48, r24_51, r24_52, r24_53, r24_55, r24_56, r24_59, r24_59n, r24_60, r24_65, r24_68, r24_69, r24_72, r24_72n, r24_73, r24_78, r24_81, r24_81n, r24_82, r24_85, r24_86, r24_87, r24_90, r24_90n, r24_91, r24_94, r24_95, r24_96, r24_97, r24_100, r24_100n, r24_101, r24_106, r24_106n, r24_107, r24_110, r24_113, r24_114, r24_114n, r24_115, r24_119, r24_119n, r24_120, r24_123, r24_124, r24_125, r24_126, r24_128, r24_128n, r24_129, r24_130, r24_131, r24_133, r24_133n, r24_134, r24_140, r24_142, r24_143, r24_147, r24_150, r24_151, r24_153, r24_155, r24_155n, r24_156, r24_159, r24_161, r24_162, r24_165, r24_165n, r24_166, r24_169, r24_170, r24_172, r24_173, r24_175, r24_176, r24_177, r24_179, r24_179n, r24_180, r24_183, r24_183n, r24_184, r24_187, r24_187n, r24_188, r24_193, r24_194, r24_196, r24_197, r24_199, r24_200, r24_203, r24_206, r24_209, r24_209n, r24_210, r24_213, r24_215, r24_216, r24_219, r24_220, r24_223, r24_225, r24_226, r24_229, r24_230, r24_233, r24_236, r24_237, r24_240, r24_243, r24_243n, r24_244, r24_247, r24_249, r24_250, r24_252, r24_255, r24_255n, r24_256, r24_256i, r24_257, r24_260, r24_262, r24_263, r24_266, r24_266n, r24_267, r24_270, r24_271, r24_273, r24_274, r24_274n, r24_275, r24_278, r24_279, r24_279n, r24_280, r24_280n, r24_281, r24_284, r24_285, r24_286, r24_287, r24_290, r24_291, r24_294, r24_295, r24_300, r24_301, r24_301n, r24_302, r24_305, r24_306, r24_307, r24_308, r24_308n, r24_309, r24_310, r24_310n, r24_311, r24_314, r24_315, r24_316, r24_318, r24_322, i32_10, reduceIte, gm_cmp1, gm_cmp3, gm_cmp4, gm_kd_sf, gm_ln_sf, gm_sf_1, gm_sf_2, gm_nw_1, gm_nw_2, gm_k_int, gm_k_ref, gm_k_null, gm_k_u, gm_k_long, and_true, true_and, true_or, or_true, or_false, false_or, and_self, or_self, if_true, if_false, List.map_nil, List.map_cons, List.sum_nil, List.sum_cons, Nat.zero_le, Option.toList_some, Option.toList_none, List.cons_append, List.nil_append, ne_eq, not_false_eq_true, not_true_eq_false, nI_1, nI_add, Value.category, Nat.reduceAdd, Nat.reduceMod, Nat.reduceLeDiff, Nat.reduceLT, Nat.reduceEqDiff, Nat.reducePow, Nat.le_refl, Nat.add_left_cancel_iff, Nat.add_eq_left, Nat.left_eq_add, Nat.add_zero, g_k0, g_k1, g_l1, g_p4, g_a1, g_w1, g_k2, g_l2, g_p10, g_a2, g_w2, g_k3, g_l3, g_p11, g_a3, g_w3, g_k4, g_l4, g_p12, g_a4, g_w4, g_k5, g_l5, g_p13, g_a5, g_w5, g_k6, g_l6, g_p14, g_a6, g_w6, g_k7, g_l7, g_p15, g_a7, g_w7, g_k8, g_l8, g_p16, g_a8, g_w8, g_k9, g_l9, g_p17, g_a9, g_w9, g_k10, g_l10, g_p18, g_a10, g_w10, g_k11, g_l11, g_p19, g_a11, g_w11, g_k12, g_l12, g_p20, g_a12, g_w12, g_k13, g_l13, g_p21, g_a13, g_w13, g_k14, g_l14, g_p22, g_a14, g_w14, g_k15, g_l15, g_p24, g_a15, g_w15, g_k16, g_l16, g_p26, g_a16, g_w16, g_k17, g_l17, g_p27, g_a17, g_w17, g_k18, g_l18, g_p29, g_a18, g_w18, g_k19, g_l19, g_p30, g_a19, g_w19, g_k20, g_l20, g_p31, g_a20, g_w20, g_k21, g_l21, g_p32, g_a21, g_w21, g_k22, g_l22, g_p33, g_a22, g_w22, g_k23, g_l23, g_p34, g_a23, g_w23, g_k24, g_l24, g_p35, g_a24, g_w24, g_k25, g_l25, g_p36, g_a25, g_w25, g_k26, g_l26, g_p37, g_a26, g_w26, g_k27, g_l27, g_p38, g_a27, g_w27, g_k28, g_l28, g_p40, g_a28, g_w28, g_k29, g_l29, g_p41, g_a29, g_w29, g_k30, g_l30, g_p42, g_a30, g_w30, g_k31, g_l31, g_p43, g_a31, g_w31, g_k32, g_l32, g_p44, g_a32, g_w32, g_k33, g_l33, g_p45, g_a33, g_w33, g_k34, g_l34, g_p46, g_a34, g_w34, g_f0, g_s0, g_f1, g_s1, g_f2, g_s2, g_f3, g_s3, g_f5, g_s5, g_f6, g_s6, g_f7, g_s7, g_f8, g_s8, g_f9, g_s9, g_f23, g_s23, g_f25, g_s25, g_f28, g_s28, g_f39, g_s39, g_f47, g_s47, gr_ui_eq, gr_ui_2, gr_ul_eq, gr_ul_1, gr_ui_no, gr_ui_ni, gr_ul_no, gr_ul_ni, i10, hk, D2, c1, D0, e0, a6, k1, b0, b3, h8]
    refine c24_116 (by simp) g_k0 (by omega) (m_firstSlot Cl hw h6 hC) (gx_kn ?_) gx_kx
    have sl := gs_first_lt hw hC
    have sn : nI (gs_first K C) + nI (gs_fs C).length = nI (gs_slots K (some a)) := by rw [sl]; exact nI_add _ _
    have s24 : gs_slots K (some a) ≤ 24 := gr_C.slots Cl hw h6 (fun c hc => by cases hc; exact a6)
    obtain ⟨FN, hFN⟩ : ∃ FN, FN = gs_slots K (some a) := ⟨_, rfl⟩
    rw [← hFN] at sn s24
    simp only [r24_0, r24_0n, r24_1, r24_4, r24_5, r24_6, r24_8, r24_11, r24_11n, r24_12, r24_17, r24_17n, r24_18, r24_21, r24_24, r24_24n, r24_25, r24_25n, r24_26, r24_29, r24_30, r24_31, r24_32, r24_36, r24_39, r24_40, r24_40n, r24_41, r24_44, r24_45, r24_46, r24_47, r24_47n, r24_48, r24_51, r24_52, r24_53, r24_55, r24_56, r24_59, r24_59n, r24_60, r24_65, r24_68, r24_69, r24_72, r24_72n, r24_73, r24_78, r24_81, r24_81n, r24_82, r24_85, r24_86, r24_87, r24_90, r24_90n, r24_91, r24_94, r24_95, r24_96, r24_97, r24_100, r24_100n, r24_101, r24_106, r24_106n, r24_107, r24_110, r24_113, r24_114, r24_114n, r24_115, r24_119, r24_119n, r24_120, r24_123, r24_124, r24_125, r24_126, r24_128, r24_128n, r24_129, r24_130, r24_131, r24_133, r24_133n, r24_134, r24_140, r24_142, r24_143, r24_147, r24_150, r24_151, r24_153, r24_155, r24_155n, r24_156, r24_159, r24_161, r24_162, r24_165, r24_165n, r24_166, r24_169, r24_170, r24_172, r24_173, r24_175, r24_176, r24_177, r24_179, r24_179n, r24_180, r24_183, r24_183n, r24_184, r24_187, r24_187n, r24_188, r24_193, r24_194, r24_196, r24_197, r24_199, r24_200, r24_203, r24_206, r24_209, r24_209n, r24_210, r24_213, r24_215, r24_216, r24_219, r24_220, r24_223, r24_225, r24_226, r24_229, r24_230, r24_233, r24_236, r24_237, r24_240, r24_243, r24_243n, r24_244, r24_247, r24_249, r24_250, r24_252, r24_255, r24_255n, r24_256, r24_256i, r24_257, r24_260, r24_262, r24_263, r24_266, r24_266n, r24_267, r24_270, r24_271, r24_273, r24_274, r24_274n, r24_275, r24_278, r24_279, r24_279n, r24_280, r24_280n, r24_281, r24_284, r24_285, r24_286, r24_287, r24_290, r24_291, r24_294, r24_295, r24_300, r24_301, r24_301n, r24_302, r24_305, r24_306, r24_307, r24_308, r24_308n, r24_309, r24_310, r24_310n, r24_311, r24_314, r24_315, r24_316, r24_318, r24_322, i32_10, reduceIte, gm_cmp1, gm_cmp3, gm_cmp4, gm_kd_sf, gm_ln_sf, gm_sf_1, gm_sf_2, gm_nw_1, gm_nw_2, gm_k_int, gm_k_ref, gm_k_null, gm_k_u, gm_k_long, and_true, true_and, true_or, or_true, or_false, false_or, and_self, or_self, if_true, if_false, List.map_nil, List.map_cons, List.sum_nil, List.sum_cons, Nat.zero_le, Option.toList_some, Option.toList_none, List.cons_append, List.nil_append, ne_eq, not_false_eq_true, not_true_eq_false, nI_1, nI_add, Value.category, Nat.reduceAdd, Nat.reduceMod, Nat.reduceLeDiff, Nat.reduceLT, Nat.reduceEqDiff, Nat.reducePow, Nat.le_refl, Nat.add_left_cancel_iff, Nat.add_eq_left, Nat.left_eq_add, Nat.add_zero, g_k0, g_k1, g_l1, g_p4, g_a1, g_w1, g_k2, g_l2, g_p10, g_a2, g_w2, g_k3, g_l3, g_p11, g_a3, g_w3, g_k4, g_l4, g_p12, g_a4, g_w4, g_k5, g_l5, g_p13, g_a5, g_w5, g_k6, g_l6, g_p14, g_a6, g_w6, g_k7, g_l7, g_p15, g_a7, g_w7, g_k8, g_l8, g_p16, g_a8, g_w8, g_k9, g_l9, g_p17, g_a9, g_w9, g_k10, g_l10, g_p18, g_a10, g_w10, g_k11, g_l11, g_p19, g_a11, g_w11, g_k12, g_l12, g_p20, g_a12, g_w12, g_k13, g_l13, g_p21, g_a13, g_w13, g_k14, g_l14, g_p22, g_a14, g_w14, g_k15, g_l15, g_p24, g_a15, g_w15, g_k16, g_l16, g_p26, g_a16, g_w16, g_k17, g_l17, g_p27, g_a17, g_w17, g_k18, g_l18, g_p29, g_a18, g_w18, g_k19, g_l19, g_p30, g_a19, g_w19, g_k20, g_l20, g_p31, g_a20, g_w20, g_k21, g_l21, g_p32, g_a21, g_w21, g_k22, g_l22, g_p33, g_a22, g_w22, g_k23, g_l23, g_p34, g_a23, g_w23, g_k24, g_l24, g_p35, g_a24, g_w24, g_k25, g_l25, g_p36, g_a25, g_w25, g_k26, g_l26, g_p37, g_a26, g_w26, g_k27, g_l27, g_p38, g_a27, g_w27, g_k28, g_l28, g_p40, g_a28, g_w28, g_k29, g_l29, g_p41, g_a29, g_w29, g_k30, g_l30, g_p42, g_a30, g_w30, g_k31, g_l31, g_p43, g_a31, g_w31, g_k32, g_l32, g_p44, g_a32, g_w32, g_k33, g_l33, g_p45, g_a33, g_w33, g_k34, g_l34, g_p46, g_a34, g_w34, g_f0, g_s0, g_f1, g_s1, g_f2, g_s2, g_f3, g_s3, g_f5, g_s5, g_f6, g_s6, g_f7, g_s7, g_f8, g_s8, g_f9, g_s9, g_f23, g_s23, g_f25, g_s25, g_f28, g_s28, g_f39, g_s39, g_f47, g_s47, gr_ui_eq, gr_ui_2, gr_ul_eq, gr_ul_1, gr_ui_no, gr_ui_ni, gr_ul_no, gr_ul_ni, a6, k5, sn, h25]
    refine c24_137 (by simp) g_k0 (by omega) (m_make h23 ho) (gx_kn ?_) gx_kx
    obtain ⟨tm, htm⟩ : ∃ tm, tm = gr_make t o 0 (nI a) (nI FN) (nI us) := ⟨_, rfl⟩
    rw [← htm]
    have vm : ∀ q i, (q = 0 → i ≠ 23) → (q < 10 ∨ 14 < q) → tm.1 q i = t.1 q i := fun q i z0 z1 => by
      have u : ∀ (t : gr_t) (o2 i2 : Nat) (x : Int32), (q = o2 → i ≠ i2) → (gr_ui t o2 i2 x).1 q i = t.1 q i := fun t o2 i2 x z => by
        show (if q = o2 ∧ i = i2 then x else t.1 q i) = t.1 q i
        rw [if_neg (fun y => z y.1 y.2)]
      rw [htm]
      unfold gr_make
      rw [u _ _ _ _ z0, u _ _ _ _ (by omega), u _ _ _ _ (by omega), u _ _ _ _ (by omega), u _ _ _ _ (by omega), u _ _ _ _ (by omega)]
    have vm2 : tm.2 = t.2 := by rw [htm]; rfl
    have Clm : gr_C tm K := (show gr_kp 0 4000 0 t tm from ⟨fun q i hq => vm q i (by unfold gr_pr at hq; omega) (by unfold gr_pr at hq; omega), fun q i _ => by rw [vm2]⟩).gC Cl
    have last : ∀ tF, gr_vF tm us FN 0 (gs_slot0 K (some a)) tF → ∀ w7 w8 : Value, gm_W E d 24 255 [.ref m, .int (nI f), .int (nI k), .int (nI a), .int (nI FN), .int (nI o), .int (-1), w7, w8] [] (gr_H h m tF) Q := by
      intro tF vF w7 w8
      have z : ∀ q i, (q = 0 → i ≠ 23) → (q < 10 ∨ 14 < q) → tF.1 q i = t.1 q i := fun q i z0 z1 => by rw [vF.1]; exact vm q i z0 z1
      have g25 : tF.1 0 25 = nI us := by rw [z 0 25 (by decide) (by decide)]; exact h25
      have ua : nI us + nI FN = nI (us + FN) := nI_add _ _
      have g2 : tF.1 2 a = gs_kind C := by rw [z 2 a (by omega) (by decide)]; exact k1
      obtain ⟨ta, hta⟩ : ∃ ta, ta = gr_ui (gr_ui tF 0 25 (nI (us + FN))) 31 f (nI o) := ⟨_, rfl⟩
      have a28 : ta.1 0 28 = nI e := by rw [hta, gr_ui_no (by decide), gr_ui_ni (by decide), z 0 28 (by decide) (by decide)]; exact h28
      have a2 : ta.1 2 a = gs_kind C := by rw [hta, gr_ui_no (by decide), gr_ui_no (by decide)]; exact g2
      have tail : ∀ kd : Int32, kd = (if gs_kind C = 4 then 3 else 2) → gm_W E d 24 295 [.ref m, .int (nI f), .int (nI k), .int (nI a), .int (nI FN), .int (nI o), .int (-1), w7, w8] [.int kd, .ref m, .int (nI f), .ref (m + 32)] (gr_H h m ta) Q := by
        intro kd hkd
        obtain ⟨tb, htb⟩ : ∃ tb, tb = gr_ent ta e kd (nI o) := ⟨_, rfl⟩
        obtain ⟨tc, htc⟩ : ∃ tc, tc = gr_ui (gr_ui tb 32 f (nI e)) 29 f 2 := ⟨_, rfl⟩
        have c30 : tb.1 30 f = nI dp := by rw [htb]; unfold gr_ent; rw [gr_ui_no (by decide), gr_ui_no (by decide), gr_ui_no (by decide), hta, gr_ui_no (by decide), gr_ui_no (by decide), z 30 f (by omega) (by omega)]; exact h30
        have c47 : tc.1 0 47 = nI (f + 1) := by rw [htc, gr_ui_no (by decide), gr_ui_no (by decide), htb]; unfold gr_ent; rw [gr_ui_ni (by decide), gr_ui_no (by decide), gr_ui_no (by decide), hta, gr_ui_no (by decide), gr_ui_ni (by decide), z 0 47 (by decide) (by decide)]; exact h47
        simp only [r24_0, r24_0n, r24_1, r24_4, r24_5, r24_6, r24_8, r24_11, r24_11n, r24_12, r24_17, r24_17n, r24_18, r24_21, r24_24, r24_24n, r24_25, r24_25n, r24_26, r24_29, r24_30, r24_31, r24_32, r24_36, r24_39, r24_40, r24_40n, r24_41, r24_44, r24_45, r24_46, r24_47, r24_47n, r24_48, r24_51, r24_52, r24_53, r24_55, r24_56, r24_59, r24_59n, r24_60, r24_65, r24_68, r24_69, r24_72, r24_72n, r24_73, r24_78, r24_81, r24_81n, r24_82, r24_85, r24_86, r24_87, r24_90, r24_90n, r24_91, r24_94, r24_95, r24_96, r24_97, r24_100, r24_100n, r24_101, r24_106, r24_106n, r24_107, r24_110, r24_113, r24_114, r24_114n, r24_115, r24_119, r24_119n, r24_120, r24_123, r24_124, r24_125, r24_126, r24_128, r24_128n, r24_129, r24_130, r24_131, r24_133, r24_133n, r24_134, r24_140, r24_142, r24_143, r24_147, r24_150, r24_151, r24_153, r24_155, r24_155n, r24_156, r24_159, r24_161, r24_162, r24_165, r24_165n, r24_166, r24_169, r24_170, r24_172, r24_173, r24_175, r24_176, r24_177, r24_179, r24_179n, r24_180, r24_183, r24_183n, r24_184, r24_187, r24_187n, r24_188, r24_193, r24_194, r24_196, r24_197, r24_199, r24_200, r24_203, r24_206, r24_209, r24_209n, r24_210, r24_213, r24_215, r24_216, r24_219, r24_220, r24_223, r24_225, r24_226, r24_229, r24_230, r24_233, r24_236, r24_237, r24_240, r24_243, r24_243n, r24_244, r24_247, r24_249, r24_250, r24_252, r24_255, r24_255n, r24_256, r24_256i, r24_257, r24_260, r24_262, r24_263, r24_266, r24_266n, r24_267, r24_270, r24_271, r24_273, r24_274, r24_274n, r24_275, r24_278, r24_279, r24_279n, r24_280, r24_280n, r24_281, r24_284, r24_285, r24_286, r24_287, r24_290, r24_291, r24_294, r24_295, r24_300, r24_301, r24_301n, r24_302, r24_305, r24_306, r24_307, r24_308, r24_308n, r24_309, r24_310, r24_310n, r24_311, r24_314, r24_315, r24_316, r24_318, r24_322, i32_10, reduceIte, gm_cmp1, gm_cmp3, gm_cmp4, gm_kd_sf, gm_ln_sf, gm_sf_1, gm_sf_2, gm_nw_1, gm_nw_2, gm_k_int, gm_k_ref, gm_k_null, gm_k_u, gm_k_long, and_true, true_and, true_or, or_true, or_false, false_or, and_self, or_self, if_true, if_false, List.map_nil, List.map_cons, List.sum_nil, List.sum_cons, Nat.zero_le, Option.toList_some, Option.toList_none, List.cons_append, List.nil_append, ne_eq, not_false_eq_true, not_true_eq_false, nI_1, nI_add, Value.category, Nat.reduceAdd, Nat.reduceMod, Nat.reduceLeDiff, Nat.reduceLT, Nat.reduceEqDiff, Nat.reducePow, Nat.le_refl, Nat.add_left_cancel_iff, Nat.add_eq_left, Nat.left_eq_add, Nat.add_zero, g_k0, g_k1, g_l1, g_p4, g_a1, g_w1, g_k2, g_l2, g_p10, g_a2, g_w2, g_k3, g_l3, g_p11, g_a3, g_w3, g_k4, g_l4, g_p12, g_a4, g_w4, g_k5, g_l5, g_p13, g_a5, g_w5, g_k6, g_l6, g_p14, g_a6, g_w6, g_k7, g_l7, g_p15, g_a7, g_w7, g_k8, g_l8, g_p16, g_a8, g_w8, g_k9, g_l9, g_p17, g_a9, g_w9, g_k10, g_l10, g_p18, g_a10, g_w10, g_k11, g_l11, g_p19, g_a11, g_w11, g_k12, g_l12, g_p20, g_a12, g_w12, g_k13, g_l13, g_p21, g_a13, g_w13, g_k14, g_l14, g_p22, g_a14, g_w14, g_k15, g_l15, g_p24, g_a15, g_w15, g_k16, g_l16, g_p26, g_a16, g_w16, g_k17, g_l17, g_p27, g_a17, g_w17, g_k18, g_l18, g_p29, g_a18, g_w18, g_k19, g_l19, g_p30, g_a19, g_w19, g_k20, g_l20, g_p31, g_a20, g_w20, g_k21, g_l21, g_p32, g_a21, g_w21, g_k22, g_l22, g_p33, g_a22, g_w22, g_k23, g_l23, g_p34, g_a23, g_w23, g_k24, g_l24, g_p35, g_a24, g_w24, g_k25, g_l25, g_p36, g_a25, g_w25, g_k26, g_l26, g_p37, g_a26, g_w26, g_k27, g_l27, g_p38, g_a27, g_w27, g_k28, g_l28, g_p40, g_a28, g_w28, g_k29, g_l29, g_p41, g_a29, g_w29, g_k30, g_l30, g_p42, g_a30, g_w30, g_k31, g_l31, g_p43, g_a31, g_w31, g_k32, g_l32, g_p44, g_a32, g_w32, g_k33, g_l33, g_p45, g_a33, g_w33, g_k34, g_l34, g_p46, g_a34, g_w34, g_f0, g_s0, g_f1, g_s1, g_f2, g_s2, g_f3, g_s3, g_f5, g_s5, g_f6, g_s6, g_f7, g_s7, g_f8, g_s8, g_f9, g_s9, g_f23, g_s23, g_f25, g_s25, g_f28, g_s28, g_f39, g_s39, g_f47, g_s47, gr_ui_eq, gr_ui_2, gr_ul_eq, gr_ul_1, gr_ui_no, gr_ui_ni, gr_ul_no, gr_ul_ni]
        refine c24_297 (by simp [Value.category]) g_k0 (by omega) (m_entry a28 he) (gx_kn ?_) gx_kx
        rw [← htb]
        simp only [r24_0, r24_0n, r24_1, r24_4, r24_5, r24_6, r24_8, r24_11, r24_11n, r24_12, r24_17, r24_17n, r24_18, r24_21, r24_24, r24_24n, r24_25, r24_25n, r24_26, r24_29, r24_30, r24_31, r24_32, r24_36, r24_39, r24_40, r24_40n, r24_41, r24_44, r24_45, r24_46, r24_47, r24_47n, r24_48, r24_51, r24_52, r24_53, r24_55, r24_56, r24_59, r24_59n, r24_60, r24_65, r24_68, r24_69, r24_72, r24_72n, r24_73, r24_78, r24_81, r24_81n, r24_82, r24_85, r24_86, r24_87, r24_90, r24_90n, r24_91, r24_94, r24_95, r24_96, r24_97, r24_100, r24_100n, r24_101, r24_106, r24_106n, r24_107, r24_110, r24_113, r24_114, r24_114n, r24_115, r24_119, r24_119n, r24_120, r24_123, r24_124, r24_125, r24_126, r24_128, r24_128n, r24_129, r24_130, r24_131, r24_133, r24_133n, r24_134, r24_140, r24_142, r24_143, r24_147, r24_150, r24_151, r24_153, r24_155, r24_155n, r24_156, r24_159, r24_161, r24_162, r24_165, r24_165n, r24_166, r24_169, r24_170, r24_172, r24_173, r24_175, r24_176, r24_177, r24_179, r24_179n, r24_180, r24_183, r24_183n, r24_184, r24_187, r24_187n, r24_188, r24_193, r24_194, r24_196, r24_197, r24_199, r24_200, r24_203, r24_206, r24_209, r24_209n, r24_210, r24_213, r24_215, r24_216, r24_219, r24_220, r24_223, r24_225, r24_226, r24_229, r24_230, r24_233, r24_236, r24_237, r24_240, r24_243, r24_243n, r24_244, r24_247, r24_249, r24_250, r24_252, r24_255, r24_255n, r24_256, r24_256i, r24_257, r24_260, r24_262, r24_263, r24_266, r24_266n, r24_267, r24_270, r24_271, r24_273, r24_274, r24_274n, r24_275, r24_278, r24_279, r24_279n, r24_280, r24_280n, r24_281, r24_284, r24_285, r24_286, r24_287, r24_290, r24_291, r24_294, r24_295, r24_300, r24_301, r24_301n, r24_302, r24_305, r24_306, r24_307, r24_308, r24_308n, r24_309, r24_310, r24_310n, r24_311, r24_314, r24_315, r24_316, r24_318, r24_322, i32_10, reduceIte, gm_cmp1, gm_cmp3, gm_cmp4, gm_kd_sf, gm_ln_sf, gm_sf_1, gm_sf_2, gm_nw_1, gm_nw_2, gm_k_int, gm_k_ref, gm_k_null, gm_k_u, gm_k_long, and_true, true_and, true_or, or_true, or_false, false_or, and_self, or_self, if_true, if_false, List.map_nil, List.map_cons, List.sum_nil, List.sum_cons, Nat.zero_le, Option.toList_some, Option.toList_none, List.cons_append, List.nil_append, ne_eq, not_false_eq_true, not_true_eq_false, nI_1, nI_add, Value.category, Nat.reduceAdd, Nat.reduceMod, Nat.reduceLeDiff, Nat.reduceLT, Nat.reduceEqDiff, Nat.reducePow, Nat.le_refl, Nat.add_left_cancel_iff, Nat.add_eq_left, Nat.left_eq_add, Nat.add_zero, g_k0, g_k1, g_l1, g_p4, g_a1, g_w1, g_k2, g_l2, g_p10, g_a2, g_w2, g_k3, g_l3, g_p11, g_a3, g_w3, g_k4, g_l4, g_p12, g_a4, g_w4, g_k5, g_l5, g_p13, g_a5, g_w5, g_k6, g_l6, g_p14, g_a6, g_w6, g_k7, g_l7, g_p15, g_a7, g_w7, g_k8, g_l8, g_p16, g_a8, g_w8, g_k9, g_l9, g_p17, g_a9, g_w9, g_k10, g_l10, g_p18, g_a10, g_w10, g_k11, g_l11, g_p19, g_a11, g_w11, g_k12, g_l12, g_p20, g_a12, g_w12, g_k13, g_l13, g_p21, g_a13, g_w13, g_k14, g_l14, g_p22, g_a14, g_w14, g_k15, g_l15, g_p24, g_a15, g_w15, g_k16, g_l16, g_p26, g_a16, g_w16, g_k17, g_l17, g_p27, g_a17, g_w17, g_k18, g_l18, g_p29, g_a18, g_w18, g_k19, g_l19, g_p30, g_a19, g_w19, g_k20, g_l20, g_p31, g_a20, g_w20, g_k21, g_l21, g_p32, g_a21, g_w21, g_k22, g_l22, g_p33, g_a22, g_w22, g_k23, g_l23, g_p34, g_a23, g_w23, g_k24, g_l24, g_p35, g_a24, g_w24, g_k25, g_l25, g_p36, g_a25, g_w25, g_k26, g_l26, g_p37, g_a26, g_w26, g_k27, g_l27, g_p38, g_a27, g_w27, g_k28, g_l28, g_p40, g_a28, g_w28, g_k29, g_l29, g_p41, g_a29, g_w29, g_k30, g_l30, g_p42, g_a30, g_w30, g_k31, g_l31, g_p43, g_a31, g_w31, g_k32, g_l32, g_p44, g_a32, g_w32, g_k33, g_l33, g_p45, g_a33, g_w33, g_k34, g_l34, g_p46, g_a34, g_w34, g_f0, g_s0, g_f1, g_s1, g_f2, g_s2, g_f3, g_s3, g_f5, g_s5, g_f6, g_s6, g_f7, g_s7, g_f8, g_s8, g_f9, g_s9, g_f23, g_s23, g_f25, g_s25, g_f28, g_s28, g_f39, g_s39, g_f47, g_s47, gr_ui_eq, gr_ui_2, gr_ul_eq, gr_ul_1, gr_ui_no, gr_ui_ni, gr_ul_no, gr_ul_ni, f80, c30]
        rw [← htc]
        refine c24_319 (by simp) g_k0 (by omega) (m_push (tp := f + 1) c47 (by omega)) (gx_kn ?_) gx_kx
        simp only [r24_0, r24_0n, r24_1, r24_4, r24_5, r24_6, r24_8, r24_11, r24_11n, r24_12, r24_17, r24_17n, r24_18, r24_21, r24_24, r24_24n, r24_25, r24_25n, r24_26, r24_29, r24_30, r24_31, r24_32, r24_36, r24_39, r24_40, r24_40n, r24_41, r24_44, r24_45, r24_46, r24_47, r24_47n, r24_48, r24_51, r24_52, r24_53, r24_55, r24_56, r24_59, r24_59n, r24_60, r24_65, r24_68, r24_69, r24_72, r24_72n, r24_73, r24_78, r24_81, r24_81n, r24_82, r24_85, r24_86, r24_87, r24_90, r24_90n, r24_91, r24_94, r24_95, r24_96, r24_97, r24_100, r24_100n, r24_101, r24_106, r24_106n, r24_107, r24_110, r24_113, r24_114, r24_114n, r24_115, r24_119, r24_119n, r24_120, r24_123, r24_124, r24_125, r24_126, r24_128, r24_128n, r24_129, r24_130, r24_131, r24_133, r24_133n, r24_134, r24_140, r24_142, r24_143, r24_147, r24_150, r24_151, r24_153, r24_155, r24_155n, r24_156, r24_159, r24_161, r24_162, r24_165, r24_165n, r24_166, r24_169, r24_170, r24_172, r24_173, r24_175, r24_176, r24_177, r24_179, r24_179n, r24_180, r24_183, r24_183n, r24_184, r24_187, r24_187n, r24_188, r24_193, r24_194, r24_196, r24_197, r24_199, r24_200, r24_203, r24_206, r24_209, r24_209n, r24_210, r24_213, r24_215, r24_216, r24_219, r24_220, r24_223, r24_225, r24_226, r24_229, r24_230, r24_233, r24_236, r24_237, r24_240, r24_243, r24_243n, r24_244, r24_247, r24_249, r24_250, r24_252, r24_255, r24_255n, r24_256, r24_256i, r24_257, r24_260, r24_262, r24_263, r24_266, r24_266n, r24_267, r24_270, r24_271, r24_273, r24_274, r24_274n, r24_275, r24_278, r24_279, r24_279n, r24_280, r24_280n, r24_281, r24_284, r24_285, r24_286, r24_287, r24_290, r24_291, r24_294, r24_295, r24_300, r24_301, r24_301n, r24_302, r24_305, r24_306, r24_307, r24_308, r24_308n, r24_309, r24_310, r24_310n, r24_311, r24_314, r24_315, r24_316, r24_318, r24_322, i32_10, reduceIte, gm_cmp1, gm_cmp3, gm_cmp4, gm_kd_sf, gm_ln_sf, gm_sf_1, gm_sf_2, gm_nw_1, gm_nw_2, gm_k_int, gm_k_ref, gm_k_null, gm_k_u, gm_k_long, and_true, true_and, true_or, or_true, or_false, false_or, and_self, or_self, if_true, if_false, List.map_nil, List.map_cons, List.sum_nil, List.sum_cons, Nat.zero_le, Option.toList_some, Option.toList_none, List.cons_append, List.nil_append, ne_eq, not_false_eq_true, not_true_eq_false, nI_1, nI_add, Value.category, Nat.reduceAdd, Nat.reduceMod, Nat.reduceLeDiff, Nat.reduceLT, Nat.reduceEqDiff, Nat.reducePow, Nat.le_refl, Nat.add_left_cancel_iff, Nat.add_eq_left, Nat.left_eq_add, Nat.add_zero]
        refine fin2 _ ?_
        rw [if_neg nb, ← hFN, ← htm]
        refine ⟨tF, vF, ?_⟩
        unfold gr_nIt
        rw [htc, htb, hta, hkd]
      by_cases k4 : gs_kind C = 4
      · simp only [r24_0, r24_0n, r24_1, r24_4, r24_5, r24_6, r24_8, r24_11, r24_11n, r24_12, r24_17, r24_17n, r24_18, r24_21, r24_24, r24_24n, r24_25, r24_25n, r24_26, r24_29, r24_30, r24_31, r24_32, r24_36, r24_39, r24_40, r24_40n, r24_41, r24_44, r24_45, r24_46, r24_47, r24_47n, r24_48, r24_51, r24_52, r24_53, r24_55, r24_56, r24_59, r24_59n, r24_60, r24_65, r24_68, r24_69, r24_72, r24_72n, r24_73, r24_78, r24_81, r24_81n, r24_82, r24_85, r24_86, r24_87, r24_90, r24_90n, r24_91, r24_94, r24_95, r24_96, r24_97, r24_100, r24_100n, r24_101, r24_106, r24_106n, r24_107, r24_110, r24_113, r24_114, r24_114n, r24_115, r24_119, r24_119n, r24_120, r24_123, r24_124, r24_125, r24_126, r24_128, r24_128n, r24_129, r24_130, r24_131, r24_133, r24_133n, r24_134, r24_140, r24_142, r24_143, r24_147, r24_150, r24_151, r24_153, r24_155, r24_155n, r24_156, r24_159, r24_161, r24_162, r24_165, r24_165n, r24_166, r24_169, r24_170, r24_172, r24_173, r24_175, r24_176, r24_177, r24_179, r24_179n, r24_180, r24_183, r24_183n, r24_184, r24_187, r24_187n, r24_188, r24_193, r24_194, r24_196, r24_197, r24_199, r24_200, r24_203, r24_206, r24_209, r24_209n, r24_210, r24_213, r24_215, r24_216, r24_219, r24_220, r24_223, r24_225, r24_226, r24_229, r24_230, r24_233, r24_236, r24_237, r24_240, r24_243, r24_243n, r24_244, r24_247, r24_249, r24_250, r24_252, r24_255, r24_255n, r24_256, r24_256i, r24_257, r24_260, r24_262, r24_263, r24_266, r24_266n, r24_267, r24_270, r24_271, r24_273, r24_274, r24_274n, r24_275, r24_278, r24_279, r24_279n, r24_280, r24_280n, r24_281, r24_284, r24_285, r24_286, r24_287, r24_290, r24_291, r24_294, r24_300, r24_301, r24_301n, r24_302, r24_305, r24_306, r24_307, r24_308, r24_308n, r24_309, r24_310, r24_310n, r24_311, r24_314, r24_315, r24_316, r24_318, r24_322, i32_10, reduceIte, gm_cmp1, gm_cmp3, gm_cmp4, gm_kd_sf, gm_ln_sf, gm_sf_1, gm_sf_2, gm_nw_1, gm_nw_2, gm_k_int, gm_k_ref, gm_k_null, gm_k_u, gm_k_long, and_true, true_and, true_or, or_true, or_false, false_or, and_self, or_self, if_true, if_false, List.map_nil, List.map_cons, List.sum_nil, List.sum_cons, Nat.zero_le, Option.toList_some, Option.toList_none, List.cons_append, List.nil_append, ne_eq, not_false_eq_true, not_true_eq_false, nI_1, nI_add, Value.category, Nat.reduceAdd, Nat.reduceMod, Nat.reduceLeDiff, Nat.reduceLT, Nat.reduceEqDiff, Nat.reducePow, Nat.le_refl, Nat.add_left_cancel_iff, Nat.add_eq_left, Nat.left_eq_add, Nat.add_zero, g_k0, g_k1, g_l1, g_p4, g_a1, g_w1, g_k2, g_l2, g_p10, g_a2, g_w2, g_k3, g_l3, g_p11, g_a3, g_w3, g_k4, g_l4, g_p12, g_a4, g_w4, g_k5, g_l5, g_p13, g_a5, g_w5, g_k6, g_l6, g_p14, g_a6, g_w6, g_k7, g_l7, g_p15, g_a7, g_w7, g_k8, g_l8, g_p16, g_a8, g_w8, g_k9, g_l9, g_p17, g_a9, g_w9, g_k10, g_l10, g_p18, g_a10, g_w10, g_k11, g_l11, g_p19, g_a11, g_w11, g_k12, g_l12, g_p20, g_a12, g_w12, g_k13, g_l13, g_p21, g_a13, g_w13, g_k14, g_l14, g_p22, g_a14, g_w14, g_k15, g_l15, g_p24, g_a15, g_w15, g_k16, g_l16, g_p26, g_a16, g_w16, g_k17, g_l17, g_p27, g_a17, g_w17, g_k18, g_l18, g_p29, g_a18, g_w18, g_k19, g_l19, g_p30, g_a19, g_w19, g_k20, g_l20, g_p31, g_a20, g_w20, g_k21, g_l21, g_p32, g_a21, g_w21, g_k22, g_l22, g_p33, g_a22, g_w22, g_k23, g_l23, g_p34, g_a23, g_w23, g_k24, g_l24, g_p35, g_a24, g_w24, g_k25, g_l25, g_p36, g_a25, g_w25, g_k26, g_l26, g_p37, g_a26, g_w26, g_k27, g_l27, g_p38, g_a27, g_w27, g_k28, g_l28, g_p40, g_a28, g_w28, g_k29, g_l29, g_p41, g_a29, g_w29, g_k30, g_l30, g_p42, g_a30, g_w30, g_k31, g_l31, g_p43, g_a31, g_w31, g_k32, g_l32, g_p44, g_a32, g_w32, g_k33, g_l33, g_p45, g_a33, g_w33, g_k34, g_l34, g_p46, g_a34, g_w34, g_f0, g_s0, g_f1, g_s1, g_f2, g_s2, g_f3, g_s3, g_f5, g_s5, g_f6, g_s6, g_f7, g_s7, g_f8, g_s8, g_f9, g_s9, g_f23, g_s23, g_f25, g_s25, g_f28, g_s28, g_f39, g_s39, g_f47, g_s47, gr_ui_eq, gr_ui_2, gr_ul_eq, gr_ul_1, gr_ui_no, gr_ui_ni, gr_ul_no, gr_ul_ni, g25, ua, f80]
        rw [← hta]
        simp only [r24_0, r24_0n, r24_1, r24_4, r24_5, r24_6, r24_8, r24_11, r24_11n, r24_12, r24_17, r24_17n, r24_18, r24_21, r24_24, r24_24n, r24_25, r24_25n, r24_26, r24_29, r24_30, r24_31, r24_32, r24_36, r24_39, r24_40, r24_40n, r24_41, r24_44, r24_45, r24_46, r24_47, r24_47n, r24_48, r24_51, r24_52, r24_53, r24_55, r24_56, r24_59, r24_59n, r24_60, r24_65, r24_68, r24_69, r24_72, r24_72n, r24_73, r24_78, r24_81, r24_81n, r24_82, r24_85, r24_86, r24_87, r24_90, r24_90n, r24_91, r24_94, r24_95, r24_96, r24_97, r24_100, r24_100n, r24_101, r24_106, r24_106n, r24_107, r24_110, r24_113, r24_114, r24_114n, r24_115, r24_119, r24_119n, r24_120, r24_123, r24_124, r24_125, r24_126, r24_128, r24_128n, r24_129, r24_130, r24_131, r24_133, r24_133n, r24_134, r24_140, r24_142, r24_143, r24_147, r24_150, r24_151, r24_153, r24_155, r24_155n, r24_156, r24_159, r24_161, r24_162, r24_165, r24_165n, r24_166, r24_169, r24_170, r24_172, r24_173, r24_175, r24_176, r24_177, r24_179, r24_179n, r24_180, r24_183, r24_183n, r24_184, r24_187, r24_187n, r24_188, r24_193, r24_194, r24_196, r24_197, r24_199, r24_200, r24_203, r24_206, r24_209, r24_209n, r24_210, r24_213, r24_215, r24_216, r24_219, r24_220, r24_223, r24_225, r24_226, r24_229, r24_230, r24_233, r24_236, r24_237, r24_240, r24_243, r24_243n, r24_244, r24_247, r24_249, r24_250, r24_252, r24_255, r24_255n, r24_256, r24_256i, r24_257, r24_260, r24_262, r24_263, r24_266, r24_266n, r24_267, r24_270, r24_271, r24_273, r24_274, r24_274n, r24_275, r24_278, r24_279, r24_279n, r24_280, r24_280n, r24_281, r24_284, r24_285, r24_286, r24_287, r24_290, r24_291, r24_294, r24_300, r24_301, r24_301n, r24_302, r24_305, r24_306, r24_307, r24_308, r24_308n, r24_309, r24_310, r24_310n, r24_311, r24_314, r24_315, r24_316, r24_318, r24_322, i32_10, reduceIte, gm_cmp1, gm_cmp3, gm_cmp4, gm_kd_sf, gm_ln_sf, gm_sf_1, gm_sf_2, gm_nw_1, gm_nw_2, gm_k_int, gm_k_ref, gm_k_null, gm_k_u, gm_k_long, and_true, true_and, true_or, or_true, or_false, false_or, and_self, or_self, if_true, if_false, List.map_nil, List.map_cons, List.sum_nil, List.sum_cons, Nat.zero_le, Option.toList_some, Option.toList_none, List.cons_append, List.nil_append, ne_eq, not_false_eq_true, not_true_eq_false, nI_1, nI_add, Value.category, Nat.reduceAdd, Nat.reduceMod, Nat.reduceLeDiff, Nat.reduceLT, Nat.reduceEqDiff, Nat.reducePow, Nat.le_refl, Nat.add_left_cancel_iff, Nat.add_eq_left, Nat.left_eq_add, Nat.add_zero, g_k0, g_k1, g_l1, g_p4, g_a1, g_w1, g_k2, g_l2, g_p10, g_a2, g_w2, g_k3, g_l3, g_p11, g_a3, g_w3, g_k4, g_l4, g_p12, g_a4, g_w4, g_k5, g_l5, g_p13, g_a5, g_w5, g_k6, g_l6, g_p14, g_a6, g_w6, g_k7, g_l7, g_p15, g_a7, g_w7, g_k8, g_l8, g_p16, g_a8, g_w8, g_k9, g_l9, g_p17, g_a9, g_w9, g_k10, g_l10, g_p18, g_a10, g_w10, g_k11, g_l11, g_p19, g_a11, g_w11, g_k12, g_l12, g_p20, g_a12, g_w12, g_k13, g_l13, g_p21, g_a13, g_w13, g_k14, g_l14, g_p22, g_a14, g_w14, g_k15, g_l15, g_p24, g_a15, g_w15, g_k16, g_l16, g_p26, g_a16, g_w16, g_k17, g_l17, g_p27, g_a17, g_w17, g_k18, g_l18, g_p29, g_a18, g_w18, g_k19, g_l19, g_p30, g_a19, g_w19, g_k20, g_l20, g_p31, g_a20, g_w20, g_k21, g_l21, g_p32, g_a21, g_w21, g_k22, g_l22, g_p33, g_a22, g_w22, g_k23, g_l23, g_p34, g_a23, g_w23, g_k24, g_l24, g_p35, g_a24, g_w24, g_k25, g_l25, g_p36, g_a25, g_w25, g_k26, g_l26, g_p37, g_a26, g_w26, g_k27, g_l27, g_p38, g_a27, g_w27, g_k28, g_l28, g_p40, g_a28, g_w28, g_k29, g_l29, g_p41, g_a29, g_w29, g_k30, g_l30, g_p42, g_a30, g_w30, g_k31, g_l31, g_p43, g_a31, g_w31, g_k32, g_l32, g_p44, g_a32, g_w32, g_k33, g_l33, g_p45, g_a33, g_w33, g_k34, g_l34, g_p46, g_a34, g_w34, g_f0, g_s0, g_f1, g_s1, g_f2, g_s2, g_f3, g_s3, g_f5, g_s5, g_f6, g_s6, g_f7, g_s7, g_f8, g_s8, g_f9, g_s9, g_f23, g_s23, g_f25, g_s25, g_f28, g_s28, g_f39, g_s39, g_f47, g_s47, gr_ui_eq, gr_ui_2, gr_ul_eq, gr_ul_1, gr_ui_no, gr_ui_ni, gr_ul_no, gr_ul_ni, a6, a2, k4, eq_self]
        exact tail 3 (by rw [if_pos k4])
      · simp only [r24_0, r24_0n, r24_1, r24_4, r24_5, r24_6, r24_8, r24_11, r24_11n, r24_12, r24_17, r24_17n, r24_18, r24_21, r24_24, r24_24n, r24_25, r24_25n, r24_26, r24_29, r24_30, r24_31, r24_32, r24_36, r24_39, r24_40, r24_40n, r24_41, r24_44, r24_45, r24_46, r24_47, r24_47n, r24_48, r24_51, r24_52, r24_53, r24_55, r24_56, r24_59, r24_59n, r24_60, r24_65, r24_68, r24_69, r24_72, r24_72n, r24_73, r24_78, r24_81, r24_81n, r24_82, r24_85, r24_86, r24_87, r24_90, r24_90n, r24_91, r24_94, r24_95, r24_96, r24_97, r24_100, r24_100n, r24_101, r24_106, r24_106n, r24_107, r24_110, r24_113, r24_114, r24_114n, r24_115, r24_119, r24_119n, r24_120, r24_123, r24_124, r24_125, r24_126, r24_128, r24_128n, r24_129, r24_130, r24_131, r24_133, r24_133n, r24_134, r24_140, r24_142, r24_143, r24_147, r24_150, r24_151, r24_153, r24_155, r24_155n, r24_156, r24_159, r24_161, r24_162, r24_165, r24_165n, r24_166, r24_169, r24_170, r24_172, r24_173, r24_175, r24_176, r24_177, r24_179, r24_179n, r24_180, r24_183, r24_183n, r24_184, r24_187, r24_187n, r24_188, r24_193, r24_194, r24_196, r24_197, r24_199, r24_200, r24_203, r24_206, r24_209, r24_209n, r24_210, r24_213, r24_215, r24_216, r24_219, r24_220, r24_223, r24_225, r24_226, r24_229, r24_230, r24_233, r24_236, r24_237, r24_240, r24_243, r24_243n, r24_244, r24_247, r24_249, r24_250, r24_252, r24_255, r24_255n, r24_256, r24_256i, r24_257, r24_260, r24_262, r24_263, r24_266, r24_266n, r24_267, r24_270, r24_271, r24_273, r24_274, r24_274n, r24_275, r24_278, r24_279, r24_279n, r24_280, r24_280n, r24_281, r24_284, r24_285, r24_286, r24_287, r24_290, r24_291, r24_294, r24_300, r24_301, r24_301n, r24_302, r24_305, r24_306, r24_307, r24_308, r24_308n, r24_309, r24_310, r24_310n, r24_311, r24_314, r24_315, r24_316, r24_318, r24_322, i32_10, reduceIte, gm_cmp1, gm_cmp3, gm_cmp4, gm_kd_sf, gm_ln_sf, gm_sf_1, gm_sf_2, gm_nw_1, gm_nw_2, gm_k_int, gm_k_ref, gm_k_null, gm_k_u, gm_k_long, and_true, true_and, true_or, or_true, or_false, false_or, and_self, or_self, if_true, if_false, List.map_nil, List.map_cons, List.sum_nil, List.sum_cons, Nat.zero_le, Option.toList_some, Option.toList_none, List.cons_append, List.nil_append, ne_eq, not_false_eq_true, not_true_eq_false, nI_1, nI_add, Value.category, Nat.reduceAdd, Nat.reduceMod, Nat.reduceLeDiff, Nat.reduceLT, Nat.reduceEqDiff, Nat.reducePow, Nat.le_refl, Nat.add_left_cancel_iff, Nat.add_eq_left, Nat.left_eq_add, Nat.add_zero, g_k0, g_k1, g_l1, g_p4, g_a1, g_w1, g_k2, g_l2, g_p10, g_a2, g_w2, g_k3, g_l3, g_p11, g_a3, g_w3, g_k4, g_l4, g_p12, g_a4, g_w4, g_k5, g_l5, g_p13, g_a5, g_w5, g_k6, g_l6, g_p14, g_a6, g_w6, g_k7, g_l7, g_p15, g_a7, g_w7, g_k8, g_l8, g_p16, g_a8, g_w8, g_k9, g_l9, g_p17, g_a9, g_w9, g_k10, g_l10, g_p18, g_a10, g_w10, g_k11, g_l11, g_p19, g_a11, g_w11, g_k12, g_l12, g_p20, g_a12, g_w12, g_k13, g_l13, g_p21, g_a13, g_w13, g_k14, g_l14, g_p22, g_a14, g_w14, g_k15, g_l15, g_p24, g_a15, g_w15, g_k16, g_l16, g_p26, g_a16, g_w16, g_k17, g_l17, g_p27, g_a17, g_w17, g_k18, g_l18, g_p29, g_a18, g_w18, g_k19, g_l19, g_p30, g_a19, g_w19, g_k20, g_l20, g_p31, g_a20, g_w20, g_k21, g_l21, g_p32, g_a21, g_w21, g_k22, g_l22, g_p33, g_a22, g_w22, g_k23, g_l23, g_p34, g_a23, g_w23, g_k24, g_l24, g_p35, g_a24, g_w24, g_k25, g_l25, g_p36, g_a25, g_w25, g_k26, g_l26, g_p37, g_a26, g_w26, g_k27, g_l27, g_p38, g_a27, g_w27, g_k28, g_l28, g_p40, g_a28, g_w28, g_k29, g_l29, g_p41, g_a29, g_w29, g_k30, g_l30, g_p42, g_a30, g_w30, g_k31, g_l31, g_p43, g_a31, g_w31, g_k32, g_l32, g_p44, g_a32, g_w32, g_k33, g_l33, g_p45, g_a33, g_w33, g_k34, g_l34, g_p46, g_a34, g_w34, g_f0, g_s0, g_f1, g_s1, g_f2, g_s2, g_f3, g_s3, g_f5, g_s5, g_f6, g_s6, g_f7, g_s7, g_f8, g_s8, g_f9, g_s9, g_f23, g_s23, g_f25, g_s25, g_f28, g_s28, g_f39, g_s39, g_f47, g_s47, gr_ui_eq, gr_ui_2, gr_ul_eq, gr_ul_1, gr_ui_no, gr_ui_ni, gr_ul_no, gr_ul_ni, g25, ua, f80]
        rw [← hta]
        simp only [r24_0, r24_0n, r24_1, r24_4, r24_5, r24_6, r24_8, r24_11, r24_11n, r24_12, r24_17, r24_17n, r24_18, r24_21, r24_24, r24_24n, r24_25, r24_25n, r24_26, r24_29, r24_30, r24_31, r24_32, r24_36, r24_39, r24_40, r24_40n, r24_41, r24_44, r24_45, r24_46, r24_47, r24_47n, r24_48, r24_51, r24_52, r24_53, r24_55, r24_56, r24_59, r24_59n, r24_60, r24_65, r24_68, r24_69, r24_72, r24_72n, r24_73, r24_78, r24_81, r24_81n, r24_82, r24_85, r24_86, r24_87, r24_90, r24_90n, r24_91, r24_94, r24_95, r24_96, r24_97, r24_100, r24_100n, r24_101, r24_106, r24_106n, r24_107, r24_110, r24_113, r24_114, r24_114n, r24_115, r24_119, r24_119n, r24_120, r24_123, r24_124, r24_125, r24_126, r24_128, r24_128n, r24_129, r24_130, r24_131, r24_133, r24_133n, r24_134, r24_140, r24_142, r24_143, r24_147, r24_150, r24_151, r24_153, r24_155, r24_155n, r24_156, r24_159, r24_161, r24_162, r24_165, r24_165n, r24_166, r24_169, r24_170, r24_172, r24_173, r24_175, r24_176, r24_177, r24_179, r24_179n, r24_180, r24_183, r24_183n, r24_184, r24_187, r24_187n, r24_188, r24_193, r24_194, r24_196, r24_197, r24_199, r24_200, r24_203, r24_206, r24_209, r24_209n, r24_210, r24_213, r24_215, r24_216, r24_219, r24_220, r24_223, r24_225, r24_226, r24_229, r24_230, r24_233, r24_236, r24_237, r24_240, r24_243, r24_243n, r24_244, r24_247, r24_249, r24_250, r24_252, r24_255, r24_255n, r24_256, r24_256i, r24_257, r24_260, r24_262, r24_263, r24_266, r24_266n, r24_267, r24_270, r24_271, r24_273, r24_274, r24_274n, r24_275, r24_278, r24_279, r24_279n, r24_280, r24_280n, r24_281, r24_284, r24_285, r24_286, r24_287, r24_290, r24_291, r24_294, r24_300, r24_301, r24_301n, r24_302, r24_305, r24_306, r24_307, r24_308, r24_308n, r24_309, r24_310, r24_310n, r24_311, r24_314, r24_315, r24_316, r24_318, r24_322, i32_10, reduceIte, gm_cmp1, gm_cmp3, gm_cmp4, gm_kd_sf, gm_ln_sf, gm_sf_1, gm_sf_2, gm_nw_1, gm_nw_2, gm_k_int, gm_k_ref, gm_k_null, gm_k_u, gm_k_long, and_true, true_and, true_or, or_true, or_false, false_or, and_self, or_self, if_true, if_false, List.map_nil, List.map_cons, List.sum_nil, List.sum_cons, Nat.zero_le, Option.toList_some, Option.toList_none, List.cons_append, List.nil_append, ne_eq, not_false_eq_true, not_true_eq_false, nI_1, nI_add, Value.category, Nat.reduceAdd, Nat.reduceMod, Nat.reduceLeDiff, Nat.reduceLT, Nat.reduceEqDiff, Nat.reducePow, Nat.le_refl, Nat.add_left_cancel_iff, Nat.add_eq_left, Nat.left_eq_add, Nat.add_zero, g_k0, g_k1, g_l1, g_p4, g_a1, g_w1, g_k2, g_l2, g_p10, g_a2, g_w2, g_k3, g_l3, g_p11, g_a3, g_w3, g_k4, g_l4, g_p12, g_a4, g_w4, g_k5, g_l5, g_p13, g_a5, g_w5, g_k6, g_l6, g_p14, g_a6, g_w6, g_k7, g_l7, g_p15, g_a7, g_w7, g_k8, g_l8, g_p16, g_a8, g_w8, g_k9, g_l9, g_p17, g_a9, g_w9, g_k10, g_l10, g_p18, g_a10, g_w10, g_k11, g_l11, g_p19, g_a11, g_w11, g_k12, g_l12, g_p20, g_a12, g_w12, g_k13, g_l13, g_p21, g_a13, g_w13, g_k14, g_l14, g_p22, g_a14, g_w14, g_k15, g_l15, g_p24, g_a15, g_w15, g_k16, g_l16, g_p26, g_a16, g_w16, g_k17, g_l17, g_p27, g_a17, g_w17, g_k18, g_l18, g_p29, g_a18, g_w18, g_k19, g_l19, g_p30, g_a19, g_w19, g_k20, g_l20, g_p31, g_a20, g_w20, g_k21, g_l21, g_p32, g_a21, g_w21, g_k22, g_l22, g_p33, g_a22, g_w22, g_k23, g_l23, g_p34, g_a23, g_w23, g_k24, g_l24, g_p35, g_a24, g_w24, g_k25, g_l25, g_p36, g_a25, g_w25, g_k26, g_l26, g_p37, g_a26, g_w26, g_k27, g_l27, g_p38, g_a27, g_w27, g_k28, g_l28, g_p40, g_a28, g_w28, g_k29, g_l29, g_p41, g_a29, g_w29, g_k30, g_l30, g_p42, g_a30, g_w30, g_k31, g_l31, g_p43, g_a31, g_w31, g_k32, g_l32, g_p44, g_a32, g_w32, g_k33, g_l33, g_p45, g_a33, g_w33, g_k34, g_l34, g_p46, g_a34, g_w34, g_f0, g_s0, g_f1, g_s1, g_f2, g_s2, g_f3, g_s3, g_f5, g_s5, g_f6, g_s6, g_f7, g_s7, g_f8, g_s8, g_f9, g_s9, g_f23, g_s23, g_f25, g_s25, g_f28, g_s28, g_f39, g_s39, g_f47, g_s47, gr_ui_eq, gr_ui_2, gr_ul_eq, gr_ul_1, gr_ui_no, gr_ui_ni, gr_ul_no, gr_ul_ni, a6, a2, k4]
        exact tail 2 (by rw [if_neg k4])
    have w := m_fill (f := f) (o := o) (k := k) (ca := a) (v4 := gm_u) (nn := nI FN) (FN := FN) (v0 := gs_slot0 K (some a)) (Q := Q) (t1 := tm) (E := E) (d := d) (m := m) (h := h) (by omega) Clm hw h6 (by rw [vm 0 25 (by decide) (by decide)]; exact h25) hus s24 (by rw [hFN]; exact gs_slot0_len) last 6 (some a) tm gm_u gm_u (fun x hx => by cases hx; exact ⟨a6, as⟩) (Nat.le_refl _) (List.prefix_refl _) ⟨rfl, fun _ _ _ => rfl, fun i i1 i2 => absurd i2 (by rw [hFN]; omega)⟩
    simp only [r24_0, r24_0n, r24_1, r24_4, r24_5, r24_6, r24_8, r24_11, r24_11n, r24_12, r24_17, r24_17n, r24_18, r24_21, r24_24, r24_24n, r24_25, r24_25n, r24_26, r24_29, r24_30, r24_31, r24_32, r24_36, r24_39, r24_40, r24_40n, r24_41, r24_44, r24_45, r24_46, r24_47, r24_47n, r24_48, r24_51, r24_52, r24_53, r24_55, r24_56, r24_59, r24_59n, r24_60, r24_65, r24_68, r24_69, r24_72, r24_72n, r24_73, r24_78, r24_81, r24_81n, r24_82, r24_85, r24_86, r24_87, r24_90, r24_90n, r24_91, r24_94, r24_95, r24_96, r24_97, r24_100, r24_100n, r24_101, r24_106, r24_106n, r24_107, r24_110, r24_113, r24_114, r24_114n, r24_115, r24_119, r24_119n, r24_120, r24_123, r24_124, r24_125, r24_126, r24_128, r24_128n, r24_129, r24_130, r24_131, r24_133, r24_133n, r24_134, r24_140, r24_142, r24_143, r24_147, r24_150, r24_151, r24_153, r24_155, r24_155n, r24_156, r24_159, r24_161, r24_162, r24_165, r24_165n, r24_166, r24_169, r24_170, r24_172, r24_173, r24_175, r24_176, r24_177, r24_179, r24_179n, r24_180, r24_183, r24_183n, r24_184, r24_187, r24_187n, r24_188, r24_193, r24_194, r24_196, r24_197, r24_199, r24_200, r24_203, r24_206, r24_209, r24_209n, r24_210, r24_213, r24_215, r24_216, r24_219, r24_220, r24_223, r24_225, r24_226, r24_229, r24_230, r24_233, r24_236, r24_237, r24_240, r24_243, r24_243n, r24_244, r24_247, r24_249, r24_250, r24_252, r24_255, r24_255n, r24_256, r24_256i, r24_257, r24_260, r24_262, r24_263, r24_266, r24_266n, r24_267, r24_270, r24_271, r24_273, r24_274, r24_274n, r24_275, r24_278, r24_279, r24_279n, r24_280, r24_280n, r24_281, r24_284, r24_285, r24_286, r24_287, r24_290, r24_291, r24_294, r24_295, r24_300, r24_301, r24_301n, r24_302, r24_305, r24_306, r24_307, r24_308, r24_308n, r24_309, r24_310, r24_310n, r24_311, r24_314, r24_315, r24_316, r24_318, r24_322, i32_10, reduceIte, gm_cmp1, gm_cmp3, gm_cmp4, gm_kd_sf, gm_ln_sf, gm_sf_1, gm_sf_2, gm_nw_1, gm_nw_2, gm_k_int, gm_k_ref, gm_k_null, gm_k_u, gm_k_long, and_true, true_and, true_or, or_true, or_false, false_or, and_self, or_self, if_true, if_false, List.map_nil, List.map_cons, List.sum_nil, List.sum_cons, Nat.zero_le, Option.toList_some, Option.toList_none, List.cons_append, List.nil_append, ne_eq, not_false_eq_true, not_true_eq_false, nI_1, nI_add, Value.category, Nat.reduceAdd, Nat.reduceMod, Nat.reduceLeDiff, Nat.reduceLT, Nat.reduceEqDiff, Nat.reducePow, Nat.le_refl, Nat.add_left_cancel_iff, Nat.add_eq_left, Nat.left_eq_add, Nat.add_zero, g_k0, g_k1, g_l1, g_p4, g_a1, g_w1, g_k2, g_l2, g_p10, g_a2, g_w2, g_k3, g_l3, g_p11, g_a3, g_w3, g_k4, g_l4, g_p12, g_a4, g_w4, g_k5, g_l5, g_p13, g_a5, g_w5, g_k6, g_l6, g_p14, g_a6, g_w6, g_k7, g_l7, g_p15, g_a7, g_w7, g_k8, g_l8, g_p16, g_a8, g_w8, g_k9, g_l9, g_p17, g_a9, g_w9, g_k10, g_l10, g_p18, g_a10, g_w10, g_k11, g_l11, g_p19, g_a11, g_w11, g_k12, g_l12, g_p20, g_a12, g_w12, g_k13, g_l13, g_p21, g_a13, g_w13, g_k14, g_l14, g_p22, g_a14, g_w14, g_k15, g_l15, g_p24, g_a15, g_w15, g_k16, g_l16, g_p26, g_a16, g_w16, g_k17, g_l17, g_p27, g_a17, g_w17, g_k18, g_l18, g_p29, g_a18, g_w18, g_k19, g_l19, g_p30, g_a19, g_w19, g_k20, g_l20, g_p31, g_a20, g_w20, g_k21, g_l21, g_p32, g_a21, g_w21, g_k22, g_l22, g_p33, g_a22, g_w22, g_k23, g_l23, g_p34, g_a23, g_w23, g_k24, g_l24, g_p35, g_a24, g_w24, g_k25, g_l25, g_p36, g_a25, g_w25, g_k26, g_l26, g_p37, g_a26, g_w26, g_k27, g_l27, g_p38, g_a27, g_w27, g_k28, g_l28, g_p40, g_a28, g_w28, g_k29, g_l29, g_p41, g_a29, g_w29, g_k30, g_l30, g_p42, g_a30, g_w30, g_k31, g_l31, g_p43, g_a31, g_w31, g_k32, g_l32, g_p44, g_a32, g_w32, g_k33, g_l33, g_p45, g_a33, g_w33, g_k34, g_l34, g_p46, g_a34, g_w34, g_f0, g_s0, g_f1, g_s1, g_f2, g_s2, g_f3, g_s3, g_f5, g_s5, g_f6, g_s6, g_f7, g_s7, g_f8, g_s8, g_f9, g_s9, g_f23, g_s23, g_f25, g_s25, g_f28, g_s28, g_f39, g_s39, g_f47, g_s47, gr_ui_eq, gr_ui_2, gr_ul_eq, gr_ul_1, gr_ui_no, gr_ui_ni, gr_ul_no, gr_ul_ni]
    exact w
/-- the last step -/
def gr_eI (t : gr_t) (K : gs_K) (C : gs_C) (o e : Nat) (v0 : Int64) (t' : gr_t) : Prop := if gs_kind C = 4 ∧ (gs_fs C).head?.any (fun q => decide (q.2 < 6)) = true ∧ v0 < 0 then t' = gr_ui t 0 8 (-6) else t' = gr_give (gr_ui t 16 e 2) (nI o)
theorem m_eI {C : gs_C} {v0 : Int64} (hd : 1 ≤ d) (hf : f < 80) (hca : ca < 6) (hC : gs_cls K ca = some C) (he : e < 130) (ho : o < 720) (h8 : t.1 0 8 = 0) (h31 : t.1 31 f = nI o) (h32 : t.1 32 f = nI e) (h11 : t.1 11 o = nI ca) (h13 : t.1 13 o = nI at_) (hat : at_ < 4000) (hv0 : (gs_fs C) ≠ [] → t.2 15 at_ = v0) (Cl : gr_C t K) : gm_Ca E d 25 [.ref m, .int (nI f)] (gr_H h m t) (gr_ps h m (gr_eI t K C o e v0)) := by
  obtain ⟨Q, hQ⟩ : ∃ Q, Q = gr_ps h m (gr_eI t K C o e v0) := ⟨_, rfl⟩
  rw [← hQ]
  have ef6 : gr_fl t (-6) = gr_ui t 0 8 (-6) := by unfold gr_fl; rw [if_pos h8]
  have n6 : ¬ (-6 : Int32) = 0 := by decide
  obtain ⟨k1, -, k5, k5l, -, -, k7⟩ := Cl.at hca hC
  have i4 : (4 : Int32) * nI ca = nI (4 * ca) := (Int32.ofNat_mul 4 ca).symm
  have ib : 4 * ca < 24 := by omega
  have good : ¬ (gs_kind C = 4 ∧ (gs_fs C).head?.any (fun q => decide (q.2 < 6)) = true ∧ v0 < 0) → gm_W E d 25 68 [.ref m, .int (nI f), .int (nI o), .int (nI ca)] [] (gr_H h m t) Q := fun z => by
    simp only [r25_0, r25_0n, r25_1, r25_4, r25_5, r25_6, r25_7, r25_7n, r25_8, r25_11, r25_12, r25_13, r25_14, r25_14n, r25_15, r25_18, r25_19, r25_20, r25_21, r25_24, r25_24n, r25_25, r25_28, r25_29, r25_30, r25_33, r25_33n, r25_34, r25_37, r25_38, r25_39, r25_40, r25_41, r25_43, r25_46, r25_46n, r25_47, r25_50, r25_50n, r25_51, r25_54, r25_55, r25_56, r25_57, r25_58, r25_59, r25_62, r25_62n, r25_63, r25_68, r25_68n, r25_69, r25_72, r25_75, r25_76, r25_76n, r25_77, r25_80, r25_80n, r25_81, r25_84, r25_85, r25_86, r25_87, r25_88, r25_88n, r25_89, r25_93, i32_10, reduceIte, gm_cmp1, gm_cmp3, gm_cmp4, gm_kd_sf, gm_ln_sf, gm_sf_1, gm_sf_2, gm_nw_1, gm_nw_2, gm_k_int, gm_k_ref, gm_k_null, gm_k_u, gm_k_long, and_true, true_and, true_or, or_true, or_false, false_or, and_self, or_self, if_true, if_false, List.map_nil, List.map_cons, List.sum_nil, List.sum_cons, Nat.zero_le, Option.toList_some, Option.toList_none, List.cons_append, List.nil_append, ne_eq, not_false_eq_true, not_true_eq_false, nI_1, nI_add, Value.category, Nat.reduceAdd, Nat.reduceMod, Nat.reduceLeDiff, Nat.reduceLT, Nat.reduceEqDiff, Nat.reducePow, Nat.le_refl, Nat.add_left_cancel_iff, Nat.add_eq_left, Nat.left_eq_add, Nat.add_zero, g_k0, g_k1, g_l1, g_p4, g_a1, g_w1, g_k2, g_l2, g_p10, g_a2, g_w2, g_k3, g_l3, g_p11, g_a3, g_w3, g_k4, g_l4, g_p12, g_a4, g_w4, g_k5, g_l5, g_p13, g_a5, g_w5, g_k6, g_l6, g_p14, g_a6, g_w6, g_k7, g_l7, g_p15, g_a7, g_w7, g_k8, g_l8, g_p16, g_a8, g_w8, g_k9, g_l9, g_p17, g_a9, g_w9, g_k10, g_l10, g_p18, g_a10, g_w10, g_k11, g_l11, g_p19, g_a11, g_w11, g_k12, g_l12, g_p20, g_a12, g_w12, g_k13, g_l13, g_p21, g_a13, g_w13, g_k14, g_l14, g_p22, g_a14, g_w14, g_k15, g_l15, g_p24, g_a15, g_w15, g_k16, g_l16, g_p26, g_a16, g_w16, g_k17, g_l17, g_p27, g_a17, g_w17, g_k18, g_l18, g_p29, g_a18, g_w18, g_k19, g_l19, g_p30, g_a19, g_w19, g_k20, g_l20, g_p31, g_a20, g_w20, g_k21, g_l21, g_p32, g_a21, g_w21, g_k22, g_l22, g_p33, g_a22, g_w22, g_k23, g_l23, g_p34, g_a23, g_w23, g_k24, g_l24, g_p35, g_a24, g_w24, g_k25, g_l25, g_p36, g_a25, g_w25, g_k26, g_l26, g_p37, g_a26, g_w26, g_k27, g_l27, g_p38, g_a27, g_w27, g_k28, g_l28, g_p40, g_a28, g_w28, g_k29, g_l29, g_p41, g_a29, g_w29, g_k30, g_l30, g_p42, g_a30, g_w30, g_k31, g_l31, g_p43, g_a31, g_w31, g_k32, g_l32, g_p44, g_a32, g_w32, g_k33, g_l33, g_p45, g_a33, g_w33, g_k34, g_l34, g_p46, g_a34, g_w34, g_f0, g_s0, g_f1, g_s1, g_f2, g_s2, g_f3, g_s3, g_f5, g_s5, g_f6, g_s6, g_f7, g_s7, g_f8, g_s8, g_f9, g_s9, g_f23, g_s23, g_f25, g_s25, g_f28, g_s28, g_f39, g_s39, g_f47, g_s47, gr_ui_eq, gr_ui_2, gr_ul_eq, gr_ul_1, gr_ui_no, gr_ui_ni, gr_ul_no, gr_ul_ni, h8, hf, h32, he]
    refine c25_90 (by simp) g_k0 (by omega) m_give (gx_kn ?_) gx_kx
    simp only [r25_0, r25_0n, r25_1, r25_4, r25_5, r25_6, r25_7, r25_7n, r25_8, r25_11, r25_12, r25_13, r25_14, r25_14n, r25_15, r25_18, r25_19, r25_20, r25_21, r25_24, r25_24n, r25_25, r25_28, r25_29, r25_30, r25_33, r25_33n, r25_34, r25_37, r25_38, r25_39, r25_40, r25_41, r25_43, r25_46, r25_46n, r25_47, r25_50, r25_50n, r25_51, r25_54, r25_55, r25_56, r25_57, r25_58, r25_59, r25_62, r25_62n, r25_63, r25_68, r25_68n, r25_69, r25_72, r25_75, r25_76, r25_76n, r25_77, r25_80, r25_80n, r25_81, r25_84, r25_85, r25_86, r25_87, r25_88, r25_88n, r25_89, r25_93, i32_10, reduceIte, gm_cmp1, gm_cmp3, gm_cmp4, gm_kd_sf, gm_ln_sf, gm_sf_1, gm_sf_2, gm_nw_1, gm_nw_2, gm_k_int, gm_k_ref, gm_k_null, gm_k_u, gm_k_long, and_true, true_and, true_or, or_true, or_false, false_or, and_self, or_self, if_true, if_false, List.map_nil, List.map_cons, List.sum_nil, List.sum_cons, Nat.zero_le, Option.toList_some, Option.toList_none, List.cons_append, List.nil_append, ne_eq, not_false_eq_true, not_true_eq_false, nI_1, nI_add, Value.category, Nat.reduceAdd, Nat.reduceMod, Nat.reduceLeDiff, Nat.reduceLT, Nat.reduceEqDiff, Nat.reducePow, Nat.le_refl, Nat.add_left_cancel_iff, Nat.add_eq_left, Nat.left_eq_add, Nat.add_zero]
    rw [hQ]
    refine gr_ps.ok ?_
    unfold gr_eI
    rw [if_neg z]
  show gm_W E d 25 0 [.ref m, .int (nI f), gm_u, gm_u] [] (gr_H h m t) Q
  by_cases c4 : gs_kind C = 4
  rotate_left
  · simp only [r25_0, r25_0n, r25_1, r25_4, r25_5, r25_6, r25_7, r25_7n, r25_8, r25_11, r25_12, r25_13, r25_14, r25_14n, r25_15, r25_18, r25_19, r25_20, r25_21, r25_24, r25_24n, r25_25, r25_28, r25_29, r25_30, r25_33, r25_33n, r25_34, r25_37, r25_38, r25_39, r25_40, r25_41, r25_43, r25_46, r25_46n, r25_47, r25_50, r25_50n, r25_51, r25_54, r25_55, r25_56, r25_57, r25_58, r25_59, r25_62, r25_62n, r25_63, r25_69, r25_72, r25_75, r25_76, r25_76n, r25_77, r25_80, r25_80n, r25_81, r25_84, r25_85, r25_86, r25_87, r25_88, r25_88n, r25_89, r25_93, i32_10, reduceIte, gm_cmp1, gm_cmp3, gm_cmp4, gm_kd_sf, gm_ln_sf, gm_sf_1, gm_sf_2, gm_nw_1, gm_nw_2, gm_k_int, gm_k_ref, gm_k_null, gm_k_u, gm_k_long, and_true, true_and, true_or, or_true, or_false, false_or, and_self, or_self, if_true, if_false, List.map_nil, List.map_cons, List.sum_nil, List.sum_cons, Nat.zero_le, Option.toList_some, Option.toList_none, List.cons_append, List.nil_append, ne_eq, not_false_eq_true, not_true_eq_false, nI_1, nI_add, Value.category, Nat.reduceAdd, Nat.reduceMod, Nat.reduceLeDiff, Nat.reduceLT, Nat.reduceEqDiff, Nat.reducePow, Nat.le_refl, Nat.add_left_cancel_iff, Nat.add_eq_left, Nat.left_eq_add, Nat.add_zero, g_k0, g_k1, g_l1, g_p4, g_a1, g_w1, g_k2, g_l2, g_p10, g_a2, g_w2, g_k3, g_l3, g_p11, g_a3, g_w3, g_k4, g_l4, g_p12, g_a4, g_w4, g_k5, g_l5, g_p13, g_a5, g_w5, g_k6, g_l6, g_p14, g_a6, g_w6, g_k7, g_l7, g_p15, g_a7, g_w7, g_k8, g_l8, g_p16, g_a8, g_w8, g_k9, g_l9, g_p17, g_a9, g_w9, g_k10, g_l10, g_p18, g_a10, g_w10, g_k11, g_l11, g_p19, g_a11, g_w11, g_k12, g_l12, g_p20, g_a12, g_w12, g_k13, g_l13, g_p21, g_a13, g_w13, g_k14, g_l14, g_p22, g_a14, g_w14, g_k15, g_l15, g_p24, g_a15, g_w15, g_k16, g_l16, g_p26, g_a16, g_w16, g_k17, g_l17, g_p27, g_a17, g_w17, g_k18, g_l18, g_p29, g_a18, g_w18, g_k19, g_l19, g_p30, g_a19, g_w19, g_k20, g_l20, g_p31, g_a20, g_w20, g_k21, g_l21, g_p32, g_a21, g_w21, g_k22, g_l22, g_p33, g_a22, g_w22, g_k23, g_l23, g_p34, g_a23, g_w23, g_k24, g_l24, g_p35, g_a24, g_w24, g_k25, g_l25, g_p36, g_a25, g_w25, g_k26, g_l26, g_p37, g_a26, g_w26, g_k27, g_l27, g_p38, g_a27, g_w27, g_k28, g_l28, g_p40, g_a28, g_w28, g_k29, g_l29, g_p41, g_a29, g_w29, g_k30, g_l30, g_p42, g_a30, g_w30, g_k31, g_l31, g_p43, g_a31, g_w31, g_k32, g_l32, g_p44, g_a32, g_w32, g_k33, g_l33, g_p45, g_a33, g_w33, g_k34, g_l34, g_p46, g_a34, g_w34, g_f0, g_s0, g_f1, g_s1, g_f2, g_s2, g_f3, g_s3, g_f5, g_s5, g_f6, g_s6, g_f7, g_s7, g_f8, g_s8, g_f9, g_s9, g_f23, g_s23, g_f25, g_s25, g_f28, g_s28, g_f39, g_s39, g_f47, g_s47, gr_ui_eq, gr_ui_2, gr_ul_eq, gr_ul_1, gr_ui_no, gr_ui_ni, gr_ul_no, gr_ul_ni, hf, h31, ho, h11, hca, k1, c4]
    exact good (fun z => c4 z.1)
  cases ef : gs_fs C with
  | nil =>
    rw [ef] at k5
    have z0 : nI ([] : List (Int32 × Int32)).length ≤ 0 := by decide
    simp only [r25_0, r25_0n, r25_1, r25_4, r25_5, r25_6, r25_7, r25_7n, r25_8, r25_11, r25_12, r25_13, r25_14, r25_14n, r25_15, r25_18, r25_19, r25_20, r25_21, r25_24, r25_24n, r25_25, r25_28, r25_29, r25_30, r25_33, r25_33n, r25_34, r25_37, r25_38, r25_39, r25_40, r25_41, r25_43, r25_46, r25_46n, r25_47, r25_50, r25_50n, r25_51, r25_54, r25_55, r25_56, r25_57, r25_58, r25_59, r25_62, r25_62n, r25_63, r25_69, r25_72, r25_75, r25_76, r25_76n, r25_77, r25_80, r25_80n, r25_81, r25_84, r25_85, r25_86, r25_87, r25_88, r25_88n, r25_89, r25_93, i32_10, reduceIte, gm_cmp1, gm_cmp3, gm_cmp4, gm_kd_sf, gm_ln_sf, gm_sf_1, gm_sf_2, gm_nw_1, gm_nw_2, gm_k_int, gm_k_ref, gm_k_null, gm_k_u, gm_k_long, and_true, true_and, true_or, or_true, or_false, false_or, and_self, or_self, if_true, if_false, List.map_nil, List.map_cons, List.sum_nil, List.sum_cons, Nat.zero_le, Option.toList_some, Option.toList_none, List.cons_append, List.nil_append, ne_eq, not_false_eq_true, not_true_eq_false, nI_1, nI_add, Value.category, Nat.reduceAdd, Nat.reduceMod, Nat.reduceLeDiff, Nat.reduceLT, Nat.reduceEqDiff, Nat.reducePow, Nat.le_refl, Nat.add_left_cancel_iff, Nat.add_eq_left, Nat.left_eq_add, Nat.add_zero, g_k0, g_k1, g_l1, g_p4, g_a1, g_w1, g_k2, g_l2, g_p10, g_a2, g_w2, g_k3, g_l3, g_p11, g_a3, g_w3, g_k4, g_l4, g_p12, g_a4, g_w4, g_k5, g_l5, g_p13, g_a5, g_w5, g_k6, g_l6, g_p14, g_a6, g_w6, g_k7, g_l7, g_p15, g_a7, g_w7, g_k8, g_l8, g_p16, g_a8, g_w8, g_k9, g_l9, g_p17, g_a9, g_w9, g_k10, g_l10, g_p18, g_a10, g_w10, g_k11, g_l11, g_p19, g_a11, g_w11, g_k12, g_l12, g_p20, g_a12, g_w12, g_k13, g_l13, g_p21, g_a13, g_w13, g_k14, g_l14, g_p22, g_a14, g_w14, g_k15, g_l15, g_p24, g_a15, g_w15, g_k16, g_l16, g_p26, g_a16, g_w16, g_k17, g_l17, g_p27, g_a17, g_w17, g_k18, g_l18, g_p29, g_a18, g_w18, g_k19, g_l19, g_p30, g_a19, g_w19, g_k20, g_l20, g_p31, g_a20, g_w20, g_k21, g_l21, g_p32, g_a21, g_w21, g_k22, g_l22, g_p33, g_a22, g_w22, g_k23, g_l23, g_p34, g_a23, g_w23, g_k24, g_l24, g_p35, g_a24, g_w24, g_k25, g_l25, g_p36, g_a25, g_w25, g_k26, g_l26, g_p37, g_a26, g_w26, g_k27, g_l27, g_p38, g_a27, g_w27, g_k28, g_l28, g_p40, g_a28, g_w28, g_k29, g_l29, g_p41, g_a29, g_w29, g_k30, g_l30, g_p42, g_a30, g_w30, g_k31, g_l31, g_p43, g_a31, g_w31, g_k32, g_l32, g_p44, g_a32, g_w32, g_k33, g_l33, g_p45, g_a33, g_w33, g_k34, g_l34, g_p46, g_a34, g_w34, g_f0, g_s0, g_f1, g_s1, g_f2, g_s2, g_f3, g_s3, g_f5, g_s5, g_f6, g_s6, g_f7, g_s7, g_f8, g_s8, g_f9, g_s9, g_f23, g_s23, g_f25, g_s25, g_f28, g_s28, g_f39, g_s39, g_f47, g_s47, gr_ui_eq, gr_ui_2, gr_ul_eq, gr_ul_1, gr_ui_no, gr_ui_ni, gr_ul_no, gr_ul_ni, hf, h31, ho, h11, hca, k1, c4, eq_self, k5, z0]
    exact good (fun z => by rw [ef] at z; simp at z)
  | cons q r =>
    have hv := hv0 (by rw [ef]; simp)
    have e7 := (k7 0 q (by rw [ef]; rfl)).2
    rw [Nat.add_zero] at e7
    have hd1 : (gs_fs C).head?.any (fun q => decide (q.2 < 6)) = decide (q.2 < 6) := by rw [ef]; rfl
    have z0 : ¬ nI (gs_fs C).length ≤ 0 := by
      rw [Int32.not_le]
      exact nI_lt (a := 0) (by rw [ef]; simp) (by omega)
    by_cases c6 : q.2 < 6
    rotate_left
    · have c6' : 6 ≤ q.2 := Int32.not_lt.mp c6
      simp only [r25_0, r25_0n, r25_1, r25_4, r25_5, r25_6, r25_7, r25_7n, r25_8, r25_11, r25_12, r25_13, r25_14, r25_14n, r25_15, r25_18, r25_19, r25_20, r25_21, r25_24, r25_24n, r25_25, r25_28, r25_29, r25_30, r25_33, r25_33n, r25_34, r25_37, r25_38, r25_39, r25_40, r25_41, r25_43, r25_46, r25_46n, r25_47, r25_50, r25_50n, r25_51, r25_54, r25_55, r25_56, r25_57, r25_58, r25_59, r25_62, r25_62n, r25_63, r25_69, r25_72, r25_75, r25_76, r25_76n, r25_77, r25_80, r25_80n, r25_81, r25_84, r25_85, r25_86, r25_87, r25_88, r25_88n, r25_89, r25_93, i32_10, reduceIte, gm_cmp1, gm_cmp3, gm_cmp4, gm_kd_sf, gm_ln_sf, gm_sf_1, gm_sf_2, gm_nw_1, gm_nw_2, gm_k_int, gm_k_ref, gm_k_null, gm_k_u, gm_k_long, and_true, true_and, true_or, or_true, or_false, false_or, and_self, or_self, if_true, if_false, List.map_nil, List.map_cons, List.sum_nil, List.sum_cons, Nat.zero_le, Option.toList_some, Option.toList_none, List.cons_append, List.nil_append, ne_eq, not_false_eq_true, not_true_eq_false, nI_1, nI_add, Value.category, Nat.reduceAdd, Nat.reduceMod, Nat.reduceLeDiff, Nat.reduceLT, Nat.reduceEqDiff, Nat.reducePow, Nat.le_refl, Nat.add_left_cancel_iff, Nat.add_eq_left, Nat.left_eq_add, Nat.add_zero, g_k0, g_k1, g_l1, g_p4, g_a1, g_w1, g_k2, g_l2, g_p10, g_a2, g_w2, g_k3, g_l3, g_p11, g_a3, g_w3, g_k4, g_l4, g_p12, g_a4, g_w4, g_k5, g_l5, g_p13, g_a5, g_w5, g_k6, g_l6, g_p14, g_a6, g_w6, g_k7, g_l7, g_p15, g_a7, g_w7, g_k8, g_l8, g_p16, g_a8, g_w8, g_k9, g_l9, g_p17, g_a9, g_w9, g_k10, g_l10, g_p18, g_a10, g_w10, g_k11, g_l11, g_p19, g_a11, g_w11, g_k12, g_l12, g_p20, g_a12, g_w12, g_k13, g_l13, g_p21, g_a13, g_w13, g_k14, g_l14, g_p22, g_a14, g_w14, g_k15, g_l15, g_p24, g_a15, g_w15, g_k16, g_l16, g_p26, g_a16, g_w16, g_k17, g_l17, g_p27, g_a17, g_w17, g_k18, g_l18, g_p29, g_a18, g_w18, g_k19, g_l19, g_p30, g_a19, g_w19, g_k20, g_l20, g_p31, g_a20, g_w20, g_k21, g_l21, g_p32, g_a21, g_w21, g_k22, g_l22, g_p33, g_a22, g_w22, g_k23, g_l23, g_p34, g_a23, g_w23, g_k24, g_l24, g_p35, g_a24, g_w24, g_k25, g_l25, g_p36, g_a25, g_w25, g_k26, g_l26, g_p37, g_a26, g_w26, g_k27, g_l27, g_p38, g_a27, g_w27, g_k28, g_l28, g_p40, g_a28, g_w28, g_k29, g_l29, g_p41, g_a29, g_w29, g_k30, g_l30, g_p42, g_a30, g_w30, g_k31, g_l31, g_p43, g_a31, g_w31, g_k32, g_l32, g_p44, g_a32, g_w32, g_k33, g_l33, g_p45, g_a33, g_w33, g_k34, g_l34, g_p46, g_a34, g_w34, g_f0, g_s0, g_f1, g_s1, g_f2, g_s2, g_f3, g_s3, g_f5, g_s5, g_f6, g_s6, g_f7, g_s7, g_f8, g_s8, g_f9, g_s9, g_f23, g_s23, g_f25, g_s25, g_f28, g_s28, g_f39, g_s39, g_f47, g_s47, gr_ui_eq, gr_ui_2, gr_ul_eq, gr_ul_1, gr_ui_no, gr_ui_ni, gr_ul_no, gr_ul_ni, hf, h31, ho, h11, hca, k1, c4, eq_self, k5, z0, i4, ib, e7, c6']
      exact good (fun z => by have := z.2.1; rw [hd1] at this; simp at this; exact c6 this)
    have c6' : ¬ 6 ≤ q.2 := Int32.not_le.mpr c6
    by_cases cv : v0 < 0
    · have lc : ¬ 0 ≤ lg_cmp v0 0 := by
        have := gx_cmp_lt (v := v0)
        rw [Int32.not_le]
        rw [this]
        exact cv
      simp only [r25_0, r25_0n, r25_1, r25_4, r25_5, r25_6, r25_7, r25_7n, r25_8, r25_11, r25_12, r25_13, r25_14, r25_14n, r25_15, r25_18, r25_19, r25_20, r25_21, r25_24, r25_24n, r25_25, r25_28, r25_29, r25_30, r25_33, r25_33n, r25_34, r25_37, r25_38, r25_39, r25_40, r25_41, r25_43, r25_46, r25_46n, r25_47, r25_50, r25_50n, r25_51, r25_54, r25_55, r25_56, r25_57, r25_58, r25_59, r25_62, r25_62n, r25_63, r25_69, r25_72, r25_75, r25_76, r25_76n, r25_77, r25_80, r25_80n, r25_81, r25_84, r25_85, r25_86, r25_87, r25_88, r25_88n, r25_89, r25_93, i32_10, reduceIte, gm_cmp1, gm_cmp3, gm_cmp4, gm_kd_sf, gm_ln_sf, gm_sf_1, gm_sf_2, gm_nw_1, gm_nw_2, gm_k_int, gm_k_ref, gm_k_null, gm_k_u, gm_k_long, and_true, true_and, true_or, or_true, or_false, false_or, and_self, or_self, if_true, if_false, List.map_nil, List.map_cons, List.sum_nil, List.sum_cons, Nat.zero_le, Option.toList_some, Option.toList_none, List.cons_append, List.nil_append, ne_eq, not_false_eq_true, not_true_eq_false, nI_1, nI_add, Value.category, Nat.reduceAdd, Nat.reduceMod, Nat.reduceLeDiff, Nat.reduceLT, Nat.reduceEqDiff, Nat.reducePow, Nat.le_refl, Nat.add_left_cancel_iff, Nat.add_eq_left, Nat.left_eq_add, Nat.add_zero, g_k0, g_k1, g_l1, g_p4, g_a1, g_w1, g_k2, g_l2, g_p10, g_a2, g_w2, g_k3, g_l3, g_p11, g_a3, g_w3, g_k4, g_l4, g_p12, g_a4, g_w4, g_k5, g_l5, g_p13, g_a5, g_w5, g_k6, g_l6, g_p14, g_a6, g_w6, g_k7, g_l7, g_p15, g_a7, g_w7, g_k8, g_l8, g_p16, g_a8, g_w8, g_k9, g_l9, g_p17, g_a9, g_w9, g_k10, g_l10, g_p18, g_a10, g_w10, g_k11, g_l11, g_p19, g_a11, g_w11, g_k12, g_l12, g_p20, g_a12, g_w12, g_k13, g_l13, g_p21, g_a13, g_w13, g_k14, g_l14, g_p22, g_a14, g_w14, g_k15, g_l15, g_p24, g_a15, g_w15, g_k16, g_l16, g_p26, g_a16, g_w16, g_k17, g_l17, g_p27, g_a17, g_w17, g_k18, g_l18, g_p29, g_a18, g_w18, g_k19, g_l19, g_p30, g_a19, g_w19, g_k20, g_l20, g_p31, g_a20, g_w20, g_k21, g_l21, g_p32, g_a21, g_w21, g_k22, g_l22, g_p33, g_a22, g_w22, g_k23, g_l23, g_p34, g_a23, g_w23, g_k24, g_l24, g_p35, g_a24, g_w24, g_k25, g_l25, g_p36, g_a25, g_w25, g_k26, g_l26, g_p37, g_a26, g_w26, g_k27, g_l27, g_p38, g_a27, g_w27, g_k28, g_l28, g_p40, g_a28, g_w28, g_k29, g_l29, g_p41, g_a29, g_w29, g_k30, g_l30, g_p42, g_a30, g_w30, g_k31, g_l31, g_p43, g_a31, g_w31, g_k32, g_l32, g_p44, g_a32, g_w32, g_k33, g_l33, g_p45, g_a33, g_w33, g_k34, g_l34, g_p46, g_a34, g_w34, g_f0, g_s0, g_f1, g_s1, g_f2, g_s2, g_f3, g_s3, g_f5, g_s5, g_f6, g_s6, g_f7, g_s7, g_f8, g_s8, g_f9, g_s9, g_f23, g_s23, g_f25, g_s25, g_f28, g_s28, g_f39, g_s39, g_f47, g_s47, gr_ui_eq, gr_ui_2, gr_ul_eq, gr_ul_1, gr_ui_no, gr_ui_ni, gr_ul_no, gr_ul_ni, hf, h31, ho, h11, hca, k1, c4, eq_self, k5, z0, i4, ib, e7, c6', h13, hat, hv, lc]
      refine c25_65 (by simp) g_k0 (by omega) m_fail (gx_kn ?_) gx_kx
      rw [ef6]
      simp only [r25_0, r25_0n, r25_1, r25_4, r25_5, r25_6, r25_7, r25_7n, r25_8, r25_11, r25_12, r25_13, r25_14, r25_14n, r25_15, r25_18, r25_19, r25_20, r25_21, r25_24, r25_24n, r25_25, r25_28, r25_29, r25_30, r25_33, r25_33n, r25_34, r25_37, r25_38, r25_39, r25_40, r25_41, r25_43, r25_46, r25_46n, r25_47, r25_50, r25_50n, r25_51, r25_54, r25_55, r25_56, r25_57, r25_58, r25_59, r25_62, r25_62n, r25_63, r25_68, r25_68n, r25_69, r25_72, r25_75, r25_76, r25_76n, r25_77, r25_80, r25_80n, r25_81, r25_84, r25_85, r25_86, r25_87, r25_88, r25_88n, r25_89, r25_93, i32_10, reduceIte, gm_cmp1, gm_cmp3, gm_cmp4, gm_kd_sf, gm_ln_sf, gm_sf_1, gm_sf_2, gm_nw_1, gm_nw_2, gm_k_int, gm_k_ref, gm_k_null, gm_k_u, gm_k_long, and_true, true_and, true_or, or_true, or_false, false_or, and_self, or_self, if_true, if_false, List.map_nil, List.map_cons, List.sum_nil, List.sum_cons, Nat.zero_le, Option.toList_some, Option.toList_none, List.cons_append, List.nil_append, ne_eq, not_false_eq_true, not_true_eq_false, nI_1, nI_add, Value.category, Nat.reduceAdd, Nat.reduceMod, Nat.reduceLeDiff, Nat.reduceLT, Nat.reduceEqDiff, Nat.reducePow, Nat.le_refl, Nat.add_left_cancel_iff, Nat.add_eq_left, Nat.left_eq_add, Nat.add_zero, g_k0, g_k1, g_l1, g_p4, g_a1, g_w1, g_k2, g_l2, g_p10, g_a2, g_w2, g_k3, g_l3, g_p11, g_a3, g_w3, g_k4, g_l4, g_p12, g_a4, g_w4, g_k5, g_l5, g_p13, g_a5, g_w5, g_k6, g_l6, g_p14, g_a6, g_w6, g_k7, g_l7, g_p15, g_a7, g_w7, g_k8, g_l8, g_p16, g_a8, g_w8, g_k9, g_l9, g_p17, g_a9, g_w9, g_k10, g_l10, g_p18, g_a10, g_w10, g_k11, g_l11, g_p19, g_a11, g_w11, g_k12, g_l12, g_p20, g_a12, g_w12, g_k13, g_l13, g_p21, g_a13, g_w13, g_k14, g_l14, g_p22, g_a14, g_w14, g_k15, g_l15, g_p24, g_a15, g_w15, g_k16, g_l16, g_p26, g_a16, g_w16, g_k17, g_l17, g_p27, g_a17, g_w17, g_k18, g_l18, g_p29, g_a18, g_w18, g_k19, g_l19, g_p30, g_a19, g_w19, g_k20, g_l20, g_p31, g_a20, g_w20, g_k21, g_l21, g_p32, g_a21, g_w21, g_k22, g_l22, g_p33, g_a22, g_w22, g_k23, g_l23, g_p34, g_a23, g_w23, g_k24, g_l24, g_p35, g_a24, g_w24, g_k25, g_l25, g_p36, g_a25, g_w25, g_k26, g_l26, g_p37, g_a26, g_w26, g_k27, g_l27, g_p38, g_a27, g_w27, g_k28, g_l28, g_p40, g_a28, g_w28, g_k29, g_l29, g_p41, g_a29, g_w29, g_k30, g_l30, g_p42, g_a30, g_w30, g_k31, g_l31, g_p43, g_a31, g_w31, g_k32, g_l32, g_p44, g_a32, g_w32, g_k33, g_l33, g_p45, g_a33, g_w33, g_k34, g_l34, g_p46, g_a34, g_w34, g_f0, g_s0, g_f1, g_s1, g_f2, g_s2, g_f3, g_s3, g_f5, g_s5, g_f6, g_s6, g_f7, g_s7, g_f8, g_s8, g_f9, g_s9, g_f23, g_s23, g_f25, g_s25, g_f28, g_s28, g_f39, g_s39, g_f47, g_s47, gr_ui_eq, gr_ui_2, gr_ul_eq, gr_ul_1, gr_ui_no, gr_ui_ni, gr_ul_no, gr_ul_ni, n6]
      rw [hQ]
      refine gr_ps.ok ?_
      unfold gr_eI
      rw [if_pos ⟨c4, by rw [hd1]; simp [c6], cv⟩]
    · have lc : 0 ≤ lg_cmp v0 0 := by
        have := gx_cmp_lt (v := v0)
        rw [← Int32.not_lt]
        rw [this]
        exact cv
      simp only [r25_0, r25_0n, r25_1, r25_4, r25_5, r25_6, r25_7, r25_7n, r25_8, r25_11, r25_12, r25_13, r25_14, r25_14n, r25_15, r25_18, r25_19, r25_20, r25_21, r25_24, r25_24n, r25_25, r25_28, r25_29, r25_30, r25_33, r25_33n, r25_34, r25_37, r25_38, r25_39, r25_40, r25_41, r25_43, r25_46, r25_46n, r25_47, r25_50, r25_50n, r25_51, r25_54, r25_55, r25_56, r25_57, r25_58, r25_59, r25_62, r25_62n, r25_63, r25_69, r25_72, r25_75, r25_76, r25_76n, r25_77, r25_80, r25_80n, r25_81, r25_84, r25_85, r25_86, r25_87, r25_88, r25_88n, r25_89, r25_93, i32_10, reduceIte, gm_cmp1, gm_cmp3, gm_cmp4, gm_kd_sf, gm_ln_sf, gm_sf_1, gm_sf_2, gm_nw_1, gm_nw_2, gm_k_int, gm_k_ref, gm_k_null, gm_k_u, gm_k_long, and_true, true_and, true_or, or_true, or_false, false_or, and_self, or_self, if_true, if_false, List.map_nil, List.map_cons, List.sum_nil, List.sum_cons, Nat.zero_le, Option.toList_some, Option.toList_none, List.cons_append, List.nil_append, ne_eq, not_false_eq_true, not_true_eq_false, nI_1, nI_add, Value.category, Nat.reduceAdd, Nat.reduceMod, Nat.reduceLeDiff, Nat.reduceLT, Nat.reduceEqDiff, Nat.reducePow, Nat.le_refl, Nat.add_left_cancel_iff, Nat.add_eq_left, Nat.left_eq_add, Nat.add_zero, g_k0, g_k1, g_l1, g_p4, g_a1, g_w1, g_k2, g_l2, g_p10, g_a2, g_w2, g_k3, g_l3, g_p11, g_a3, g_w3, g_k4, g_l4, g_p12, g_a4, g_w4, g_k5, g_l5, g_p13, g_a5, g_w5, g_k6, g_l6, g_p14, g_a6, g_w6, g_k7, g_l7, g_p15, g_a7, g_w7, g_k8, g_l8, g_p16, g_a8, g_w8, g_k9, g_l9, g_p17, g_a9, g_w9, g_k10, g_l10, g_p18, g_a10, g_w10, g_k11, g_l11, g_p19, g_a11, g_w11, g_k12, g_l12, g_p20, g_a12, g_w12, g_k13, g_l13, g_p21, g_a13, g_w13, g_k14, g_l14, g_p22, g_a14, g_w14, g_k15, g_l15, g_p24, g_a15, g_w15, g_k16, g_l16, g_p26, g_a16, g_w16, g_k17, g_l17, g_p27, g_a17, g_w17, g_k18, g_l18, g_p29, g_a18, g_w18, g_k19, g_l19, g_p30, g_a19, g_w19, g_k20, g_l20, g_p31, g_a20, g_w20, g_k21, g_l21, g_p32, g_a21, g_w21, g_k22, g_l22, g_p33, g_a22, g_w22, g_k23, g_l23, g_p34, g_a23, g_w23, g_k24, g_l24, g_p35, g_a24, g_w24, g_k25, g_l25, g_p36, g_a25, g_w25, g_k26, g_l26, g_p37, g_a26, g_w26, g_k27, g_l27, g_p38, g_a27, g_w27, g_k28, g_l28, g_p40, g_a28, g_w28, g_k29, g_l29, g_p41, g_a29, g_w29, g_k30, g_l30, g_p42, g_a30, g_w30, g_k31, g_l31, g_p43, g_a31, g_w31, g_k32, g_l32, g_p44, g_a32, g_w32, g_k33, g_l33, g_p45, g_a33, g_w33, g_k34, g_l34, g_p46, g_a34, g_w34, g_f0, g_s0, g_f1, g_s1, g_f2, g_s2, g_f3, g_s3, g_f5, g_s5, g_f6, g_s6, g_f7, g_s7, g_f8, g_s8, g_f9, g_s9, g_f23, g_s23, g_f25, g_s25, g_f28, g_s28, g_f39, g_s39, g_f47, g_s47, gr_ui_eq, gr_ui_2, gr_ul_eq, gr_ul_1, gr_ui_no, gr_ui_ni, gr_ul_no, gr_ul_ni, hf, h31, ho, h11, hca, k1, c4, eq_self, k5, z0, i4, ib, e7, c6', h13, hat, hv, lc]
      exact good (fun z => cv z.2.2)
end NT
/-! THE REFERENCE, 57: an instance, whole. -/
section NU
variable {X N : Nat → Prop} {E : Nat → Value} {d m f n p dp c us nd k e o r j cnt hb ub nb B pp at_ ca us0 nd0 : Nat} {h : gm_H} {t t' t0 t1 : gr_t} {K : gs_K} {s s' s'' s0 : gs_S} {rc : gs_M Int32} {P : gr_t → Prop} {l : gs_L} {L : List gs_L} {Q : gm_R → gm_H → Prop} {leaf st : Int32} {cc : Option Nat}
def gs_instK (K : gs_K) (rc : gs_M Int32) (d : Nat) (l : gs_L) (up : List gs_L) : gs_M Int32 := gs_b (gs_lim K l d 0) fun _ =>
  if gs_fl l &&& 16 ≠ 0 then gs_x (-5) else match gs_own l with
  | none => gs_x (-9)
  | some c => match gs_cls K c with
    | none => gs_x (-9)
    | some C => if gs_kind C = 0 ∨ gs_kind C = 3 then gs_x (-5) else
      gs_b (gs_addT (0, some c, gs_slot0 K (some c), 0, 0)) fun o => gs_b (gs_addE (if gs_kind C = 4 then -2 else nI o)) fun e =>
      gs_b (gs_dats K rc (some c) o (l :: up).reverse) fun _ => gs_b gs_g fun s =>
      if gs_kind C = 4 ∧ (gs_fs C).head?.any (fun q => decide (q.2 < 6)) = true ∧ (((gs_hp s).getD o (0, none, [], 0, 0)).2.2.1.getD 0 0) < 0 then gs_x (-6) else gs_b (gs_setE e (nI o)) fun _ => gs_r (nI o)
theorem gr_inst (RC : gr_RC E d h m K (dp + 1) rc) (hK : gs_kor K) (hd : 12 ≤ d) (hdp : 1 ≤ dp ∧ dp ≤ 8) (Y : gr_Y X (c + 6) us nd t K s) (h8 : t.1 0 8 = 0) (h47 : t.1 0 47 = nI (f + 1)) (hf : t.1 28 f = 1 ∧ t.1 29 f = 1 ∧ t.1 30 f = nI dp) (h14 : 14 * f + 42 ≤ 42 * dp + gs_pl s) (hsz : 14 * gs_size s ≤ 14 * (69 - dp) + gs_pl s) (ch : gr_chn (gr_NX X nd) t K (l :: L) (t.1 0 9)) (hL : (l :: L).length ≤ 900) : gr_Rn E d h m (gr_O K X c us nd f f t s (gr_W dp) (gs_instK K rc dp l L s)) t := by
  obtain ⟨f28, f29, f30⟩ := hf
  obtain ⟨k, k9, kN, ⟨D, tys⟩, ch2⟩ := id ch
  have n7 := Y.n7
  have pn := Y.pn
  have nb := Y.nb
  have hb := Y.hb
  have eb := Y.eb
  have ub := Y.ub
  have f79 : f < 78 := by omega
  have k130 : k < 130 := by have := kN.1; omega
  have h6 : ∀ c, 6 ≤ c → gs_cls K c = none := fun x hx => by
    cases ex : gs_cls K x with
    | none => rfl
    | some D => exact absurd (Y.wf x D ex).1 (by omega)
  obtain ⟨e, he⟩ : ∃ e, e = gs_size s := ⟨_, rfl⟩
  obtain ⟨o, ho⟩ : ∃ o, o = (gs_hp s).length := ⟨_, rfl⟩
  refine .step h47 (by omega) h8 (gr_sr1 (by omega) h47 (by omega) f28 f29 (m_nI (s := s) (l := l) (e := e) (o := o) (us := us) (k := k) (by omega) (by omega) k130 (by omega) (by omega) h8 k9 h47 (by rw [he]; exact Y.hh.1) he (by rw [ho]; exact Y.pp.1) Y.u (by omega) f30 Y.pl Y.lm Y.C Y.wf h6 D)) (fun t1 x1 => ?_)
  unfold gr_nI at x1
  unfold gs_instK
  rcases gs_lim_c (K := K) (s := s) (l := l) (dd := dp) (n := 0) with el | el
  · rw [el] at x1
    subst x1
    exact .done (gr_O.er (gs_b_er el) (gr_F.ui (by decide) gr_kp.refl))
  rw [el] at x1
  dsimp only at x1
  rw [gs_b_ok el]
  by_cases c1 : gs_fl l &&& 16 ≠ 0
  · rw [if_pos c1] at x1 ⊢
    subst x1
    exact .done (gr_O.er rfl (gr_F.ui (by decide) gr_kp.refl))
  rw [if_neg c1] at x1 ⊢
  cases eo : gs_own l with
  | none =>
    rw [eo] at x1
    subst x1
    exact .done (gr_O.er rfl (gr_F.ui (by decide) gr_kp.refl))
  | some ca =>
    rw [eo] at x1
    dsimp only at x1 ⊢
    obtain ⟨ca6, cas⟩ := D.2.2.2.2.2.2.1 ca eo
    obtain ⟨C, hC⟩ := Option.isSome_iff_exists.mp cas
    rw [hC] at x1
    rw [hC]
    dsimp only at x1 ⊢
    by_cases c2 : gs_kind C = 0 ∨ gs_kind C = 3
    · rw [if_pos c2] at x1 ⊢
      subst x1
      exact .done (gr_O.er rfl (gr_F.ui (by decide) gr_kp.refl))
    rw [if_neg c2] at x1 ⊢
    obtain ⟨tF, vF, x1⟩ := x1
    have s24 : gs_slots K (some ca) ≤ 24 := gr_C.slots Y.C Y.wf h6 (fun c hc => by cases hc; exact ca6)
    have lenv : (gs_slot0 K (some ca)).length = gs_slots K (some ca) := gs_slot0_len
    obtain ⟨n, hn⟩ : ∃ n, n = gs_slots K (some ca) := ⟨_, rfl⟩
    rw [← hn] at s24 lenv x1 vF
    obtain ⟨ob, hob⟩ : ∃ ob : gs_O, ob = (0, some ca, gs_slot0 K (some ca), 0, 0) := ⟨_, rfl⟩
    obtain ⟨hv, hhv⟩ : ∃ hv : Int32, hv = if gs_kind C = 4 then -2 else nI o := ⟨_, rfl⟩
    obtain ⟨kd, hkd⟩ : ∃ kd : Int32, kd = if gs_kind C = 4 then 3 else 2 := ⟨_, rfl⟩
    rw [← hkd] at x1
    have adT : gs_addT (0, some ca, gs_slot0 K (some ca), 0, 0) s = .ok (o, (gs_pl s, gs_hp s ++ [ob], gs_hs s, gs_f1 s)) := by
      unfold gs_addT
      rw [if_neg (by omega), ho, hob]
      rfl
    have adE : gs_addE (if gs_kind C = 4 then -2 else nI o) (gs_pl s, gs_hp s ++ [ob], gs_hs s, gs_f1 s) = .ok ((gs_hs s).length, (gs_pl s, gs_hp s ++ [ob], gs_hs s ++ [(hv, [])], gs_f1 s)) := by
      unfold gs_addE
      show (if 234 ≤ (gs_hs s).length then _ else _) = _
      rw [if_neg (by omega), hhv]
      rfl
    rw [gs_b_ok adT, gs_b_ok adE]
    obtain ⟨s1, hs1⟩ : ∃ s1 : gs_S, s1 = (gs_pl s, gs_hp s ++ [ob], gs_hs s ++ [(hv, [])], gs_f1 s) := ⟨_, rfl⟩
    rw [← hs1]
    -- the cells
    obtain ⟨tb, htb⟩ : ∃ tb, tb = gr_ui (gr_ui (gr_ent (gr_ui (gr_ui tF 0 25 (nI (us + n))) 31 f (nI o)) e kd (nI o)) 32 f (nI e)) 29 f 2 := ⟨_, rfl⟩
    have x1 : t1 = gr_push tb (f + 1) 3 (nI dp) (nI o) (nI k) := by rw [x1, htb]; rfl
    obtain ⟨tm, htm⟩ : ∃ tm, tm = gr_make t o 0 (nI ca) (nI n) (nI us) := ⟨_, rfl⟩
    rw [← htm] at vF
    have vm : ∀ q i, (q = 0 → i ≠ 23) → ((10 ≤ q ∧ q ≤ 14) → i ≠ o) → tm.1 q i = t.1 q i := fun q i z0 z1 => by
      have u : ∀ (t : gr_t) (o2 i2 : Nat) (x : Int32), (q = o2 → i ≠ i2) → (gr_ui t o2 i2 x).1 q i = t.1 q i := fun t o2 i2 x z => by
        show (if q = o2 ∧ i = i2 then x else t.1 q i) = t.1 q i
        rw [if_neg (fun y => z y.1 y.2)]
      rw [htm]
      unfold gr_make
      rw [u _ _ _ _ z0, u _ _ _ _ (fun y => z1 (by omega)), u _ _ _ _ (fun y => z1 (by omega)), u _ _ _ _ (fun y => z1 (by omega)), u _ _ _ _ (fun y => z1 (by omega)), u _ _ _ _ (fun y => z1 (by omega))]
    have km : tm.1 0 23 = nI (o + 1) ∧ tm.1 10 o = 0 ∧ tm.1 11 o = nI ca ∧ tm.1 12 o = nI n ∧ tm.1 13 o = nI us ∧ tm.1 14 o = 0 := by
      rw [htm]
      unfold gr_make
      simp [gr_ui]
    have vb1 : ∀ q i, (q = 0 → i ≠ 25 ∧ i ≠ 28) → ((q = 16 ∨ q = 17) → i ≠ e) → ((q = 31 ∨ q = 32 ∨ q = 29) → i ≠ f) → tb.1 q i = tm.1 q i := fun q i z0 z1 z2 => by
      have u : ∀ (t : gr_t) (o2 i2 : Nat) (x : Int32), (q = o2 → i ≠ i2) → (gr_ui t o2 i2 x).1 q i = t.1 q i := fun t o2 i2 x z => by
        show (if q = o2 ∧ i = i2 then x else t.1 q i) = t.1 q i
        rw [if_neg (fun y => z y.1 y.2)]
      rw [htb]
      unfold gr_ent
      rw [u _ _ _ _ (fun y => z2 (by omega)), u _ _ _ _ (fun y => z2 (by omega)), u _ _ _ _ (fun y => (z0 y).2), u _ _ _ _ (fun y => z1 (Or.inr y)), u _ _ _ _ (fun y => z1 (Or.inl y)), u _ _ _ _ (fun y => z2 (by omega)), u _ _ _ _ (fun y => (z0 y).1), vF.1]
    have kb : tb.1 0 25 = nI (us + n) ∧ tb.1 0 28 = nI (e + 1) ∧ tb.1 16 e = kd ∧ tb.1 17 e = nI o ∧ tb.1 31 f = nI o ∧ tb.1 32 f = nI e ∧ tb.1 29 f = 2 := by
      rw [htb]
      unfold gr_ent
      simp [gr_ui]
    obtain ⟨b25, b28, b16, b17, b31, b32, b29⟩ := kb
    obtain ⟨m23, m10, m11, m12, m13, m14⟩ := km
    have vb : ∀ q i, (q = 0 → i ≠ 25 ∧ i ≠ 28 ∧ i ≠ 23) → ((q = 16 ∨ q = 17) → i ≠ e) → ((10 ≤ q ∧ q ≤ 14) → i ≠ o) → ((q = 31 ∨ q = 32 ∨ q = 29) → i ≠ f) → tb.1 q i = t.1 q i := fun q i z0 z1 z2 z3 => by
      rw [vb1 q i (fun y => ⟨(z0 y).1, (z0 y).2.1⟩) z1 z3, vm q i (fun y => (z0 y).2.2) z2]
    have vb2 : ∀ q i, (q ≠ 15 ∨ i < us ∨ us + n ≤ i) → tb.2 q i = t.2 q i := fun q i z => by
      rw [htb]
      show tF.2 q i = _
      rw [vF.2.1 q i z, htm]
      rfl
    have kpb : gr_kp (gs_hp s).length us nd t tb := ⟨fun q i hq => vb q i (by unfold gr_pr at hq; omega) (by unfold gr_pr at hq; omega) (by unfold gr_pr at hq; omega) (by unfold gr_pr at hq; omega), fun q i hq => vb2 q i (by unfold gr_prl at hq; omega)⟩
    have Yb : gr_Y X c (us + n) nd tb K s1 := by
      rw [hs1]
      refine Y.grow (X' := X) (ho := [ob]) (he := [(hv, [])]) kpb (by rw [vb 0 6 (by decide) (by omega) (by omega) (by omega)]; exact Y.pl) (Nat.le_refl _) pn (by rw [vb1 0 23 (by decide) (by omega) (by omega), m23, ho]; rfl) b25 (by rw [b28, he]; rfl) (by rw [vb 0 39 (by decide) (by omega) (by omega) (by omega)]; exact Y.n) (by omega) (Nat.le_refl _) (by show gs_size s + 1 ≤ 130; omega) (fun i hi => ⟨vb 16 i (by omega) (by omega) (by omega) (by omega), vb 17 i (by omega) (by omega) (by omega) (by omega)⟩) ?_ ?_ Y.xb (fun _ _ z => z) (by simp) ?_ ?_ ?_ (by omega) nb (by show 3 * ((gs_hp s).length + 1) + c ≤ gs_pl s; omega) (by show 3 * ((gs_hs s).length + 1) + c ≤ gs_pl s; omega)
      · intro j w hw
        have : j = 0 ∧ w = ob := by
          cases j with
          | zero => exact ⟨rfl, by simpa using hw.symm⟩
          | succ j => simp at hw
        obtain ⟨rfl, rfl⟩ := this
        rw [Nat.add_zero, ← ho, hob]
        refine ⟨by rw [vb1 10 o (by omega) (by omega) (by omega)]; exact m10, ⟨show (0 : Int32) ≤ 0 by decide, show (0 : Int32) ≤ 4 by decide⟩, by rw [vb1 11 o (by omega) (by omega) (by omega)]; exact m11, (fun c9 z => (by cases z; exact ca6)), by rw [vb1 14 o (by omega) (by omega) (by omega)]; exact m14, ?_, by show (gs_slot0 K (some ca)).length ≤ 4000; omega, (fun z => absurd (show (0 : Int32) = 4 from z) (by decide)), ?_⟩
        · rw [if_neg (show ¬ (0 : Int32) = 4 by decide), vb1 12 o (by omega) (by omega) (by omega), m12]; show _ = nI (gs_slot0 K (some ca)).length; rw [lenv]
        · unfold gr_ov
          rw [if_neg (show ¬ (0 : Int32) = 1 by decide), if_neg (show ¬ (0 : Int32) = 2 by decide)]
          refine ⟨us, by rw [vb1 13 o (by omega) (by omega) (by omega)]; exact m13, by show us + (gs_slot0 K (some ca)).length ≤ us + n; omega, fun j x hx => ?_⟩
          have hx : (gs_slot0 K (some ca))[j]? = some x := hx
          have lj := (List.getElem?_eq_some_iff.mp hx).1
          rw [htb]
          show tF.2 15 (us + j) = x
          rw [vF.2.2 j (Nat.zero_le _) (by omega), List.getD_eq_getElem?_getD, hx]
          rfl
      · intro j w hw
        have : j = 0 ∧ w = (hv, []) := by
          cases j with
          | zero => exact ⟨rfl, by simpa using hw.symm⟩
          | succ j => simp at hw
        obtain ⟨rfl, rfl⟩ := this
        rw [Nat.add_zero, ← he]
        by_cases k4 : gs_kind C = 4
        · rw [if_pos k4] at hhv hkd
          exact Or.inr (Or.inr (Or.inr ⟨by rw [b16, hkd], by rw [hhv]⟩))
        · rw [if_neg k4] at hhv hkd
          exact Or.inr (Or.inr (Or.inl ⟨by rw [b16, hkd], rfl, by rw [hhv]; exact nI_pos (by omega), by rw [b17, hhv]⟩))
      · intro w hw sw
        exact ⟨us, by rw [← ho, vb1 13 o (by omega) (by omega) (by omega)]; exact m13, Nat.le_refl _, by omega⟩
      · intro j w hw hn0
        have : w = (hv, []) := by
          cases j with
          | zero => simpa using hw.symm
          | succ j => simp at hw
        by_cases k4 : gs_kind C = 4
        · rw [if_pos k4] at hhv
          rw [this, hhv] at hn0
          exact absurd (show (-2 : Int32) < 0 by decide) hn0
        · rw [if_neg k4] at hhv
          exact ⟨o, by show o < (gs_hp s).length + 1; omega, by rw [this, hhv]⟩
      · intro j w hw
        cases j with
        | zero => simp at hw; rw [← hw]
        | succ j => simp at hw
    have pl1 : gs_pl s1 = gs_pl s := by rw [hs1]; rfl
    have hp1 : gs_hp s1 = gs_hp s ++ [ob] := by rw [hs1]; rfl
    have hh1 : gs_hs s1 = gs_hs s ++ [(hv, [])] := by rw [hs1]; rfl
    have ff1 : gs_f1 s1 = gs_f1 s := by rw [hs1]; rfl
    have hfl := Y.hh.2.2.1
    have sz1 : gs_size s1 = e + 1 := by
      unfold gs_size at he ⊢
      rw [hh1, ff1, List.length_append]
      show (gs_hs s).length + 1 - gs_f1 s = _
      omega
    have ap1 : gs_ap s s1 := ⟨by rw [hp1]; exact List.prefix_append _ _, by rw [hh1]; exact List.prefix_append _ _, ff1, by omega⟩
    obtain ⟨p1, p2, p3, p4, p5, p6, p7, p8, p9⟩ := gr_push_fr (t := tb) (tp := f + 1) (k := 3) (dd := nI dp) (a := nI o) (b := nI k)
    rw [← x1] at p1 p2 p3 p4 p5 p6 p7 p8 p9
    have hm1 : gr_hm tb t1 := by rw [x1]; exact gr_hm.refl.push
    have fr1 : gr_fr (f + 1) tb t1 := by rw [x1]; exact gr_fr.refl.push (Nat.le_refl _)
    have a8 : tb.1 0 8 = 0 := by rw [vb 0 8 (by decide) (by omega) (by omega) (by omega)]; exact h8
    have e13 : t1.1 13 o = nI us := by rw [hm1.1 13 o (by decide) (fun z => absurd z (by decide)), vb1 13 o (by omega) (by omega) (by omega)]; exact m13
    have ch1 : gr_chn (gr_NX X nd) t1 K (l :: L) (nI k) := by
      rw [k9] at ch
      exact (ch.kp kpb (fun z hz => hz.1)).kp (hm1.kp (hb := 0) (ub := 0) (nb := nd)) (fun z hz => hz.1)
    have I1 : gr_DI K X c (f + 1) o us ca dp (nI k) (l :: L) tb s us nd 0 0 0 s1 t1 := ⟨us + n, nd, ⟨Yb.hm hm1, p9.trans a8, p8⟩, ⟨p1, p2, p3, p4, p5, p6, p7⟩, ch1, ⟨⟨ob, by rw [hp1, ho, List.getElem?_append_right (Nat.le_refl _), Nat.sub_self]; rfl, by rw [hob], by rw [hob], by rw [hob]; show (gs_slot0 K (some ca)).length = _; rw [lenv, hn]⟩, e13⟩, ⟨⟨by omega, Nat.le_refl _⟩, fr1, ⟨hm1.eh, by omega, hv, by rw [hh1]; exact List.prefix_refl _⟩, hm1.kp, ap1⟩, by rw [pl1, sz1]; omega, by rw [pl1]; omega⟩
    refine (gr_dats (L := l :: L) RC hK.1 hd hdp ⟨ca6, cas⟩ (Nat.le_refl _) (by omega) (by omega) hL (l :: L).reverse 0 s1 t1 rfl (Nat.zero_le _) I1).bind (fun t2 x2 => ?_)
    cases er : gs_dats K rc (some ca) o (l :: L).reverse s1 with
    | error x =>
      rw [er] at x2
      exact .done (gr_O.er (gs_b_er er) (gr_F.from x2 kpb (Nat.le_refl _) (Nat.le_refl _) (Nat.le_refl _)))
    | ok w =>
      rw [er] at x2
      obtain ⟨us2, nd2, ⟨Y2, g8, g47⟩, OO, BB, sz2⟩ := x2
      rw [gs_b_ok (a := w.1) (s1 := w.2) er, gs_b_ok (m := gs_g) (a := w.2) (s1 := w.2) rfl]
      obtain ⟨s2, hs2⟩ : ∃ s2, s2 = w.2 := ⟨_, rfl⟩
      rw [← hs2] at Y2 OO BB sz2 ⊢
      obtain ⟨B1, B2, B3, B4, B5⟩ := BB
      obtain ⟨o720, ol2, o11, oat, oat4⟩ := OO.to Y2 (by omega)
      obtain ⟨⟨y, y1, y2, y3, y4⟩, y13⟩ := OO
      have ff : ∀ x, 28 ≤ x → x ≤ 34 → t2.1 x f = tb.1 x f := fun x x1 x2 => B2 x f x1 x2 (by omega)
      have j28 : t2.1 28 f = 1 := by rw [ff 28 (by omega) (by omega), vb 28 f (by omega) (by omega) (by omega) (by omega)]; exact f28
      have j29 : t2.1 29 f = 2 := by rw [ff 29 (by omega) (by omega)]; exact b29
      have j31 : t2.1 31 f = nI o := by rw [ff 31 (by omega) (by omega)]; exact b31
      have j32 : t2.1 32 f = nI e := by rw [ff 32 (by omega) (by omega)]; exact b32
      have j17 : t2.1 17 e = nI o := by rw [B3.1 e (by omega)]; exact b17
      have eg : (gs_hp s2).getD o (0, none, [], 0, 0) = y := by rw [List.getD_eq_getElem?_getD, y1]; rfl
      have hb2 := Y2.hb
      have pn2 := Y2.pn
      have u42 := Y2.us4
      have hv0 : gs_fs C ≠ [] → t2.2 15 us = y.2.2.1.getD 0 0 := by
        intro hne
        have o9 := (Y2.pp.2 o y y1).2.2.2.2.2.2.2.2
        unfold gr_ov at o9
        rw [if_neg (by rw [y2]; decide), if_neg (by rw [y2]; decide)] at o9
        obtain ⟨q, q1, q2, q3⟩ := o9
        have qe : q = us := (nI_eq (by omega) (by omega)).mp (q1.symm.trans y13)
        have lp : 0 < y.2.2.1.length := by
          rw [y4, gs_first_lt Y.wf hC]
          have := List.length_pos_iff.mpr hne
          omega
        have := q3 0 _ (List.getElem?_eq_getElem lp)
        rw [Nat.add_zero, qe] at this
        rw [this, List.getD_eq_getElem?_getD, List.getElem?_eq_getElem lp]
        rfl
      refine .step g47 (by omega) g8 (gr_sr2 (by omega) g47 (by omega) j28 j29 (m_eI (C := C) (v0 := y.2.2.1.getD 0 0) (ca := ca) (at_ := us) (by omega) (by omega) ca6 hC (by have := Y2.hh.2.1; have := B5.size; omega) o720 g8 j31 j32 o11 y13 (by omega) hv0 Y2.C)) (fun t3 x3 => ?_)
      unfold gr_eI at x3
      rw [eg]
      have kp2 : gr_kp (gs_hp s).length us nd t t2 := kpb.trans B4
      by_cases bad : gs_kind C = 4 ∧ (gs_fs C).head?.any (fun q => decide (q.2 < 6)) = true ∧ y.2.2.1.getD 0 0 < 0
      · rw [if_pos bad] at x3 ⊢
        subst x3
        exact .done (gr_O.er rfl (gr_F.ui (by decide) kp2))
      rw [if_neg bad] at x3 ⊢
      have ap2 := B5
      have i1 : gs_f1 s2 = gs_f1 s := ap2.2.2.1
      have hix : (gs_hs s).length = gs_f1 s2 + e := by rw [i1]; unfold gs_size at he; omega
      have sz2' : e < gs_size s2 := by have := B3.2.1; omega
      have hh2 : ∃ w9, (gs_hs s2)[gs_f1 s2 + e]? = some (w9, []) := by
        obtain ⟨w9, hp9⟩ := B3.2.2
        refine ⟨w9, gs_pre_get hp9 ?_⟩
        rw [← hix, List.getElem?_append_right (Nat.le_refl _), Nat.sub_self]
        rfl
      obtain ⟨w9, hh2⟩ := hh2
      have e16 : gr_ui t2 16 e 2 = gr_ui (gr_ui t2 16 e 2) 17 e (nI o) := by
        refine (gr_ui_id ?_).symm
        rw [gr_ui_no (by decide)]
        exact j17
      rw [x3, e16]
      refine .done (gr_O.setE (w := w9) (by rw [hix]; rfl) B1 Y2 g8 g47 (fun q i q1 q2 q3 => ?_) (fun i hi => ?_) kp2 ap2 (by omega) sz2' hh2 ol2 sz2)
      · rw [B2 q i q1 q2 (by omega), vb q i (by omega) (by omega) (by omega) (by omega)]
      · rw [B3.1 i (by omega), vb 17 i (by omega) (by omega) (by omega) (by omega)]
end NU
/-! THE REFERENCE, 58: a read at a depth. -/
section NV
variable {X N : Nat → Prop} {E : Nat → Value} {d m f n p dp c us nd k e o r j cnt hb ub nb B pp at_ ca us0 nd0 : Nat} {h : gm_H} {t t' t0 t1 : gr_t} {K : gs_K} {s s' s'' s0 s1 : gs_S} {rc : gs_M Int32} {P : gr_t → Prop} {l : gs_L} {L : List gs_L} {Q : gm_R → gm_H → Prop} {leaf st stt : Int32} {cc : Option Nat}
theorem gr_Y.us_eq {u c' : Nat} {X' : Nat → Prop} (Y : gr_Y X c us nd t K s) (Y' : gr_Y X' c' u nd t K s) : u = us := by
  have h1 := Y.us4
  have h2 := Y'.us4
  exact (nI_eq (by omega) (by omega)).mp (Y'.u.symm.trans Y.u)
theorem gr_hav (RC : gr_RC E d h m K (dp + 1) rc) (hK : gs_kor K) (hd : 12 ≤ d) (hdp : 1 ≤ dp ∧ dp ≤ 8) {F : gs_L → List gs_L → gs_M Int32} (Y1 : gr_Y X (c + 1) us nd t1 K s1) (h8 : t1.1 0 8 = 0) (h47 : t1.1 0 47 = nI (f + 1)) (f28 : t1.1 28 f = 1) (f30 : t1.1 30 f = nI dp) (h14 : 14 * f + 42 ≤ 42 * dp + gs_pl s1) (hsz : 14 * gs_size s1 ≤ 14 * (69 - dp) + gs_pl s1)
    (nil : ∀ (us nd : Nat) (t : gr_t) (s : gs_S), gr_Y X (c + 1) us nd t K s → t.1 0 8 = 0 → t.1 0 47 = nI (f + 1) → (t.1 28 f = 1 ∧ t.1 29 f = stt ∧ t.1 30 f = nI dp) → t.1 0 9 = -2 → gr_st E d h m t (fun t' => t' = gr_ui t 0 8 (-4)))
    (go : ∀ (l : gs_L) (L : List gs_L) (us nd : Nat) (t : gr_t) (s : gs_S), gr_Y X (c + 6) us nd t K s → t.1 0 8 = 0 → t.1 0 47 = nI (f + 1) → (t.1 28 f = 1 ∧ t.1 29 f = stt ∧ t.1 30 f = nI dp) → 14 * f + 42 ≤ 42 * dp + gs_pl s → 14 * gs_size s ≤ 14 * (69 - dp) + gs_pl s → gr_chn (gr_NX X nd) t K (l :: L) (t.1 0 9) → (l :: L).length ≤ 900 → gr_Rn E d h m (gr_O K X c us nd f f t s (gr_W dp) (F l L s)) t) :
    gr_Rn E d h m (gr_O K X c us nd f f t1 s1 (gr_W dp) (gs_have (gs_desc K rc 8) F s1)) (gr_push (gr_ui t1 29 f stt) (f + 1) 2 (nI dp) 1 0) := by
  have n7 := Y1.n7
  have pn := Y1.pn
  obtain ⟨p1, p2, p3, p4, p5, p6, p7, p8, p9⟩ := gr_push_fr (t := gr_ui t1 29 f stt) (tp := f + 1) (k := 2) (dd := nI dp) (a := 1) (b := 0)
  have hm2 : gr_hm t1 (gr_push (gr_ui t1 29 f stt) (f + 1) 2 (nI dp) 1 0) := (gr_hm.refl.ui (by omega)).push
  have fr2 : gr_fr (f + 1) (gr_ui t1 29 f stt) (gr_push (gr_ui t1 29 f stt) (f + 1) 2 (nI dp) 1 0) := gr_fr.refl.push (Nat.le_refl _)
  obtain ⟨t2, ht2⟩ : ∃ t2, t2 = gr_push (gr_ui t1 29 f stt) (f + 1) 2 (nI dp) 1 0 := ⟨_, rfl⟩
  rw [← ht2] at p1 p2 p3 p4 p5 p6 p7 p8 p9 hm2 fr2 ⊢
  have ds := gr_desc (B := 14 * (69 - dp)) RC hK.1 hd hdp (Nat.le_refl _) (by omega) 8 (Nat.le_refl _)
  refine (ds X (c + 1) us nd (f + 1) t2 s1 (Y1.hm hm2) (p9.trans (by rw [gr_ui_no (by decide)]; exact h8)) p8 ⟨p1, p2, p3, p4, p6⟩ (by omega) hsz).bind (fun t3 x3 => ?_)
  unfold gs_have
  refine gr_O.seqF x3 hm2.kp (Nat.le_refl _) (Nat.le_refl _) (Nat.le_refl _) (fun LL s3 us3 nd3 er g1 Y3 g8 g47 g3 g6 g4 g5 v => ?_)
  obtain ⟨v1, v2, v3, v4, v5⟩ := v
  have ff : ∀ x, 28 ≤ x → x ≤ 34 → t3.1 x f = (gr_ui t1 29 f stt).1 x f := fun x x1 x2 => (g3 x f x1 x2 (by omega)).trans (fr2 x f x1 x2 (by omega))
  have fr3 : t3.1 28 f = 1 ∧ t3.1 29 f = stt ∧ t3.1 30 f = nI dp := ⟨by rw [ff 28 (by omega) (by omega), gr_ui_no (by decide)]; exact f28, by rw [ff 29 (by omega) (by omega), gr_ui_eq], by rw [ff 30 (by omega) (by omega), gr_ui_no (by decide)]; exact f30⟩
  have kp3 : gr_kp (gs_hp s1).length us nd t1 t3 := hm2.kp.trans g4
  have frz : gr_fr f t1 t3 := fun q i q1 q2 q3 => by rw [g3 q i q1 q2 (by omega), fr2 q i q1 q2 (by omega), gr_ui_ni (by omega)]
  cases LL with
  | nil =>
    refine .step g47 (by omega) g8 (nil us3 nd3 t3 s3 Y3 g8 g47 fr3 v1) (fun t4 x4 => ?_)
    subst x4
    exact .done (gr_O.er rfl (gr_F.ui (by decide) kp3))
  | cons l L =>
    obtain ⟨u, Yu⟩ := v5 (by simp)
    have ue := Y3.us_eq Yu
    subst ue
    have ln : (l :: L).length ≤ 900 := by
      have c1 : gs_dn s3 ≤ (gs_hs s3).length := List.countP_le_length
      have := Y3.eb
      have := Y3.pn
      omega
    have g := go l L u nd3 t3 s3 Yu g8 g47 fr3 (by omega) v3 v1 ln
    exact g.mono (fun t4 x4 => x4.from g1 frz (Nat.le_refl _) (hm2.eh.trans g6) kp3 g5)
/-- a read, by its tag -/
def gs_bG (K : gs_K) (rc : gs_M Int32) (d : Nat) (t : Int32) : gs_M Int32 :=
  if t = 112 then gs_r (-2) else if t = 113 then gs_ref K else if t = 114 then gs_b (fun s => .ok ((), gs_p (gs_pl s - 1) s)) fun _ => gs_b (gs_desc K rc 8) fun _ => gs_r (-2)
  else if t = 115 then gs_inst K rc d else if t = 116 then gs_text K else if t = 117 then gs_arr K rc d else if t = 126 then gs_con1 K rc d
  else if t = 119 ∨ t = 122 ∨ t = 120 then gs_x (if d = 1 then -7 else -4) else if t = 123 then gs_x (-10) else gs_x (-4)
theorem gs_body_G : gs_body K rc dp = gs_b (gs_room dp) fun _ => gs_b (gs_u1 K) (gs_bG K rc dp) := rfl
theorem gr_W.V {s0 : gs_S} {v : Int32} {s' : gs_S} {nd' : Nat} (w : gr_W dp v s' nd' t') (hp : gs_pl s0 < gs_pl s') : gr_V dp s0 v s' nd' t' := ⟨w.1, w.2.1, w.2.2, hp⟩
theorem gr_O.toV {res : Except Int32 (Int32 × gs_S)} {t1 : gr_t} {s1 : gs_S} (x : gr_O K X c us nd f f t1 s1 (gr_W dp) res t') (hp : gs_pl s < gs_pl s1) (h3 : gr_fr f t t1) (h6 : gr_eh (gs_size s) t t1) (h4 : gr_kp (gs_hp s).length us nd t t1) (h5 : gs_ap s s1) : gr_O K X c us nd f f t s (gr_V dp s) res t' := by
  cases res with
  | ok q =>
    obtain ⟨us', nd', g1, Y, g2, g3, g6, g4, g5, v⟩ := x
    exact ⟨us', nd', g1, Y, g2, h3.trans g3, h6.trans (g6.wk h5.size), h4.trans (g4.wk h5.len (Nat.le_refl _) (Nat.le_refl _)), h5.trans g5, v.V (by have := g5.2.2.2; omega)⟩
  | error e => exact gr_F.from x h4 h5.len (Nat.le_refl _) (Nat.le_refl _)
end NV
/-! THE REFERENCE, 59: a read at every depth. -/
section NW
variable {X N : Nat → Prop} {E : Nat → Value} {d m f n p dp c us nd k e o r j cnt hb ub nb B pp at_ ca us0 nd0 : Nat} {h : gm_H} {t t' t0 t1 : gr_t} {K : gs_K} {s s' s'' s0 s1 : gs_S} {rc : gs_M Int32} {P : gr_t → Prop} {l : gs_L} {L : List gs_L} {Q : gm_R → gm_H → Prop} {leaf st stt : Int32} {cc : Option Nat}
def gs_bk : gs_M Unit := fun s => .ok ((), gs_p (gs_pl s - 1) s)
theorem gr_body (RC : gr_RC E d h m K (dp + 1) rc) (hK : gs_kor K) (hd : 12 ≤ d) (hdp : 1 ≤ dp ∧ dp ≤ 8) : gr_RC E d h m K dp (gs_body K rc dp) := by
  intro X c us nd f t s Y h8 h47 hf h14 hr
  obtain ⟨f28, f29, f30⟩ := hf
  have n7 := Y.n7
  have pn := Y.pn
  have s130 := Y.hh.2.1
  have f79 : f < 78 := by omega
  have c8 : ¬ 8 < t.1 30 f := by rw [f30]; exact nI_nlt (a := 8) (b := dp) (by omega) (by omega)
  rw [gs_body_G]
  by_cases c60 : 60 < gs_size s
  · have er : gs_room dp s = .error (-8) := by unfold gs_room; rw [if_pos (Or.inr c60)]
    have n60 : ¬ t.1 0 28 ≤ 60 := by rw [Y.hh.1, Int32.not_le]; exact nI_lt (a := 60) c60 (by omega)
    refine .step h47 (by omega) h8 (gr_sr0 (by omega) h47 (by omega) f28 f29 (gm_Ca.mono (m_sRfar (by omega) (by omega) (Or.inr n60) h8) (fun r h' q => gr_ps.v rfl rfl q))) (fun t1 e1 => ?_)
    subst e1
    exact .done (gr_O.er (gs_b_er er) (gr_F.ui (by decide) gr_kp.refl))
  have er : gs_room dp s = .ok ((), s) := by unfold gs_room; rw [if_neg (by omega)]
  have n60 : t.1 0 28 ≤ 60 := by rw [Y.hh.1, ← Int32.not_lt]; exact nI_nlt (a := 60) (by omega) (by omega)
  rw [gs_b_ok er]
  rcases Nat.lt_or_ge (gs_pl s) (gs_n K) with z | z
  rotate_left
  · refine .step h47 (by omega) h8 (gr_sr0 (by omega) h47 (by omega) f28 f29 (gm_Ca.mono (m_sRend (by omega) (by omega) c8 n60 h8 Y.B.1 Y.pl (by omega) z) (fun r h' q => gr_ps.v rfl rfl q))) (fun t1 e1 => ?_)
    subst e1
    exact .done (gr_O.er (gs_b_er (gs_u1_n z)) (gr_F.ui (by decide) gr_kp.refl))
  rw [gs_b_ok (gs_u1_y z)]
  have eb := Y.B.2.2 _ z
  obtain ⟨b, hb⟩ : ∃ b, b = gs_sb K (gs_pl s) &&& 255 := ⟨_, rfl⟩
  rw [← hb] at eb ⊢
  have Y1 := Y.place (k := 1) (by omega)
  obtain ⟨t1, ht1⟩ : ∃ t1, t1 = gr_ui t 0 6 (nI (gs_pl s + 1)) := ⟨_, rfl⟩
  obtain ⟨s1, hs1⟩ : ∃ s1, s1 = gs_p (gs_pl s + 1) s := ⟨_, rfl⟩
  rw [← ht1, ← hs1] at Y1
  rw [← hs1]
  have pl1 : gs_pl s1 = gs_pl s + 1 := by rw [hs1]; rfl
  have sz1 : gs_size s1 = gs_size s := by rw [hs1]; rfl
  have v1 : ∀ q i, (q = 0 → i ≠ 6) → t1.1 q i = t.1 q i := fun q i z0 => by
    rw [ht1]
    by_cases e0 : q = 0
    · rw [gr_ui_ni (z0 e0)]
    · rw [gr_ui_no e0]
  have a8 : t1.1 0 8 = 0 := by rw [v1 0 8 (by decide)]; exact h8
  have a47 : t1.1 0 47 = nI (f + 1) := by rw [v1 0 47 (by decide)]; exact h47
  have a28 : t1.1 28 f = 1 := by rw [v1 28 f (by omega)]; exact f28
  have a30 : t1.1 30 f = nI dp := by rw [v1 30 f (by omega)]; exact f30
  have kp1 : gr_kp (gs_hp s).length us nd t t1 := by rw [ht1]; exact gr_kp.refl.ui (by unfold gr_pr; omega)
  have fr1 : gr_fr f t t1 := fun q i q1 q2 q3 => v1 q i (by omega)
  have eh1 : gr_eh (gs_size s) t t1 := fun i hi => v1 17 i (by omega)
  have ap1 : gs_ap s s1 := by rw [hs1]; exact gs_ap.p (by omega)
  -- one step
  have go : ∀ (P : gr_t → Prop), gm_W E (d - 2) 23 40 [.ref m, .int (nI f), .int b, gm_u, gm_u, gm_u] [] (gr_H h m t1) (gr_ps h m P) → (∀ t', P t' → gr_Rn E d h m (gr_O K X c us nd f f t s (gr_V dp s) (gs_bG K rc dp b s1)) t') → gr_Rn E d h m (gr_O K X c us nd f f t s (gr_V dp s) (gs_bG K rc dp b s1)) t := by
    intro P w k
    refine .step h47 (by omega) h8 (gr_sr0 (by omega) h47 (by omega) f28 f29 (m_sRpre (by omega) (by omega) c8 n60 h8 Y.B.1 Y.pl n7 z ?_)) k
    rw [eb, ← ht1]
    exact w
  have hsz1 : 14 * gs_size s1 ≤ 14 * (69 - dp) + gs_pl s1 := by omega
  -- a descriptor first
  have hv : ∀ (stt : Int32) (F : gs_L → List gs_L → gs_M Int32), (∀ (us nd : Nat) (t : gr_t) (s : gs_S), gr_Y X (c + 1) us nd t K s → t.1 0 8 = 0 → t.1 0 47 = nI (f + 1) → (t.1 28 f = 1 ∧ t.1 29 f = stt ∧ t.1 30 f = nI dp) → t.1 0 9 = -2 → gr_st E d h m t (fun t' => t' = gr_ui t 0 8 (-4))) →
      (∀ (l : gs_L) (L : List gs_L) (us nd : Nat) (t : gr_t) (s : gs_S), gr_Y X (c + 6) us nd t K s → t.1 0 8 = 0 → t.1 0 47 = nI (f + 1) → (t.1 28 f = 1 ∧ t.1 29 f = stt ∧ t.1 30 f = nI dp) → 14 * f + 42 ≤ 42 * dp + gs_pl s → 14 * gs_size s ≤ 14 * (69 - dp) + gs_pl s → gr_chn (gr_NX X nd) t K (l :: L) (t.1 0 9) → (l :: L).length ≤ 900 → gr_Rn E d h m (gr_O K X c us nd f f t s (gr_W dp) (F l L s)) t) → ∀ t', t' = gr_push (gr_ui t1 29 f stt) (f + 1) 2 (t1.1 30 f) 1 0 → gr_Rn E d h m (gr_O K X c us nd f f t s (gr_V dp s) (gs_have (gs_desc K rc 8) F s1)) t' := by
    intro stt F nil gg t' et
    rw [a30] at et
    subst et
    exact (gr_hav RC hK hd hdp Y1 a8 a47 a28 a30 (by omega) hsz1 nil gg).mono (fun t4 x4 => x4.toV (by omega) fr1 eh1 kp1 ap1)
  by_cases b112 : b = 112
  · have eG : gs_bG K rc dp b = gs_r (-2) := by unfold gs_bG; rw [if_pos b112]
    rw [eG] at go ⊢
    refine go (fun t' => t' = gr_give t1 (-2)) (by rw [b112]; exact m_sRnull (by omega) (gr_ps.ok rfl)) (fun t' et => ?_)
    subst et
    exact .done (gr_O.give rfl ⟨Nat.le_refl _, Nat.le_refl _⟩ (Y1.wk (by omega)) a8 a47 fr1 eh1 kp1 ap1 ⟨(gr_give8 a8 a47).2, Or.inl rfl, by omega, by omega⟩)
  by_cases b113 : b = 113
  · have eG : gs_bG K rc dp b = gs_ref K := by unfold gs_bG; rw [if_neg b112, if_pos b113]
    rw [eG] at go ⊢
    have rf := m_reference (E := E) (d := d - 3) (h := h) (m := m) (b := false) (fr := nI f) (by omega) Y1.B Y1.hs Y1.pl Y1.pn a8
    refine go (fun t' => match gs_ref K s1 with
      | .ok q => q.2 = gs_p (gs_pl s1 + 4) s1 ∧ gs_pl s1 + 4 ≤ gs_n K ∧ t' = gr_give (gr_ui t1 0 6 (nI (gs_pl s1 + 4))) q.1 ∧ (q.1 = -2 ∨ ∃ (i : Nat) (w : Int32 × List gs_L), (gs_hs s1)[i]? = some w ∧ w.1 = q.1 ∧ ¬ q.1 < 0)
      | .error f => gr_er t1 t' f) (by
        rw [b113]
        refine m_sRref (by omega) rf (fun r h' q => ⟨h', q.1, rfl, ?_⟩)
        obtain ⟨q1, q2⟩ := q
        have e1 : gr_rf K false s1 = match gs_ref K s1 with
            | .ok q => .ok (Sum.inl q.1, q.2)
            | .error e => .error e := by
          unfold gr_rf
          rw [if_neg (by decide)]
          unfold gs_b
          cases gs_ref K s1 <;> rfl
        rw [e1] at q2
        cases erf : gs_ref K s1 with
        | ok w =>
          rw [erf] at q2
          obtain ⟨y1, y2, w9, y3, y4, y5⟩ := q2
          refine ⟨rfl, _, y3, y1, y2, ?_, y5⟩
          rw [y4]
        | error x =>
          rw [erf] at q2
          obtain ⟨t9, y1, y2⟩ := q2
          exact ⟨rfl, t9, y1, y2⟩) (fun t' x => ?_)
    cases erf : gs_ref K s1 with
    | error y =>
      rw [erf] at x
      exact .done (gr_O.er rfl ((gr_er.F x).from kp1 (Nat.le_refl _) (Nat.le_refl _) (Nat.le_refl _)))
    | ok w =>
      rw [erf] at x
      obtain ⟨x1, x2, x3, x4⟩ := x
      have Y2 := Y1.place (k := 4) x2
      obtain ⟨t2, ht2⟩ : ∃ t2, t2 = gr_ui t1 0 6 (nI (gs_pl s1 + 4)) := ⟨_, rfl⟩
      rw [← ht2] at Y2 x3
      have c8' : t2.1 0 8 = 0 := by rw [ht2, gr_ui_ni (by decide)]; exact a8
      have c47 : t2.1 0 47 = nI (f + 1) := by rw [ht2, gr_ui_ni (by decide)]; exact a47
      rw [x3]
      obtain ⟨w1, w2⟩ := w
      dsimp only at x1 x4
      subst x1
      refine .done (gr_O.give rfl ⟨Nat.le_refl _, Nat.le_refl _⟩ (Y2.wk (by omega)) c8' c47 (by rw [ht2]; exact fr1.ui (by omega)) (by rw [ht2]; exact eh1.ui (by omega)) (by rw [ht2]; exact kp1.ui (by unfold gr_pr; omega)) (ap1.trans (gs_ap.p (by omega))) ⟨(gr_give8 c8' c47).2, ?_, ?_, ?_⟩)
      · rcases x4 with y | ⟨i, q, q1, q2, q3⟩
        · exact Or.inl y
        · obtain ⟨x, y1, y2⟩ := Y1.hin i q q1 (by rw [q2]; exact q3)
          exact Or.inr ⟨x, y1, by rw [← q2]; exact y2⟩
      · show 14 * gs_size s1 ≤ 14 * (70 - dp) + (gs_pl s1 + 4); omega
      · show gs_pl s < gs_pl s1 + 4; omega
  by_cases b114 : b = 114
  · have eG : gs_bG K rc dp b = gs_b gs_bk fun _ => gs_b (gs_desc K rc 8) fun _ => gs_r (-2) := by unfold gs_bG; rw [if_neg b112, if_neg b113, if_pos b114]; rfl
    rw [eG] at go ⊢
    have es : gs_b gs_bk (fun _ => gs_b (gs_desc K rc 8) fun _ => gs_r (-2 : Int32)) s1 = gs_b (gs_desc K rc 8) (fun _ => gs_r (-2 : Int32)) s := by
      rw [gs_b_ok (a := ()) (s1 := gs_p (gs_pl s1 - 1) s1) rfl, pl1, Nat.add_sub_cancel, hs1]
      rfl
    rw [es] at go ⊢
    refine go (fun t' => t' = gr_push (gr_ui (gr_ui t1 0 6 (t1.1 0 6 - 1)) 29 f 9) (f + 1) 2 (t1.1 30 f) 1 0) (by rw [b114]; exact m_sR114 (by omega) (by omega) a47 (by omega) (gr_ps.ok rfl)) (fun t2 e2 => ?_)
    have e6 : gr_ui t1 0 6 (t1.1 0 6 - 1) = t := by
      have : t1.1 0 6 - 1 = nI (gs_pl s) := by rw [ht1, gr_ui_eq]; exact nI_sub (b := 1) (by omega)
      rw [this, ht1, gr_ui_ui]
      exact gr_ui_id Y.pl
    rw [e6, a30] at e2
    obtain ⟨p1, p2, p3, p4, p5, p6, p7, p8, p9⟩ := gr_push_fr (t := gr_ui t 29 f 9) (tp := f + 1) (k := 2) (dd := nI dp) (a := 1) (b := 0)
    rw [← e2] at p1 p2 p3 p4 p5 p6 p7 p8 p9
    have hm2 : gr_hm t t2 := by rw [e2]; exact (gr_hm.refl.ui (by omega)).push
    have fr2 : gr_fr (f + 1) (gr_ui t 29 f 9) t2 := by rw [e2]; exact gr_fr.refl.push (Nat.le_refl _)
    have ds := gr_desc (B := 14 * (69 - dp)) RC hK.1 hd hdp (Nat.le_refl _) (by omega) 8 (Nat.le_refl _)
    refine (ds X c us nd (f + 1) t2 s (Y.hm hm2) (p9.trans (by rw [gr_ui_no (by decide)]; exact h8)) p8 ⟨p1, p2, p3, p4, p6⟩ (by omega) (by omega)).bind (fun t3 x3 => ?_)
    refine gr_O.seqF x3 hm2.kp (Nat.le_refl _) (Nat.le_refl _) (Nat.le_refl _) (fun LL s3 us3 nd3 er g1 Y3 g8 g47 g3 g6 g4 g5 v => ?_)
    obtain ⟨w1, w2, w3, w4, -⟩ := v
    have ff : ∀ x, 28 ≤ x → x ≤ 34 → t3.1 x f = (gr_ui t 29 f 9).1 x f := fun x x1 x2 => (g3 x f x1 x2 (by omega)).trans (fr2 x f x1 x2 (by omega))
    refine .step g47 (by omega) g8 (gr_sr9 (P := fun t' => t' = gr_give t3 (-2)) (by omega) g47 (by omega) (by rw [ff 28 (by omega) (by omega), gr_ui_no (by decide)]; exact f28) (by rw [ff 29 (by omega) (by omega), gr_ui_eq]) rfl) (fun t4 x4 => ?_)
    subst x4
    refine .done (gr_O.give rfl g1 Y3 g8 g47 (fun q i q1 q2 q3 => by rw [g3 q i q1 q2 (by omega), fr2 q i q1 q2 (by omega), gr_ui_ni (by omega)]) (hm2.eh.trans g6) (hm2.kp.trans g4) g5 ⟨(gr_give8 g8 g47).2, Or.inl rfl, by omega, w4⟩)
  by_cases b115 : b = 115
  · have eG : gs_bG K rc dp b = gs_have (gs_desc K rc 8) (gs_instK K rc dp) := by unfold gs_bG; rw [if_neg b112, if_neg b113, if_neg b114, if_pos b115]; rfl
    rw [eG] at go ⊢
    refine go _ (by rw [b115]; exact m_sR115 (by omega) (by omega) a47 (by omega) (gr_ps.ok rfl)) (hv 1 _ (fun us nd t s Y h8 h47 hf h9 => gr_sr1 (by omega) h47 (by omega) hf.1 hf.2.1 (gm_Ca.mono (m_nI0 (by omega) h8 h9) (fun r h' q => gr_ps.v (P := fun t' => t' = gr_ui t 0 8 (-4)) rfl rfl q))) (fun l L us nd t s Y h8 h47 hf h14 hsz ch ln => gr_inst RC hK hd hdp Y h8 h47 hf h14 hsz ch ln))
  by_cases b116 : b = 116
  · have eG : gs_bG K rc dp b = gs_text K := by unfold gs_bG; rw [if_neg b112, if_neg b113, if_neg b114, if_neg b115, if_pos b116]
    rw [eG] at go ⊢
    have hbb := Y.hb
    refine go _ (by rw [b116]; exact m_sR116 (s := s1) (e := gs_size s) (o := (gs_hp s).length) (by omega) (by rw [v1 0 28 (by decide)]; exact Y.hh.1) (by omega) (by rw [v1 0 23 (by decide)]; exact Y.pp.1) (by omega) Y1.B Y1.pl Y1.pn a8) (fun t' x => ?_)
    cases eu : gs_utf K s1 with
    | error y =>
      rw [eu] at x
      have ee : gs_text K s1 = .error y := by
        unfold gs_text
        have ebb := Y1.eb
        have ea : gs_addE (-1) s1 = .ok ((gs_hs s1).length, (gs_pl s1, gs_hp s1, gs_hs s1 ++ [(-1, [])], gs_f1 s1)) := by
          unfold gs_addE
          rw [if_neg (by omega)]
          rfl
        rw [gs_b_ok ea]
        exact gs_b_er (gs_utf_anyE eu)
      have F := gr_er.F (hb := (gs_hp s).length) (ub := us) (nb := nd) x
      refine .done (gr_O.er ee (F.from (t' := gr_ent t1 (gs_size s) 0 0) ?_ (Nat.le_refl _) (Nat.le_refl _) (Nat.le_refl _)))
      unfold gr_ent
      exact ((kp1.ui (by unfold gr_pr; omega)).ui (by unfold gr_pr; omega)).ui (by unfold gr_pr; omega)
    | ok w =>
      rw [eu] at x
      dsimp only at x
      rw [x, ht1, hs1]
      rw [hs1] at eu
      have g := gr_Y.txt (f := f) (a := w.1) (s1 := w.2) Y (by omega) h8 h47 eu z
      exact .done (g.mono (fun v s9 nd9 y => ⟨y.1, Or.inr y.2.1, by have := y.2.2.1; have := y.2.2.2; omega, y.2.2.2⟩))
  by_cases b117 : b = 117
  · have eG : gs_bG K rc dp b = gs_have (gs_desc K rc 8) (fun l _ => gs_arrK K rc dp l) := by unfold gs_bG; rw [if_neg b112, if_neg b113, if_neg b114, if_neg b115, if_neg b116, if_pos b117]; rfl
    rw [eG] at go ⊢
    refine go _ (by rw [b117]; exact m_sR117 (by omega) (by omega) a47 (by omega) (gr_ps.ok rfl)) (hv 3 _ (fun us nd t s Y h8 h47 hf h9 => gr_sr3 (by omega) h47 (by omega) hf.1 hf.2.1 (gm_Ca.mono (m_nA0 (by omega) h8 h9 Y.B Y.pl Y.pn) (fun r h' q => gr_ps.v (P := fun t' => t' = gr_ui t 0 8 (-4)) rfl rfl q))) (fun l L us nd t s Y h8 h47 hf h14 hsz ch ln => gr_arr RC hK hd hdp Y h8 h47 hf h14 hsz ch))
  by_cases b126 : b = 126
  · have eG : gs_bG K rc dp b = gs_have (gs_desc K rc 8) (fun l _ => gs_conK K rc dp l) := by unfold gs_bG; rw [if_neg b112, if_neg b113, if_neg b114, if_neg b115, if_neg b116, if_neg b117, if_pos b126]; rfl
    rw [eG] at go ⊢
    refine go _ (by rw [b126]; exact m_sR126 (by omega) (by omega) a47 (by omega) (gr_ps.ok rfl)) (hv 5 _ (fun us nd t s Y h8 h47 hf h9 => gr_sr5 (by omega) h47 (by omega) hf.1 hf.2.1 (gm_Ca.mono (m_nC0 (by omega) h8 h9) (fun r h' q => gr_ps.v (P := fun t' => t' = gr_ui t 0 8 (-4)) rfl rfl q))) (fun l L us nd t s Y h8 h47 hf h14 hsz ch ln => gr_con RC hd hdp Y h8 h47 hf h14 hsz ch))
  have e1 : (t1.1 30 f = 1) ↔ dp = 1 := by rw [a30]; exact nI_eq (b := 1) (by omega) (by decide)
  by_cases b123 : b = 123
  · have eG : gs_bG K rc dp b = gs_x (-10) := by unfold gs_bG; rw [if_neg b112, if_neg b113, if_neg b114, if_neg b115, if_neg b116, if_neg b117, if_neg b126, if_neg (by rw [b123]; decide), if_pos b123]
    have ef : gr_fl t1 (-10) = gr_ui t1 0 8 (-10) := by unfold gr_fl; rw [if_pos a8]
    rw [eG] at go ⊢
    refine go (fun t' => t' = gr_ui t1 0 8 (-10)) (by rw [b123]; exact m_sR123 (by omega) (by rw [ef]; exact gr_ps.ok rfl)) (fun t' et => ?_)
    subst et
    exact .done (gr_O.er rfl (gr_F.ui (by decide) kp1))
  · obtain ⟨fe, hfe⟩ : ∃ fe : Int32, fe = if t1.1 30 f = 1 ∧ (b = 119 ∨ b = 122 ∨ b = 120) then -7 else -4 := ⟨_, rfl⟩
    have eG : gs_bG K rc dp b = gs_x fe := by
      unfold gs_bG
      rw [if_neg b112, if_neg b113, if_neg b114, if_neg b115, if_neg b116, if_neg b117, if_neg b126, hfe]
      by_cases y : b = 119 ∨ b = 122 ∨ b = 120
      · rw [if_pos y]
        by_cases y1 : dp = 1
        · rw [if_pos y1, if_pos ⟨e1.mpr y1, y⟩]
        · rw [if_neg y1, if_neg (fun q => y1 (e1.mp q.1))]
      · rw [if_neg y, if_neg b123, if_neg (fun q => y q.2)]
    have fn : fe ≠ 0 := by rw [hfe]; split <;> decide
    have ef : gr_fl t1 fe = gr_ui t1 0 8 fe := by unfold gr_fl; rw [if_pos a8]
    rw [eG] at go ⊢
    refine go (fun t' => t' = gr_ui t1 0 8 fe) (m_sRbad (by omega) (by omega) ⟨b112, b113, b116, b114, b115, b117, b126, b123, fun q y => ?_⟩ (by rw [← hfe, ef]; exact gr_ps.ok rfl)) (fun t' et => ?_)
    · exact hr (e1.mp y) z (by rw [← hb]; exact q)
    · subst et
      exact .done (gr_O.er rfl (gr_F.ui fn kp1))
theorem gr_rc (hK : gs_kor K) (hd : 12 ≤ d) : ∀ k, k ≤ 8 → gr_RC E d h m K (9 - k) (gs_rc K k)
  | 0, _ => by
    intro X c us nd f t s Y h8 h47 hf h14 hr
    have n7 := Y.n7
    have pn := Y.pn
    have c8 : 8 < t.1 30 f := by rw [hf.2.2]; decide
    refine .step h47 (by omega) h8 (gr_sr0 (by omega) h47 (by omega) hf.1 hf.2.1 (gm_Ca.mono (m_sRfar (by omega) (by omega) (Or.inl c8) h8) (fun r h' q => gr_ps.v rfl rfl q))) (fun t1 e1 => ?_)
    subst e1
    exact .done (gr_O.er rfl (gr_F.ui (by decide) gr_kp.refl))
  | k + 1, hk => by
    have g := gr_rc hK hd k (by omega)
    rw [show 9 - k = (8 - k) + 1 by omega] at g
    have := gr_body g hK hd ⟨by omega, by omega⟩
    rw [show 9 - (k + 1) = 8 - k by omega]
    exact this
end NW
/-! THE REFERENCE, 60: the outermost read. -/
section NX
variable {X N : Nat → Prop} {E : Nat → Value} {d m f n p dp c us nd k e o r j cnt hb ub nb B pp at_ ca us0 nd0 : Nat} {h : gm_H} {t t' t0 t1 : gr_t} {K : gs_K} {s s' s'' s0 s1 : gs_S} {rc : gs_M Int32} {P : gr_t → Prop} {l : gs_L} {L : List gs_L} {Q : gm_R → gm_H → Prop} {leaf st stt : Int32} {cc : Option Nat}
/-- the handles forgotten -/
theorem gr_Y.rst (Y : gr_Y X c us nd t K s) (hp : gs_pl s < gs_n K) : gr_Y X c us nd (gr_ui (gr_ui t 0 6 (nI (gs_pl s + 1))) 0 28 0) K (gs_pl s + 1, gs_hp s, gs_hs s, (gs_hs s).length) := by
  have z : ∀ q i, (q = 0 → i ≠ 6 ∧ i ≠ 28) → (gr_ui (gr_ui t 0 6 (nI (gs_pl s + 1))) 0 28 0).1 q i = t.1 q i := fun q i h0 => by
    by_cases e0 : q = 0
    · rw [gr_ui_ni (h0 e0).2, gr_ui_ni (h0 e0).1]
    · rw [gr_ui_no e0, gr_ui_no e0]
  have kpz : gr_kp (gs_hp s).length us nd t (gr_ui (gr_ui t 0 6 (nI (gs_pl s + 1))) 0 28 0) := (gr_kp.refl.ui (by unfold gr_pr; omega)).ui (by unfold gr_pr; omega)
  have sz : gs_size (gs_pl s + 1, gs_hp s, gs_hs s, (gs_hs s).length) = 0 := Nat.sub_self _
  exact gr_Y.mk
    (lm := kpz.lm Y.lm)
    (B := kpz.gB Y.B)
    (C := kpz.gC Y.C)
    (wf := Y.wf)
    (ndK := Y.ndK)
    (pl := by rw [gr_ui_ni (by decide), gr_ui_eq]; rfl)
    (pn := hp)
    (pp := ⟨(z 0 23 (by decide)).trans Y.pp.1, fun i o ho => (Y.pp.2 i o ho).kp kpz (List.getElem?_eq_some_iff.mp ho).1 (Nat.le_refl _) (Nat.le_refl _)⟩)
    (hh := ⟨by rw [gr_ui_eq, sz]; rfl, by rw [sz]; exact Nat.zero_le _, Nat.le_refl _, fun i w hi => by rw [sz] at hi; exact absurd hi (Nat.not_lt_zero i)⟩)
    (xb := Y.xb)
    (u := (z 0 25 (by decide)).trans Y.u)
    (ub := by have := Y.ub; show us + 4 * c ≤ 4 * (gs_pl s + 1); omega)
    (n := (z 0 39 (by decide)).trans Y.n)
    (nb := by have := Y.nb; show 11 * nd ≤ gs_pl s + 1; omega)
    (dj := Y.dj.kp kpz (Nat.le_refl _))
    (hin := Y.hin)
    (lok := Y.lok)
    (hb := by have := Y.hb; show 3 * (gs_hp s).length + c ≤ gs_pl s + 1; omega)
    (eb := by have := Y.eb; show 3 * (gs_hs s).length + c ≤ gs_pl s + 1; omega)
/-- copies, fault and top don't matter -/
theorem gr_Y.cpy (Y : gr_Y X c us nd t K s) (z : ∀ q i, q ≠ 18 → q ≠ 19 → q < 28 → (q = 0 → i ≠ 8 ∧ i ≠ 47) → t'.1 q i = t.1 q i) (z2 : t'.2 = t.2) : gr_Y X c us nd t' K s := by
  have dl : ∀ k l, gr_dl t K k l → gr_dl t' K k l := fun k l D => by
    obtain ⟨a, b, c, e, f, g, i, j⟩ := D
    refine ⟨by rw [z _ _ (by decide) (by decide) (by decide) (by omega)]; exact a, ⟨by rw [z _ _ (by decide) (by decide) (by decide) (by omega)]; exact b.1, b.2⟩, by rw [z _ _ (by decide) (by decide) (by decide) (by omega)]; exact c, by rw [z2]; exact e, by rw [z _ _ (by decide) (by decide) (by decide) (by omega)]; exact f, g, i, fun n p hp => ?_⟩
    rw [z _ _ (by decide) (by decide) (by decide) (by omega), z _ _ (by decide) (by decide) (by decide) (by omega)]
    exact j n p hp
  have rw1 : ∀ k, gr_rw t t' k := fun k => ⟨⟨⟨z _ _ (by decide) (by decide) (by decide) (by omega), z _ _ (by decide) (by decide) (by decide) (by omega), z _ _ (by decide) (by decide) (by decide) (by omega), z _ _ (by decide) (by decide) (by decide) (by omega)⟩, by rw [z2]⟩, z _ _ (by decide) (by decide) (by decide) (by omega), fun j _ => ⟨z _ _ (by decide) (by decide) (by decide) (by omega), z _ _ (by decide) (by decide) (by decide) (by omega)⟩⟩
  have z0 : ∀ i, i ≠ 8 → i ≠ 47 → t'.1 0 i = t.1 0 i := fun i a b => z 0 i (by decide) (by decide) (by decide) (fun _ => ⟨a, b⟩)
  exact gr_Y.mk
    (lm := ⟨by rw [z0 _ (by decide) (by decide)]; exact Y.lm.1, by rw [z0 _ (by decide) (by decide)]; exact Y.lm.2.1, by rw [z0 _ (by decide) (by decide)]; exact Y.lm.2.2.1, by rw [z0 _ (by decide) (by decide)]; exact Y.lm.2.2.2⟩)
    (B := ⟨by rw [z0 _ (by decide) (by decide)]; exact Y.B.1, Y.B.2.1, fun i hi => by rw [z _ _ (by decide) (by decide) (by decide) (by omega)]; exact Y.B.2.2 i hi⟩)
    (C := by
      intro c hc
      have y := Y.C c hc
      rw [z _ _ (by decide) (by decide) (by decide) (by omega), z _ _ (by decide) (by decide) (by decide) (by omega), z _ _ (by decide) (by decide) (by decide) (by omega), z _ _ (by decide) (by decide) (by decide) (by omega)]
      cases e : gs_cls K c with
      | none => rw [e] at y; exact y
      | some D =>
        rw [e] at y
        obtain ⟨q1, q2, q3, q4, q5, q6, q7, q8, q9⟩ := y
        refine ⟨q1, q2, by rw [z _ _ (by decide) (by decide) (by decide) (by omega)]; exact q3, by rw [z2]; exact q4, q5, q6, q7, q8, fun j p hp => ?_⟩
        rw [z _ _ (by decide) (by decide) (by decide) (by omega), z _ _ (by decide) (by decide) (by decide) (by omega)]
        exact q9 j p hp)
    (wf := Y.wf)
    (ndK := Y.ndK)
    (pl := by rw [z0 _ (by decide) (by decide)]; exact Y.pl)
    (pn := Y.pn)
    (pp := by
      refine ⟨by rw [z0 _ (by decide) (by decide)]; exact Y.pp.1, fun i o ho => ?_⟩
      exact (Y.pp.2 i o ho).sm gs_kk.refl ⟨fun _ _ _ => by rw [z2], fun q i hq => z q i hq.2.2.1 hq.2.2.2 hq.2.1 (by omega)⟩)
    (hh := by
      refine ⟨by rw [z0 _ (by decide) (by decide)]; exact Y.hh.1, Y.hh.2.1, Y.hh.2.2.1, fun i w hi hw => ?_⟩
      have e := Y.hh.2.2.2 i w hi hw
      unfold gr_enn at e ⊢
      rw [z 16 i (by decide) (by decide) (by decide) (by omega), z 17 i (by decide) (by decide) (by decide) (by omega)]
      rcases e with e | ⟨a, b, c, d⟩ | e | e
      · exact Or.inl e
      · exact Or.inr (Or.inl ⟨a, b, c, d.rw (fun q _ => rw1 q)⟩)
      · exact Or.inr (Or.inr (Or.inl e))
      · exact Or.inr (Or.inr (Or.inr e)))
    (xb := Y.xb)
    (u := by rw [z0 _ (by decide) (by decide)]; exact Y.u)
    (ub := Y.ub)
    (n := by rw [z0 _ (by decide) (by decide)]; exact Y.n)
    (nb := Y.nb)
    (dj := by
      intro i j oi oj hij hi hj si sj
      rw [z 13 i (by decide) (by decide) (by decide) (by omega), z 13 j (by decide) (by decide) (by decide) (by omega)]
      exact Y.dj i j oi oj hij hi hj si sj)
    (hin := Y.hin)
    (lok := Y.lok)
    (hb := Y.hb)
    (eb := Y.eb)
/-- what the outermost read leaves -/
def gr_Z0 (K : gs_K) (t0 : gr_t) (s0 : gs_S) (us0 nd0 : Nat) (v : Int32) (s' : gs_S) (t' : gr_t) : Prop := (∃ us nd, gr_Y (fun _ => False) 0 us nd t' K s') ∧ (t'.1 0 8 = 0 ∧ t'.1 0 47 = nI 0) ∧ t'.1 0 9 = v ∧ gr_kp (gs_hp s0).length us0 nd0 t0 t'
theorem gr_rset (hK : gs_kor K) (hd : 12 ≤ d) : ∀ (k us nd : Nat) (t : gr_t) (s : gs_S), gr_Y (fun _ => False) 0 us nd t K s → t.1 0 8 = 0 → t.1 0 47 = nI 1 → (t.1 28 0 = 1 ∧ t.1 29 0 = 0 ∧ t.1 30 0 = nI 1) → gs_size s ≤ 60 → gs_n K < gs_pl s + k → gr_kp (gs_hp s0).length us0 nd0 t0 t → us0 ≤ us ∧ nd0 ≤ nd → (gs_hp s0).length ≤ (gs_hp s).length → gr_Rn E d h m (gr_E t0 s0 us0 nd0 (gs_b (gs_reset K k) (fun _ => gs_rc K 8) s) (gr_Z0 K t0 s0 us0 nd0)) t := by
  intro k
  induction k with
  | zero => intro us nd t s Y h8 h47 hf h60 hk; have := Y.pn; omega
  | succ k ih =>
    intro us nd t s Y h8 h47 hf h60 hk K0 g0 hl
    have n7 := Y.n7
    have pn := Y.pn
    obtain ⟨-, -, -, i121⟩ := gr_by (K := K) (i := gs_pl s)
    by_cases c : gs_pl s < gs_n K ∧ gs_sb K (gs_pl s) = 121
    · have er : gs_b (gs_reset K (k + 1)) (fun _ => gs_rc K 8) s = gs_b (gs_reset K k) (fun _ => gs_rc K 8) (gs_pl s + 1, gs_hp s, gs_hs s, (gs_hs s).length) := by
        refine gs_b_cg ?_
        show (if gs_pl s < gs_n K ∧ gs_sb K (gs_pl s) = 121 then _ else _) = _
        rw [if_pos c]
      rw [er]
      have eb := Y.B.2.2 _ c.1
      rw [i121.mpr c.2] at eb
      have c8 : ¬ 8 < t.1 30 0 := by rw [hf.2.2]; decide
      have n60 : t.1 0 28 ≤ 60 := by rw [Y.hh.1, ← Int32.not_lt]; exact nI_nlt (a := 60) (by omega) (by omega)
      have Y1 := Y.rst c.1
      have f30 : (gr_ui t 0 6 (nI (gs_pl s + 1))).1 30 0 = 1 := by rw [gr_ui_no (by decide), hf.2.2]; rfl
      refine .step (k := 0) h47 (by decide) h8 (gr_sr0 (f := 0) (P := fun t' => t' = gr_ui (gr_ui t 0 6 (nI (gs_pl s + 1))) 0 28 0) (by omega) h47 (by decide) hf.1 hf.2.1 (m_sRpre (by omega) (by decide) c8 n60 h8 Y.B.1 Y.pl n7 c.1 (by rw [eb]; exact m_sR121 (by decide) f30 (gr_ps.ok rfl)))) (fun t1 e1 => ?_)
      have v1 : ∀ q i, (q = 0 → i ≠ 6 ∧ i ≠ 28) → t1.1 q i = t.1 q i := fun q i h0 => by
        rw [e1]
        by_cases e0 : q = 0
        · rw [gr_ui_ni (h0 e0).2, gr_ui_ni (h0 e0).1]
        · rw [gr_ui_no e0, gr_ui_no e0]
      rw [← e1] at Y1
      refine ih us nd t1 _ Y1 (by rw [v1 0 8 (by decide)]; exact h8) (by rw [v1 0 47 (by decide)]; exact h47) ⟨by rw [v1 28 0 (by decide)]; exact hf.1, by rw [v1 29 0 (by decide)]; exact hf.2.1, by rw [v1 30 0 (by decide)]; exact hf.2.2⟩ ?_ ?_ ?_ g0 hl
      · show (gs_hs s).length - (gs_hs s).length ≤ 60; omega
      · show gs_n K < gs_pl s + 1 + k; omega
      · rw [e1]; exact (K0.ui (by unfold gr_pr; omega)).ui (by unfold gr_pr; omega)
    · have er : gs_reset K (k + 1) s = .ok ((), s) := by
        show (if gs_pl s < gs_n K ∧ gs_sb K (gs_pl s) = 121 then _ else _) = _
        rw [if_neg c]
      rw [gs_b_ok er]
      have RC := gr_rc (E := E) (h := h) (m := m) (d := d) hK hd 8 (Nat.le_refl _)
      refine (RC (fun _ => False) 0 us nd 0 t s Y h8 h47 hf (by omega) (fun _ z y => c ⟨z, i121.mp y⟩)).mono (fun t1 x1 => ?_)
      cases e8 : gs_rc K 8 s with
      | error x => rw [e8] at x1; exact gr_F.from x1 K0 hl g0.1 g0.2
      | ok w =>
        rw [e8] at x1
        obtain ⟨us', nd', g1, Y1, g2, g3, g6, g4, g5, v, -⟩ := x1
        exact ⟨⟨us', nd', Y1⟩, g2, v, K0.trans (g4.wk hl g0.1 g0.2)⟩
theorem gr_outr (hK : gs_kor K) (hd : 12 ≤ d) (Y : gr_Y (fun _ => False) 0 us nd t K s) (h8 : t.1 0 8 = 0) (h47 : t.1 0 47 = nI 1) (hf : t.1 28 0 = 1 ∧ t.1 29 0 = 0 ∧ t.1 30 0 = nI 1) : gr_Rn E d h m (gr_E t s us nd (gs_out K s) (gr_Z0 K t s us nd)) t := by
  have n7 := Y.n7
  have pn := Y.pn
  unfold gs_out
  by_cases c60 : 60 < gs_size s
  · have er : gs_room 1 s = .error (-8) := by unfold gs_room; rw [if_pos (Or.inr c60)]
    have n60 : ¬ t.1 0 28 ≤ 60 := by rw [Y.hh.1, Int32.not_le]; exact nI_lt (a := 60) c60 (by have := Y.hh.2.1; omega)
    refine .step (k := 0) h47 (by decide) h8 (gr_sr0 (f := 0) (P := fun t' => t' = gr_ui t 0 8 (-8)) (by omega) h47 (by decide) hf.1 hf.2.1 (gm_Ca.mono (m_sRfar (by omega) (by decide) (Or.inr n60) h8) (fun r h' q => gr_ps.v (P := fun t' => t' = gr_ui t 0 8 (-8)) rfl rfl q))) (fun t1 e1 => ?_)
    subst e1
    exact .done (gr_E.er (gs_b_er er) (gr_F.ui (by decide) gr_kp.refl))
  · have er : gs_room 1 s = .ok ((), s) := by unfold gs_room; rw [if_neg (by omega)]
    rw [gs_b_ok er]
    exact gr_rset hK hd 701 us nd t s Y h8 h47 hf (by omega) (by omega) gr_kp.refl ⟨Nat.le_refl _, Nat.le_refl _⟩ (Nat.le_refl _)
/-- the loop of read -/
theorem m_rdL {lv1 lv2 lv3 lv4 lv5 lv6 : Value} (hd : 1 ≤ d) (w : gr_Rn E (d - 1) h m P t) (k : ∀ t', P t' → gm_W E d 46 103 [.ref m, lv1, lv2, lv3, lv4, lv5, lv6] [] (gr_H h m t') Q) : gm_W E d 46 103 [.ref m, lv1, lv2, lv3, lv4, lv5, lv6] [] (gr_H h m t) Q := by
  refine w (fun t => gm_W E d 46 103 [.ref m, lv1, lv2, lv3, lv4, lv5, lv6] [] (gr_H h m t) Q) k (fun t P1 k h47 hk h8 st go => ?_)
  have c1 : ¬ nI (k + 1) ≤ 0 := by rw [Int32.not_le]; exact nI_lt (a := 0) (by omega) (by omega)
  rw [r46_103]
  simp only [r46_0, r46_0n, r46_1, r46_4, r46_7, r46_7n, r46_8, r46_11, r46_12, r46_12n, r46_13, r46_16, r46_17, r46_17n, r46_18, r46_21, r46_22, r46_22n, r46_23, r46_26, r46_27, r46_27n, r46_28, r46_31, r46_33, r46_33n, r46_34, r46_37, r46_39, r46_40, r46_42, r46_44, r46_44n, r46_45, r46_48, r46_51, r46_51n, r46_52, r46_55, r46_57, r46_57n, r46_58, r46_61, r46_63, r46_64, r46_65, r46_65n, r46_66, r46_69, r46_71, r46_71n, r46_72, r46_75, r46_77, r46_78, r46_79, r46_82, r46_85, r46_85n, r46_86, r46_87, r46_90, r46_90n, r46_91, r46_92, r46_95, r46_95n, r46_96, r46_97, r46_98, r46_99, r46_104, r46_107, r46_110, r46_110n, r46_111, r46_114, r46_117, r46_117n, r46_121, r46_124, r46_124n, r46_125, r46_128, r46_131, r46_131n, r46_132, r46_135, r46_136, r46_136n, r46_137, r46_138, r46_141, r46_141n, r46_142, r46_143, r46_146, r46_146n, r46_147, r46_148, r46_151, r46_151n, r46_152, r46_154, r46_157, r46_157n, r46_158, r46_160, r46_163, r46_164, r46_166, r46_168, r46_168n, r46_169, r46_172, r46_175, r46_175n, r46_176, r46_179, r46_181, r46_181n, r46_182, r46_185, r46_187, r46_188, r46_189, r46_189n, r46_190, r46_193, r46_195, r46_195n, r46_196, r46_199, r46_201, r46_202, r46_203, r46_206, r46_209, r46_209n, r46_210, r46_213, r46_215, r46_218, r46_218n, r46_219, r46_219n, r46_220, r46_223, r46_226, r46_226n, r46_227, r46_230, i32_10, reduceIte, gm_cmp1, gm_cmp3, gm_cmp4, gm_kd_sf, gm_ln_sf, gm_sf_1, gm_sf_2, gm_nw_1, gm_nw_2, gm_k_int, gm_k_ref, gm_k_null, gm_k_u, gm_k_long, and_true, true_and, true_or, or_true, or_false, false_or, and_self, or_self, if_true, if_false, List.map_nil, List.map_cons, List.sum_nil, List.sum_cons, Nat.zero_le, Option.toList_some, Option.toList_none, List.cons_append, List.nil_append, ne_eq, not_false_eq_true, not_true_eq_false, nI_1, nI_add, Value.category, Nat.reduceAdd, Nat.reduceMod, Nat.reduceLeDiff, Nat.reduceLT, Nat.reduceEqDiff, Nat.reducePow, Nat.le_refl, Nat.add_left_cancel_iff, Nat.add_eq_left, Nat.left_eq_add, Nat.add_zero, g_k0, g_k1, g_l1, g_p4, g_a1, g_w1, g_k2, g_l2, g_p10, g_a2, g_w2, g_k3, g_l3, g_p11, g_a3, g_w3, g_k4, g_l4, g_p12, g_a4, g_w4, g_k5, g_l5, g_p13, g_a5, g_w5, g_k6, g_l6, g_p14, g_a6, g_w6, g_k7, g_l7, g_p15, g_a7, g_w7, g_k8, g_l8, g_p16, g_a8, g_w8, g_k9, g_l9, g_p17, g_a9, g_w9, g_k10, g_l10, g_p18, g_a10, g_w10, g_k11, g_l11, g_p19, g_a11, g_w11, g_k12, g_l12, g_p20, g_a12, g_w12, g_k13, g_l13, g_p21, g_a13, g_w13, g_k14, g_l14, g_p22, g_a14, g_w14, g_k15, g_l15, g_p24, g_a15, g_w15, g_k16, g_l16, g_p26, g_a16, g_w16, g_k17, g_l17, g_p27, g_a17, g_w17, g_k18, g_l18, g_p29, g_a18, g_w18, g_k19, g_l19, g_p30, g_a19, g_w19, g_k20, g_l20, g_p31, g_a20, g_w20, g_k21, g_l21, g_p32, g_a21, g_w21, g_k22, g_l22, g_p33, g_a22, g_w22, g_k23, g_l23, g_p34, g_a23, g_w23, g_k24, g_l24, g_p35, g_a24, g_w24, g_k25, g_l25, g_p36, g_a25, g_w25, g_k26, g_l26, g_p37, g_a26, g_w26, g_k27, g_l27, g_p38, g_a27, g_w27, g_k28, g_l28, g_p40, g_a28, g_w28, g_k29, g_l29, g_p41, g_a29, g_w29, g_k30, g_l30, g_p42, g_a30, g_w30, g_k31, g_l31, g_p43, g_a31, g_w31, g_k32, g_l32, g_p44, g_a32, g_w32, g_k33, g_l33, g_p45, g_a33, g_w33, g_k34, g_l34, g_p46, g_a34, g_w34, g_f0, g_s0, g_f1, g_s1, g_f2, g_s2, g_f3, g_s3, g_f5, g_s5, g_f6, g_s6, g_f7, g_s7, g_f8, g_s8, g_f9, g_s9, g_f23, g_s23, g_f25, g_s25, g_f28, g_s28, g_f39, g_s39, g_f47, g_s47, gr_ui_eq, gr_ui_2, gr_ul_eq, gr_ul_1, gr_ui_no, gr_ui_ni, gr_ul_no, gr_ul_ni, h47, c1, h8]
  refine c46_118 (by simp) g_k0 (by omega) st (gr_kn (fun t' q => ?_)) gr_kx
  have g := go t' q
  simp only [r46_0, r46_0n, r46_1, r46_4, r46_7, r46_7n, r46_8, r46_11, r46_12, r46_12n, r46_13, r46_16, r46_17, r46_17n, r46_18, r46_21, r46_22, r46_22n, r46_23, r46_26, r46_27, r46_27n, r46_28, r46_31, r46_33, r46_33n, r46_34, r46_37, r46_39, r46_40, r46_42, r46_44, r46_44n, r46_45, r46_48, r46_51, r46_51n, r46_52, r46_55, r46_57, r46_57n, r46_58, r46_61, r46_63, r46_64, r46_65, r46_65n, r46_66, r46_69, r46_71, r46_71n, r46_72, r46_75, r46_77, r46_78, r46_79, r46_82, r46_85, r46_85n, r46_86, r46_87, r46_90, r46_90n, r46_91, r46_92, r46_95, r46_95n, r46_96, r46_97, r46_98, r46_99, r46_104, r46_107, r46_110, r46_110n, r46_111, r46_114, r46_117, r46_117n, r46_121, r46_124, r46_124n, r46_125, r46_128, r46_131, r46_131n, r46_132, r46_135, r46_136, r46_136n, r46_137, r46_138, r46_141, r46_141n, r46_142, r46_143, r46_146, r46_146n, r46_147, r46_148, r46_151, r46_151n, r46_152, r46_154, r46_157, r46_157n, r46_158, r46_160, r46_163, r46_164, r46_166, r46_168, r46_168n, r46_169, r46_172, r46_175, r46_175n, r46_176, r46_179, r46_181, r46_181n, r46_182, r46_185, r46_187, r46_188, r46_189, r46_189n, r46_190, r46_193, r46_195, r46_195n, r46_196, r46_199, r46_201, r46_202, r46_203, r46_206, r46_209, r46_209n, r46_210, r46_213, r46_215, r46_218, r46_218n, r46_219, r46_219n, r46_220, r46_223, r46_226, r46_226n, r46_227, r46_230, i32_10, reduceIte, gm_cmp1, gm_cmp3, gm_cmp4, gm_kd_sf, gm_ln_sf, gm_sf_1, gm_sf_2, gm_nw_1, gm_nw_2, gm_k_int, gm_k_ref, gm_k_null, gm_k_u, gm_k_long, and_true, true_and, true_or, or_true, or_false, false_or, and_self, or_self, if_true, if_false, List.map_nil, List.map_cons, List.sum_nil, List.sum_cons, Nat.zero_le, Option.toList_some, Option.toList_none, List.cons_append, List.nil_append, ne_eq, not_false_eq_true, not_true_eq_false, nI_1, nI_add, Value.category, Nat.reduceAdd, Nat.reduceMod, Nat.reduceLeDiff, Nat.reduceLT, Nat.reduceEqDiff, Nat.reducePow, Nat.le_refl, Nat.add_left_cancel_iff, Nat.add_eq_left, Nat.left_eq_add, Nat.add_zero]
  exact g
/-- copies of the handles -/
def gr_cp (t : gr_t) : Nat → gr_t
  | 0 => t
  | k + 1 => gr_ui (gr_ui (gr_cp t k) 18 k (t.1 16 k)) 19 k (t.1 17 k)
def gr_rs (t : gr_t) : Nat → gr_t
  | 0 => t
  | k + 1 => gr_ui (gr_ui (gr_rs t k) 16 k (t.1 18 k)) 17 k (t.1 19 k)
theorem gr_cp_v {q i : Nat} (hq : q ≠ 18 ∧ q ≠ 19) : ∀ n, (gr_cp t n).1 q i = t.1 q i
  | 0 => rfl
  | n + 1 => by
    show (gr_ui (gr_ui (gr_cp t n) 18 n (t.1 16 n)) 19 n (t.1 17 n)).1 q i = _
    rw [gr_ui_no hq.2, gr_ui_no hq.1, gr_cp_v hq n]
theorem gr_cp_2 : ∀ n, (gr_cp t n).2 = t.2
  | 0 => rfl
  | n + 1 => gr_cp_2 n
theorem gr_cp_in : ∀ n i, i < n → (gr_cp t n).1 18 i = t.1 16 i ∧ (gr_cp t n).1 19 i = t.1 17 i
  | 0, i, hi => absurd hi (Nat.not_lt_zero i)
  | n + 1, i, hi => by
    show (gr_ui (gr_ui (gr_cp t n) 18 n (t.1 16 n)) 19 n (t.1 17 n)).1 18 i = _ ∧ (gr_ui (gr_ui (gr_cp t n) 18 n (t.1 16 n)) 19 n (t.1 17 n)).1 19 i = _
    by_cases z : i = n
    · subst z
      rw [gr_ui_no (by decide), gr_ui_eq, gr_ui_eq]
      exact ⟨rfl, rfl⟩
    · rw [gr_ui_no (by decide), gr_ui_ni z, gr_ui_ni z, gr_ui_no (by decide)]
      exact gr_cp_in n i (by omega)
theorem gr_rs_v {q i : Nat} (hq : q ≠ 16 ∧ q ≠ 17) : ∀ n, (gr_rs t n).1 q i = t.1 q i
  | 0 => rfl
  | n + 1 => by
    show (gr_ui (gr_ui (gr_rs t n) 16 n (t.1 18 n)) 17 n (t.1 19 n)).1 q i = _
    rw [gr_ui_no hq.2, gr_ui_no hq.1, gr_rs_v hq n]
theorem gr_rs_2 : ∀ n, (gr_rs t n).2 = t.2
  | 0 => rfl
  | n + 1 => gr_rs_2 n
theorem gr_rs_in : ∀ n i, i < n → (gr_rs t n).1 16 i = t.1 18 i ∧ (gr_rs t n).1 17 i = t.1 19 i
  | 0, i, hi => absurd hi (Nat.not_lt_zero i)
  | n + 1, i, hi => by
    show (gr_ui (gr_ui (gr_rs t n) 16 n (t.1 18 n)) 17 n (t.1 19 n)).1 16 i = _ ∧ (gr_ui (gr_ui (gr_rs t n) 16 n (t.1 18 n)) 17 n (t.1 19 n)).1 17 i = _
    by_cases z : i = n
    · subst z
      rw [gr_ui_no (by decide), gr_ui_eq, gr_ui_eq]
      exact ⟨rfl, rfl⟩
    · rw [gr_ui_no (by decide), gr_ui_ni z, gr_ui_ni z, gr_ui_no (by decide)]
      exact gr_rs_in n i (by omega)
end NX
