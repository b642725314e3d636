/-! THE REFERENCE, 53: the fields of a level. -/
section NQ
variable {X N : Nat → Prop} {E : Nat → Value} {d m f n p dp c us nd k e o r j cnt hb ub nb B pp at_ ca us0 nd0 : Nat} {h : gm_H} {t t' t0 t1 : gr_t} {K : gs_K} {s s' s'' s0 : gs_S} {rc : gs_M Int32} {P : gr_t → Prop} {l : gs_L} {L : List gs_L} {Q : gm_R → gm_H → Prop} {leaf st : Int32} {cc : Option Nat}
theorem gr_chn.tys : ∀ (L : List gs_L) (i : Int32), gr_chn N t K L i → ∀ l, l ∈ L → gs_tys l
  | [], _, _, l, hl => by cases hl
  | a :: L, i, ⟨k, _, _, k2, k3⟩, l, hl => by
    rcases List.mem_cons.mp hl with z | z
    · rw [z]; exact k2.2
    · exact gr_chn.tys L _ k3 l z
/-- how a step of the machine hangs on the frame of data -/
theorem gr_std (hd : 1 ≤ d) (h47 : t.1 0 47 = nI (f + 1)) (hf : f < 80) (h28 : t.1 28 f = 3) (c : gm_Ca E (d - 1) 41 [.ref m, .int (nI f)] (gr_H h m t) (gr_ps h m P)) : gr_st E d h m t P := gr_st3 hd h47 hf h28 c
theorem gr_BB.step {us1 nd1 : Nat} {s1 : gs_S} (b : gr_BB t0 s0 us0 nd0 f us nd t s) (h1 : us ≤ us1 ∧ nd ≤ nd1) (F : gr_fr f t t1) (E1 : gr_eh (gs_size s) t t1) (K1 : gr_kp (gs_hp s0).length us0 nd0 t t1) (ap : gs_ap s0 s1) (hs : gs_hs s <+: gs_hs s1 ∧ gs_f1 s1 = gs_f1 s) : gr_BB t0 s0 us0 nd0 f us1 nd1 t1 s1 := by
  have le : gs_size s ≤ gs_size s1 := by have := hs.1.length_le; have := hs.2; unfold gs_size; omega
  obtain ⟨hv, hp⟩ := b.2.2.1.2.2
  exact ⟨⟨by have := b.1.1; omega, by have := b.1.2; omega⟩, b.2.1.trans F, ⟨b.2.2.1.1.trans (E1.wk (by have := b.2.2.1.2.1; omega)), by have := b.2.2.1.2.1; omega, hv, hp.trans hs.1⟩, b.2.2.2.1.trans K1, ap⟩
/-- after an assignment (u: the heap behind it): one field further -/
theorem gr_DI.asg {q : Int32 × Int32} {v : Int64} {jn : Nat} {sn : Int32} {ta t2 : gr_t} (hat : us0 ≤ at_) (ha : at_ < 2 ^ 31) (ho0 : (gs_hp s0).length ≤ o) (I : (gr_Y X c us nd ta K s ∧ ta.1 0 8 = 0 ∧ ta.1 0 47 = nI (f + 1)) ∧ gr_DF ta f dp o r j leaf st ∧ gr_chn (gr_NX X nd) ta K L leaf ∧ gr_OO K ta s o at_ ca ∧ gr_BB t0 s0 us0 nd0 f us nd ta s ∧ 14 * gs_size s ≤ 14 * (70 - dp) + gs_pl s ∧ 14 * f + 28 ≤ 42 * dp + gs_pl s) (g : gr_asg ta K s at_ l (some ca) q v t1)
    (t2e : ∀ x i, (i = f → x ≠ 34 ∧ x ≠ 29) → t2.1 x i = t1.1 x i) (t22 : t2.2 = t1.2) (t234 : t2.1 34 f = nI jn) (t229 : t2.1 29 f = sn) : gr_E t0 s0 us0 nd0 (gs_wrt K (gs_tg K l (some ca)) o q v s) (fun _ s1 t' => gr_DI K X c f o at_ ca dp leaf L t0 s0 us0 nd0 r jn sn s1 t') t2 := by
  obtain ⟨⟨Y, h8, h47⟩, ⟨f28, f29, f30, f31, f32, f33, f34⟩, ch, OO, BB, hsz, h14⟩ := I
  obtain ⟨B1, B2, B3, B4, B5⟩ := BB
  rcases gr_asg.to Y OO ha g with ⟨s1, w1, Y1, O1, e1, e2, w2, w3, w4⟩ | ⟨w1, e8, e1, e2⟩
  · refine gr_E.ok w1 ⟨us, nd, ⟨?_, ?_, ?_⟩, ⟨?_, t229, ?_, ?_, ?_, ?_, t234⟩, ?_, ⟨O1.1, ?_⟩, ⟨B1, ?_, ?_, ?_, ?_⟩, ?_, ?_⟩
    · refine Y1.hm ⟨fun x i hx _ => t2e x i (fun _ => by omega), t22⟩
    · rw [t2e 0 8 (fun _ => by decide), e1]; exact h8
    · rw [t2e 0 47 (fun _ => by decide), e1]; exact h47
    · rw [t2e 28 f (fun _ => by decide), e1]; exact f28
    · rw [t2e 30 f (fun _ => by decide), e1]; exact f30
    · rw [t2e 31 f (fun _ => by decide), e1]; exact f31
    · rw [t2e 32 f (fun _ => by decide), e1]; exact f32
    · rw [t2e 33 f (fun _ => by decide), e1]; exact f33
    · refine ch.kp (hb := 0) (ub := 0) (nb := nd) ⟨fun x i hx => by rw [t2e x i (fun _ => by unfold gr_pr at hx; omega), e1], fun x i hx => by rw [t22, e2 x i (by unfold gr_prl at hx; omega)]⟩ (fun z hz => hz.1)
    · rw [t2e 13 o (fun _ => by decide)]; exact O1.2
    · intro x i x1 x2 x3
      rw [t2e x i (fun y => by omega), e1]
      exact B2 x i x1 x2 x3
    · refine ⟨fun i hi => ?_, ?_, ?_⟩
      · rw [t2e 17 i (fun _ => by decide), e1]
        exact B3.1 i hi
      · show gs_size s0 < s1.2.2.1.length - s1.2.2.2; rw [w3]; exact B3.2.1
      · obtain ⟨hv, hp⟩ := B3.2.2
        exact ⟨hv, by show _ <+: s1.2.2.1; rw [w3]; exact hp⟩
    · refine B4.trans ⟨fun x i hx => by rw [t2e x i (fun _ => by unfold gr_pr at hx; omega), e1], fun x i hx => by rw [t22, e2 x i (by unfold gr_prl at hx; omega)]⟩
    · refine ⟨w4 _ B5.1 ho0, ?_, ?_, ?_⟩
      · show gs_hs s0 <+: s1.2.2.1; rw [w3]; exact B5.2.1
      · show s1.2.2.2 = _; rw [w3]; exact B5.2.2.1
      · show gs_pl s0 ≤ s1.1; rw [w2]; exact B5.2.2.2
    · show 14 * (s1.2.2.1.length - s1.2.2.2) ≤ _ + s1.1; rw [w3, w2]; exact hsz
    · show 14 * f + 28 ≤ 42 * dp + s1.1; rw [w2]; exact h14
  · refine gr_E.er w1 ⟨?_, by decide, ?_⟩
    · rw [t2e 0 8 (fun _ => by decide)]; exact e8
    · refine B4.trans ⟨fun x i hx => ?_, fun x i hx => by rw [t22, e2 x i (by unfold gr_prl at hx; omega)]⟩
      rw [t2e x i (fun _ => by unfold gr_pr at hx; omega), e1 x i (by unfold gr_pr at hx; omega)]
theorem gs_prim_pl {ty : Int32} {v : Int64} {s1 : gs_S} (e : gs_prim K ty s = .ok (v, s1)) (hp : gs_pl s ≤ gs_n K) : s1.2 = s.2 ∧ gs_pl s ≤ gs_pl s1 ∧ gs_pl s1 ≤ gs_n K := by
  unfold gs_prim at e
  cases q1 : gs_nxt K (if ty = 0 ∨ ty = 5 then 1 else if ty = 1 ∨ ty = 4 then 2 else if ty = 2 then 4 else 8) s with
  | error f => rw [gs_b_er q1] at e; cases e
  | ok w =>
    rw [gs_b_ok (a := w.1) (s1 := w.2) q1] at e
    cases e
    have g1 := (gs_nxt_eq (v := w.1) (s1 := w.2) q1).2
    have g2 := gs_nxt_ok (v := w.1) (s1 := w.2) q1
    rw [g1]
    refine ⟨rfl, Nat.le_add_right _ _, ?_⟩
    show gs_pl s + _ ≤ gs_n K
    omega
theorem gr_vals (RC : gr_RC E d h m K (dp + 1) rc) (hd : 12 ≤ d) (hdp : 1 ≤ dp ∧ dp ≤ 8) (hca : ca < 6 ∧ (gs_cls K ca).isSome = true) (hat : us0 ≤ at_) (ha : at_ < 2 ^ 31) (ho0 : (gs_hp s0).length ≤ o) (hL : L.length ≤ 1000) (hl : L.reverse[r]? = some l) : ∀ (fs : List (Int32 × Int32)) (j : Nat) (s : gs_S) (t : gr_t), (gs_df l).drop j = fs → gr_DI K X c f o at_ ca dp leaf L t0 s0 us0 nd0 r j 0 s t → gr_Rn E d h m (gr_E t0 s0 us0 nd0 (gs_vals K rc (gs_tg K l (some ca)) o fs s) (fun _ s1 t' => gr_DI K X c f o at_ ca dp leaf L t0 s0 us0 nd0 r (j + fs.length) 0 s1 t')) t := by
  intro fs
  induction fs with
  | nil =>
    intro j s t hj I
    exact .done I
  | cons q fs ih =>
    intro j s t hj I
    have rl : r < L.length := by
      have := (List.getElem?_eq_some_iff.mp hl).1
      rw [List.length_reverse] at this
      exact this
    have hq : (gs_df l)[j]? = some q := by
      have := List.getElem?_drop (xs := gs_df l) (i := j) (j := 0)
      rw [hj, Nat.add_zero] at this
      exact this.symm
    have hj2 : (gs_df l).drop (j + 1) = fs := by rw [← List.drop_drop, hj]; rfl
    obtain ⟨us, nd, ⟨Y, h8, h47⟩, ⟨f28, f29, f30, f31, f32, f33, f34⟩, ch, OO, BB, hsz, h14⟩ := id I
    have n7 := Y.n7
    have pn := Y.pn
    have nb := Y.nb
    have f79 : f < 79 := by omega
    obtain ⟨o720, ol, o11, oat, oat4⟩ := OO.to Y ha
    have lm : l ∈ L := by
      have := List.mem_of_getElem? hl
      exact List.mem_reverse.mp this
    obtain ⟨ty, ty8, hty⟩ := (gr_chn.tys L _ ch l lm) j q hq
    have hc : ∀ x, some ca = some x → x < 6 ∧ (gs_cls K x).isSome = true := fun x hx => by cases hx; exact hca
    have chh := ch.ch (fun z hz => by have := hz.1; omega)
    have nxt : ∀ s1 t', gr_DI K X c f o at_ ca dp leaf L t0 s0 us0 nd0 r (j + 1) 0 s1 t' → gr_Rn E d h m (gr_E t0 s0 us0 nd0 (gs_vals K rc (gs_tg K l (some ca)) o fs s1) (fun _ s1 t' => gr_DI K X c f o at_ ca dp leaf L t0 s0 us0 nd0 r (j + (q :: fs).length) 0 s1 t')) t' := fun s1 t' I1 => by
      have := ih (j + 1) s1 t' hj2 I1
      rw [show j + 1 + fs.length = j + (q :: fs).length by simp; omega] at this
      exact this
    show gr_Rn E d h m (gr_E t0 s0 us0 nd0 (gs_b (if q.2 < 6 then gs_prim K q.2 else gs_b rc fun v => gs_r v.toInt64) (fun v => gs_b (gs_wrt K (gs_tg K l (some ca)) o q v) fun _ => gs_vals K rc (gs_tg K l (some ca)) o fs) s) _) t
    by_cases t6 : ty < 6
    · have q6 : q.2 < 6 := by rw [hty]; exact nI_lt (b := 6) t6 (by decide)
      rw [if_pos q6]
      refine .step h47 (by omega) h8 (gr_std (P := fun t' => (∃ e t1, gs_prim K q.2 s = .error e ∧ gr_er t t1 e ∧ t' = gr_ui t1 34 f (nI (j + 1))) ∨ ∃ v s1 t1, gs_prim K q.2 s = .ok (v, s1) ∧ gr_asg (gr_ui t 0 6 (nI (gs_pl s1))) K s at_ l (some ca) q v t1 ∧ t' = gr_ui t1 34 f (nI (j + 1))) (by omega) h47 (by omega) f28 (m_dLv (by omega) (by omega) f31 f32 f33 chh hL (by omega) (fun z => absurd z (by omega)) (fun l' k hl' hk D => ?_))) (fun t2 x2 => ?_)
      · rw [hl] at hl'
        cases hl'
        refine m_dP (s := s) (at_ := at_) (cc := some ca) (by omega) (by omega) hk D hq hty t6 f29 f34 h8 Y.B Y.pl pn Y.C Y.wf Y.ndK o720 o11 OO.2 oat4 hc (fun pq => ?_) (fun e t1 e1 e2 => gr_ps.ok (Or.inl ⟨e, t1, e1, e2, rfl⟩)) (fun v s1 t1 e1 e2 => gr_ps.ok (Or.inr ⟨v, s1, t1, e1, e2, rfl⟩))
        exact Y.hp.sm gs_kk.refl ⟨fun _ _ _ => rfl, fun x i hx => (by rw [gr_ui_no (by omega)])⟩ (gr_ui_ni (by decide)) (gr_ui_ni (by decide))
      · rcases x2 with ⟨e, t1, e1, e2, rfl⟩ | ⟨v, s1, t1, e1, e2, rfl⟩
        · refine .done (gr_E.er (gs_b_er e1) ⟨?_, e2.1, ?_⟩)
          · rw [gr_ui_no (by decide)]
            obtain ⟨x0, pp, -, rfl⟩ := e2
            exact gr_ui_eq
          · have F := gr_er.F (hb := (gs_hp s0).length) (ub := us0) (nb := nd0) e2
            exact (BB.2.2.2.1.trans F.2.2).ui (by unfold gr_pr; omega)
        · obtain ⟨p1, p2, p3⟩ := gs_prim_pl e1 pn
          rw [gs_b_ok e1]
          obtain ⟨ta, hta⟩ : ∃ ta, ta = gr_ui t 0 6 (nI (gs_pl s1)) := ⟨_, rfl⟩
          rw [← hta] at e2
          have va : ∀ x i, (x = 0 → i ≠ 6) → ta.1 x i = t.1 x i := fun x i z => by
            rw [hta]
            by_cases e : x = 0
            · rw [gr_ui_ni (z e)]
            · rw [gr_ui_no e]
          have Ya : gr_Y X c us nd ta K s1 := by rw [hta]; exact Y.to (k := 0) p1 (by omega) p3
          have kpa : ∀ hb ub nb, gr_kp hb ub nb t ta := fun hb ub nb => by rw [hta]; exact gr_kp.refl.ui (by unfold gr_pr; omega)
          have hps : gs_hp s1 = gs_hp s := by unfold gs_hp; rw [p1]
          have e2' : gr_asg ta K s1 at_ l (some ca) q v t1 := by
            have es : ∀ x, gs_sort s1 x = gs_sort s x := fun x => by unfold gs_sort; rw [hps]
            unfold gr_asg at e2 ⊢
            rw [es]
            exact e2
          have gE := gr_DI.asg (jn := j + 1) (sn := 0) (t2 := gr_ui t1 34 f (nI (j + 1))) (r := r) (j := j) (st := 0) (dp := dp) (leaf := leaf) (L := L) (t0 := t0) (us0 := us0) (nd0 := nd0) hat ha ho0 ⟨⟨Ya, by rw [va 0 8 (by decide)]; exact h8, by rw [va 0 47 (by decide)]; exact h47⟩, ⟨by rw [va 28 f (by omega)]; exact f28, by rw [va 29 f (by omega)]; exact f29, by rw [va 30 f (by omega)]; exact f30, by rw [va 31 f (by omega)]; exact f31, by rw [va 32 f (by omega)]; exact f32, by rw [va 33 f (by omega)]; exact f33, by rw [va 34 f (by omega)]; exact f34⟩, ch.kp (kpa 0 0 nd) (fun z hz => hz.1), ⟨by rw [hps]; exact OO.1, by rw [va 13 o (by omega)]; exact OO.2⟩, BB.step ⟨Nat.le_refl _, Nat.le_refl _⟩ (fun x i x1 x2 x3 => va x i (by omega)) (fun i hi => va 17 i (by omega)) (kpa _ _ _) ⟨by rw [hps]; exact BB.2.2.2.2.1, by unfold gs_hs; rw [p1]; exact BB.2.2.2.2.2.1, by unfold gs_f1; rw [p1]; exact BB.2.2.2.2.2.2.1, by have := BB.2.2.2.2.2.2.2; omega⟩ ⟨by unfold gs_hs; rw [p1]; exact List.prefix_refl _, by unfold gs_f1; rw [p1]⟩, by unfold gs_size gs_hs gs_f1; rw [p1]; unfold gs_size gs_hs gs_f1 at hsz; omega, by omega⟩ e2' (fun x i z => by
            by_cases e : x = 34
            · subst e; rw [gr_ui_ni (fun y => (z y).1 rfl)]
            · rw [gr_ui_no e]) rfl gr_ui_eq (by
              rw [gr_ui_no (by decide)]
              rcases e2' with ⟨-, rfl⟩ | ⟨i, -, -, ⟨-, rfl⟩ | ⟨-, rfl⟩⟩
              · rw [va 29 f (by omega)]; exact f29
              · show ta.1 29 f = 0; rw [va 29 f (by omega)]; exact f29
              · show (gr_ui ta 0 8 (-6)).1 29 f = 0; rw [gr_ui_no (by decide), va 29 f (by omega)]; exact f29)
          exact gE.seq (fun _ s2 _ I2 => nxt s2 _ I2)
    · have q6 : ¬ q.2 < 6 := by rw [hty]; exact nI_nlt (a := ty) (b := 6) (by omega) (by omega)
      have q5 : ¬ q.2 ≤ 5 := by rw [hty, Int32.not_le]; exact nI_lt (a := 5) (by omega) (by omega)
      rw [if_neg q6, gs_bb]
      refine .step h47 (by omega) h8 (gr_std (P := fun t' => t' = gr_push (gr_ui t 29 f 1) (f + 1) 1 (nI (dp + 1)) 0 0) (by omega) h47 (by omega) f28 (m_dLv (by omega) (by omega) f31 f32 f33 chh hL (by omega) (fun z => absurd z (by omega)) (fun l' k hl' hk D => ?_))) (fun t2 x2 => ?_)
      · rw [hl] at hl'
        cases hl'
        exact m_dR (by omega) f79 hk D hq f29 f30 f34 h47 q5 (gr_ps.ok rfl)
      · obtain ⟨p1, p2, p3, p4, p5, p6, p7, p8, p9⟩ := gr_push_fr (t := gr_ui t 29 f 1) (tp := f + 1) (k := 1) (dd := nI (dp + 1)) (a := 0) (b := 0)
        rw [← x2] at p1 p2 p3 p4 p5 p6 p7 p8 p9
        have hm2 : gr_hm t t2 := by rw [x2]; exact (gr_hm.refl.ui (by omega)).push
        have fr2 : gr_fr (f + 1) (gr_ui t 29 f 1) t2 := by rw [x2]; exact gr_fr.refl.push (Nat.le_refl _)
        refine (RC X c us nd (f + 1) t2 s (Y.hm hm2) (p9.trans (by rw [gr_ui_no (by decide)]; exact h8)) p8 ⟨p1, p2, p3⟩ (by omega) (fun z => by omega)).bind (fun t3 q3 => ?_)
        cases er : rc s with
        | error x =>
          rw [er] at q3
          refine .done (gr_E.er (gs_b_er er) (gr_F.from q3 (BB.2.2.2.1.trans hm2.kp) BB.2.2.2.2.len BB.1.1 BB.1.2))
        | ok w =>
          rw [er] at q3
          obtain ⟨us3, nd3, g1, Y3, ⟨g8, g47⟩, g3, g6, g4, g5, v1, v2, v3, v4⟩ := q3
          rw [gs_b_ok (a := w.1) (s1 := w.2) er]
          have ff : ∀ x, 28 ≤ x → x ≤ 34 → t3.1 x f = (gr_ui t 29 f 1).1 x f := fun x x1 x2 => (g3 x f x1 x2 (by omega)).trans (fr2 x f x1 x2 (by omega))
          have j28 : t3.1 28 f = 3 := by rw [ff 28 (by omega) (by omega), gr_ui_no (by decide)]; exact f28
          have j29 : t3.1 29 f = 1 := by rw [ff 29 (by omega) (by omega), gr_ui_eq]
          have j30 : t3.1 30 f = nI dp := by rw [ff 30 (by omega) (by omega), gr_ui_no (by decide)]; exact f30
          have j31 : t3.1 31 f = nI o := by rw [ff 31 (by omega) (by omega), gr_ui_no (by decide)]; exact f31
          have j32 : t3.1 32 f = leaf := by rw [ff 32 (by omega) (by omega), gr_ui_no (by decide)]; exact f32
          have j33 : t3.1 33 f = nI r := by rw [ff 33 (by omega) (by omega), gr_ui_no (by decide)]; exact f33
          have j34 : t3.1 34 f = nI j := by rw [ff 34 (by omega) (by omega), gr_ui_no (by decide)]; exact f34
          have ch3 : gr_chn (gr_NX X nd3) t3 K L leaf := ((ch.kp (hm2.kp (hb := 0) (ub := 0) (nb := nd)) (fun z hz => hz.1)).kp g4 (fun z hz => hz.1)).up (fun z hz => ⟨by have := hz.1; omega, hz.2⟩)
          have nb3 := Y3.nb
          have pn3 := Y3.pn
          have O3 : gr_OO K t3 w.2 o at_ ca := by
            obtain ⟨⟨y, y1, y2⟩, y3⟩ := OO
            refine ⟨⟨y, gs_pre_get g5.1 y1, y2⟩, ?_⟩
            rw [g4.1 13 o (by unfold gr_pr; omega), hm2.1 13 o (by decide) (fun z => absurd z (by decide))]
            exact y3
          obtain ⟨o720', ol', o11', oat', oat4'⟩ := O3.to Y3 ha
          have BB3 : gr_BB t0 s0 us0 nd0 f us3 nd3 t3 w.2 := by
            refine BB.step g1 (fun x i x1 x2 x3 => ?_) (hm2.eh.trans g6) (hm2.kp.trans (g4.wk BB.2.2.2.2.len BB.1.1 BB.1.2)) (BB.2.2.2.2.trans g5) ⟨g5.2.1, g5.2.2.1⟩
            rw [g3 x i x1 x2 (by omega), fr2 x i x1 x2 (by omega), gr_ui_ni (by omega)]
          have chh3 := ch3.ch (fun z hz => by have := hz.1; omega)
          show gr_Rn E d h m (gr_E t0 s0 us0 nd0 (gs_b (gs_wrt K (gs_tg K l (some ca)) o q w.1.toInt64) (fun _ => gs_vals K rc (gs_tg K l (some ca)) o fs) w.2) _) t3
          refine .step g47 (by omega) g8 (gr_std (P := fun t' => ∃ t1, gr_asg t3 K w.2 at_ l (some ca) q w.1.toInt64 t1 ∧ t' = gr_ui (gr_ui t1 34 f (nI (j + 1))) 29 f 0) (by omega) g47 (by omega) j28 (m_dLv (by omega) (by omega) j31 j32 j33 chh3 hL (by omega) (fun z => absurd z (by omega)) (fun l' k hl' hk D => ?_))) (fun t4 x4 => ?_)
          · rw [hl] at hl'
            cases hl'
            exact m_dA (s := w.2) (at_ := at_) (cc := some ca) (by omega) (by omega) hk D hq j29 j34 g8 v1 Y3.C Y3.wf Y3.ndK o720' o11' O3.2 oat4' hc Y3.hp v2 (fun t1 g => gr_ps.ok ⟨t1, g, rfl⟩)
          · obtain ⟨t1, x5, rfl⟩ := x4
            have gE := gr_DI.asg (jn := j + 1) (sn := 0) (t2 := gr_ui (gr_ui t1 34 f (nI (j + 1))) 29 f 0) (r := r) (j := j) (st := 1) (dp := dp) (leaf := leaf) (L := L) (t0 := t0) (us0 := us0) (nd0 := nd0) hat ha ho0 ⟨⟨Y3, g8, g47⟩, ⟨j28, j29, j30, j31, j32, j33, j34⟩, ch3, O3, BB3, by omega, by omega⟩ x5 (fun x i z => by
              have u : ∀ (t : gr_t) (o2 : Nat) (y : Int32), (o2 = 34 ∨ o2 = 29) → (gr_ui t o2 f y).1 x i = t.1 x i := fun t o2 y ho => by
                by_cases e : x = o2
                · rw [gr_ui_ni (fun y => by have := z y; omega)]
                · rw [gr_ui_no e]
              rw [u _ _ _ (Or.inr rfl), u _ _ _ (Or.inl rfl)]) rfl (by rw [gr_ui_no (by decide), gr_ui_eq]) gr_ui_eq
            exact gE.seq (fun _ s2 _ I2 => nxt s2 _ I2)
end NQ
