/-! THE REFERENCE, 42: descriptors above one another. -/
/-- the descriptor of a handle -/
def gs_dM (e : Nat) : gs_M (List gs_L) := fun s => match ((gs_hs s).getD e (-1, [])).2 with
  | [] => .error (-4)
  | l :: L => .ok (l :: L, s)
def gs_dU (K : gs_K) (rc : gs_M Int32) : Option (gs_M (List gs_L)) → gs_M (List gs_L)
  | none => gs_x (-4)
  | some u => gs_dT K rc u
/-- behind the tag b -/
def gs_dG (K : gs_K) (rc : gs_M Int32) (up : Option (gs_M (List gs_L))) (b : Int32) : gs_M (List gs_L) := if b = 112 then gs_r [] else if b = 113 then gs_b (gs_ent K) gs_dM else if b ≠ 114 then gs_x (-4) else gs_dU K rc up
theorem gs_dsc1_G {K : gs_K} {rc : gs_M Int32} {up : Option (gs_M (List gs_L))} : gs_dsc1 K rc up = gs_b (gs_u1 K) (gs_dG K rc up) := by
  cases up <;> rfl
section NF
variable {X N : Nat → Prop} {E : Nat → Value} {d m f n p dp c us nd k e j cnt hb ub nb B pp : Nat} {h : gm_H} {t t' : gr_t} {K : gs_K} {s s' s'' : gs_S} {rc : gs_M Int32} {P : gr_t → Prop} {l : gs_L} {Q : gm_R → gm_H → Prop}
theorem gr_dsc1 (RC : gr_RC E d h m K (dp + 1) rc) (hK : gs_rst K = true) (hd : 12 ≤ d) (hdp : 1 ≤ dp ∧ dp ≤ 8) (hB : 14 * (69 - dp) ≤ B) (hB2 : B ≤ 980) {up : Option (gs_M (List gs_L))} (hu : (up = none ∧ pp = 9) ∨ ∃ u, up = some u ∧ pp ≤ 8 ∧ gr_DS E d h m K dp B (pp + 1) u) : gr_DS E d h m K dp B pp (gs_dsc1 K rc up) := by
  intro X c us nd f t s Y h8 h47 hf h14 hsz
  obtain ⟨f28, f29, f30, f31, h33⟩ := hf
  have n7 := Y.n7
  have pn := Y.pn
  have f79 : f < 79 := by omega
  have pp9 : pp ≤ 9 := by
    rcases hu with z | ⟨u, -, z, -⟩
    · omega
    · omega
  rcases Nat.lt_or_ge (gs_pl s) (gs_n K) with z | z
  · have Y1 := Y.place (k := 1) (by omega)
    obtain ⟨t1, ht1⟩ : ∃ t1, t1 = gr_ui t 0 6 (nI (gs_pl s + 1)) := ⟨_, rfl⟩
    rw [← ht1] at Y1
    have a8 : t1.1 0 8 = 0 := by rw [ht1, gr_ui_ni (by decide)]; exact h8
    have a47 : t1.1 0 47 = nI (f + 1) := by rw [ht1, gr_ui_ni (by decide)]; exact h47
    have a31 : t1.1 31 f = nI pp := by rw [ht1, gr_ui_no (by decide)]; exact f31
    have kp1 : gr_kp (gs_hp s).length us nd t t1 := by rw [ht1]; exact gr_kp.refl.ui (by unfold gr_pr; omega)
    have fr1 : gr_fr f t t1 := by rw [ht1]; exact gr_fr.refl.ui (by omega)
    have eh1 : gr_eh (gs_size s) t t1 := by rw [ht1]; exact gr_eh.refl.ui (by omega)
    have ef4 : gr_fl t1 (-4) = gr_ui t1 0 8 (-4) := by unfold gr_fl; rw [if_pos a8]
    have eb := Y.B.2.2 _ z
    obtain ⟨b, hb⟩ : ∃ b, b = gs_sb K (gs_pl s) &&& 255 := ⟨_, rfl⟩
    rw [← hb] at eb
    have S0 : gs_dsc1 K rc up s = gs_dG K rc up b (gs_p (gs_pl s + 1) s) := by
      rw [gs_dsc1_G, gs_b_ok (gs_u1_y z), ← hb]
    rw [S0]
    -- one step
    have go : ∀ (P : gr_t → Prop), gm_W E (d - 2) 32 13 [.ref m, .int (nI f), .int b, gm_u, gm_u, gm_u, gm_u, gm_u, gm_u, gm_u, gm_u] [] (gr_H h m t1) (gr_ps h m P) → (∀ t', P t' → gr_Rn E d h m (gr_O K X c us nd f f t s (gr_VD K X B c s) (gs_dG K rc up b (gs_p (gs_pl s + 1) s))) t') → gr_Rn E d h m (gr_O K X c us nd f f t s (gr_VD K X B c s) (gs_dG K rc up b (gs_p (gs_pl s + 1) s))) t := by
      intro P w k
      refine .step h47 (by omega) h8 (gr_sd0 (by omega) h47 (by omega) f28 f29 (m_dPre (by omega) h8 Y.B.1 Y.pl n7 z ?_)) k
      rw [eb, ← ht1]
      exact w
    unfold gs_dG at go ⊢
    by_cases c1 : b = 112
    · rw [if_pos c1] at go ⊢
      refine go (fun t' => t' = gr_give t1 (-2)) (by rw [c1]; exact m_dNull (by omega) (gr_ps.ok rfl)) (fun t' e => ?_)
      subst e
      refine .done (gr_O.give rfl ⟨Nat.le_refl _, Nat.le_refl _⟩ (Y1.wk (by omega)) a8 a47 fr1 eh1 kp1 (gs_ap.p (by omega)) ⟨(gr_give8 a8 a47).2, Nat.zero_le _, ?_, ?_, fun q => absurd rfl q⟩)
      · show 14 * gs_size s ≤ B + (gs_pl s + 1); omega
      · show gs_pl s < gs_pl s + 1; omega
    rw [if_neg c1] at go ⊢
    by_cases c2 : b = 113
    · rw [if_pos c2] at go ⊢
      have rf := m_reference (E := E) (d := d - 3) (h := h) (m := m) (b := true) (fr := nI f) (by omega) Y1.B Y1.hs Y1.pl Y1.pn a8
      refine go (fun t' => match gr_rf K true (gs_p (gs_pl s + 1) s) with
        | .ok q => q.2 = gs_p (gs_pl s + 1 + 4) (gs_p (gs_pl s + 1) s) ∧ gs_pl s + 1 + 4 ≤ gs_n K ∧ ∃ w, t' = gr_give (gr_ui t1 0 6 (nI (gs_pl s + 1 + 4))) w ∧ match q.1 with
          | .inl v => True
          | .inr L => L ≠ [] ∧ ∃ (i : Nat) (q : Int32 × List gs_L), i < gs_size s ∧ (gs_hs s)[gs_f1 s + i]? = some q ∧ q.2 = L ∧ w = t1.1 17 i
        | .error f => gr_er t1 t' f) (by
          rw [c2]
          refine m_dRef (by omega) rf (fun r h' q => ?_)
          refine ⟨h', q.1, rfl, ?_⟩
          obtain ⟨q1, q2⟩ := q
          cases er : gr_rf K true (gs_p (gs_pl s + 1) s) with
          | ok w =>
            rw [er] at q2
            obtain ⟨y1, y2, w9, y3, y4⟩ := q2
            refine ⟨rfl, _, y3, y1, y2, w9, rfl, ?_⟩
            cases ew : w.1 with
            | inl v => trivial
            | inr L => rw [ew] at y4; exact y4
          | error x =>
            rw [er] at q2
            obtain ⟨t9, y1, y2⟩ := q2
            exact ⟨rfl, t9, y1, y2⟩) (fun t' x => ?_)
      have e1 : gr_rf K true (gs_p (gs_pl s + 1) s) = match gs_b (gs_ent K) gs_dM (gs_p (gs_pl s + 1) s) with
          | .ok q => .ok (Sum.inr q.1, q.2)
          | .error e => .error e := by
        unfold gr_rf
        rw [if_pos rfl]
        unfold gs_b
        cases gs_ent K (gs_p (gs_pl s + 1) s) with
        | error e => rfl
        | ok q =>
          dsimp only
          unfold gs_dM
          cases ((gs_hs q.2).getD q.1 (-1, [])).2 <;> rfl
      rw [e1] at x
      cases er : gs_b (gs_ent K) gs_dM (gs_p (gs_pl s + 1) s) with
      | error y =>
        rw [er] at x
        exact .done (gr_O.er rfl ((gr_er.F x).from kp1 (Nat.le_refl _) (Nat.le_refl _) (Nat.le_refl _)))
      | ok w =>
        rw [er] at x
        obtain ⟨x1, x2, w9, x3, x4, i, q, x5, x6, x7, x8⟩ := x
        dsimp only at x1 x4 x7
        have w2 : w.2 = gs_p (gs_pl s + 1 + 4) (gs_p (gs_pl s + 1) s) := x1
        have Y2 := Y1.place (k := 4) x2
        obtain ⟨t2, ht2⟩ : ∃ t2, t2 = gr_ui t1 0 6 (nI (gs_pl s + 1 + 4)) := ⟨_, rfl⟩
        have Y2 : gr_Y X (c + 1 + 4) us nd t2 K (gs_p (gs_pl s + 1 + 4) (gs_p (gs_pl s + 1) s)) := by rw [ht2]; exact Y2
        rw [← ht2] at x3
        have hm : gr_hm t2 (gr_give t2 w9) := gr_hm.refl.give
        have c8 : t2.1 0 8 = 0 := by rw [ht2, gr_ui_ni (by decide)]; exact a8
        have c47 : t2.1 0 47 = nI (f + 1) := by rw [ht2, gr_ui_ni (by decide)]; exact a47
        have en := Y2.hh.2.2.2 i q x5 x6
        have ch : gr_chn (gr_NX X nd) t2 K w.1 w9 := by
          rcases en with y | y | y | y
          · rw [y.2] at x7; exact absurd x7.symm x4
          · have e17 : t2.1 17 i = t1.1 17 i := by rw [ht2, gr_ui_no (by decide)]
            rw [x8, ← e17, ← x7]
            exact y.2.2.2
          · rw [y.2.1] at x7; exact absurd x7.symm x4
          · rw [y.2] at x7; exact absurd x7.symm x4
        rw [x3]
        obtain ⟨w1, w2'⟩ := w
        dsimp only at w2
        subst w2
        refine .done (gr_O.give rfl ⟨Nat.le_refl _, Nat.le_refl _⟩ (Y2.wk (by omega)) c8 c47 (by rw [ht2]; exact fr1.ui (by omega)) (by rw [ht2]; exact eh1.ui (by omega)) (by rw [ht2]; exact kp1.ui (by unfold gr_pr; omega)) ⟨List.prefix_refl _, List.prefix_refl _, rfl, by show gs_pl s ≤ gs_pl s + 1 + 4; omega⟩ ⟨?_, ?_, ?_, ?_, fun _ => ⟨us, (Y2.hm hm).wk (by omega)⟩⟩)
        · rw [(gr_give8 c8 c47).2]
          exact ch.kp (hm.kp (hb := 0) (ub := 0) (nb := nd)) (fun z hz => hz.1)
        · show w1.length ≤ gs_dn s
          have x7 : q.2 = w1 := x7
          rw [← x7]
          exact Y.lok _ q x6
        · show 14 * gs_size s ≤ B + (gs_pl s + 1 + 4); omega
        · show gs_pl s < gs_pl s + 1 + 4; omega
    rw [if_neg c2] at go ⊢
    by_cases c3 : b = 114
    · rw [if_neg (fun q => q c3)] at go ⊢
      rcases hu with ⟨rfl, h9⟩ | ⟨u, rfl, p8, U⟩
      · have n9 : ¬ t1.1 31 f ≤ 8 := by rw [a31, h9]; decide
        refine go (fun t' => t' = gr_ui t1 0 8 (-4)) (m_dBad (by omega) (by omega) c1 c2 (Or.inr n9) (by rw [ef4]; exact gr_ps.ok rfl)) (fun t' e => ?_)
        subst e
        exact .done (gr_O.er rfl (gr_F.ui (by decide) kp1))
      · have le8 : t1.1 31 f ≤ 8 := by
          rw [a31, ← Int32.not_lt]
          exact nI_nlt (b := pp) (a := 8) (by omega) (by omega)
        have sz : gs_size (gs_p (gs_pl s + 1) s) = gs_size s := rfl
        have e130 : gs_size s < 130 := by omega
        have nb0 := Y.nb
        refine go (gr_sdP t1 K f nd (gs_size s) (gs_hp s).length us nd (gs_p (gs_pl s + 1) s)) (by rw [c3]; exact m_dNew (by omega) le8 (m_sD (by omega) (by omega) (by omega) e130 Y1.B Y1.C Y1.pl Y1.pn a8 Y1.n Y1.hh.1 (Nat.le_refl _))) (fun t2 x2 => ?_)
        unfold gr_sdP at x2
        have hs3 := Y.eb
        rcases gs_hd_dT (s := gs_p (gs_pl s + 1) s) (rc := rc) (up := u) Y1.pn n7 (by show (gs_hs s).length < 234; omega) with ⟨x, y1, y2⟩ | ⟨q, y1, y2, y3, y4, y5⟩
        · rw [y1] at x2
          show gr_Rn E d h m (gr_O K X c us nd f f t s (gr_VD K X B c s) (gs_dT K rc u (gs_p (gs_pl s + 1) s))) t2
          rw [y2]
          exact .done (gr_O.er rfl (x2.from kp1 (Nat.le_refl _) (Nat.le_refl _) (Nat.le_refl _)))
        · rw [y1] at x2
          dsimp only at x2
          obtain ⟨pq, hpq⟩ : ∃ pq, pq = q.1 + q.2.1 := ⟨_, rfl⟩
          rw [← hpq] at x2 y2 y3 y5
          have y3 : gs_pl s + 3 ≤ pq := by have y3 : gs_pl s + 1 + 2 ≤ pq := y3; omega
          show gr_Rn E d h m (gr_O K X c us nd f f t s (gr_VD K X B c s) (gs_dT K rc u (gs_p (gs_pl s + 1) s))) t2
          rw [y5]
          have kp2 : gr_kp (gs_hp s).length us nd t t2 := by
            rw [x2]
            unfold gr_sdt
            exact (((((gr_kp.trans (kp1.ui (by unfold gr_pr; omega)) (gr_al_kp gr_kp.refl (Nat.le_refl _))).ui (by unfold gr_pr; omega)).ui (by unfold gr_pr; omega)).ui (by unfold gr_pr; omega)).ui (by unfold gr_pr; omega)).ui (by unfold gr_pr; omega)
          obtain ⟨⟨m1, m2, m3⟩, m4, m5, m6, m7, m8, m9⟩ := gr_al_k (t := gr_ui t1 0 6 (nI (pq + 8))) (f := f) (k := nd) (e := gs_size s) (cl := gr_o (gs_find K q.1 q.2.1)) (sh := gr_sh K q.1 q.2.1) (id := q.2.2.1)
          obtain ⟨ta, hta⟩ : ∃ ta, ta = gr_al (gr_ui t1 0 6 (nI (pq + 8))) f nd (gs_size s) (gr_o (gs_find K q.1 q.2.1)) (gr_sh K q.1 q.2.1) q.2.2.1 := ⟨_, rfl⟩
          rw [← hta] at m1 m2 m3 m4 m5 m6 m7 m8 m9
          have x2 : t2 = gr_ui (gr_ui (gr_ui (gr_ui (gr_ui ta 0 6 (nI (pq + 9))) 22 nd q.2.2.2.1) 0 6 (nI (pq + 11))) 24 nd (nI q.2.2.2.2)) 29 f 1 := by rw [x2, hta]; rfl
          have va : ∀ o i, (o = 0 → i ≠ 6) → o ≠ 22 → o ≠ 24 → o ≠ 29 → t2.1 o i = ta.1 o i := fun o i z0 z1 z2 z3 => by
            have u : ∀ (t : gr_t) (i2 : Nat) (x : Int32), i2 = 6 → (gr_ui t 0 i2 x).1 o i = t.1 o i := fun t i2 x y => by
              by_cases e0 : o = 0
              · rw [gr_ui_ni (by have := z0 e0; omega)]
              · rw [gr_ui_no e0]
            rw [x2, gr_ui_no z3, gr_ui_no z2, u _ _ _ rfl, gr_ui_no z1, u _ _ _ rfl]
          have vb : ∀ o i, (o = 0 → i ≠ 6 ∧ i ≠ 39 ∧ i ≠ 28) → (o ≠ 16 ∧ o ≠ 17 ∧ o ≠ 20 ∧ o ≠ 21) → ((o = 32 ∨ o = 34) → i ≠ f) → o ≠ 22 → o ≠ 24 → o ≠ 29 → t2.1 o i = t1.1 o i := fun o i z0 z1 z2 z3 z4 z5 => by
            rw [va o i (fun y => (z0 y).1) z3 z4 z5, hta, gr_al_v (fun y => (z0 y).2) z1 z2]
            by_cases e0 : o = 0
            · rw [gr_ui_ni (z0 e0).1]
            · rw [gr_ui_no e0]
          have eh' : ∀ o, (o = 16 ∨ o = 17) → ∀ i, i < gs_size s → t2.1 o i = t.1 o i := fun o ho i hi => by
            have h1 : t2.1 o i = ta.1 o i := va o i (by omega) (by omega) (by omega) (by omega)
            have h2 : ta.1 o i = t1.1 o i := by
              rw [hta]
              unfold gr_al gr_ent
              rcases ho with rfl | rfl
              · rw [gr_ui_no (by decide), gr_ui_no (by decide), gr_ui_no (by decide), gr_ui_ni (by omega), gr_ui_no (by decide)]
                rw [gr_ul_1, gr_ui_no (by decide), gr_ui_no (by decide), gr_ui_no (by decide), gr_ui_no (by decide)]
              · rw [gr_ui_no (by decide), gr_ui_no (by decide), gr_ui_ni (by omega), gr_ui_no (by decide), gr_ui_no (by decide)]
                rw [gr_ul_1, gr_ui_no (by decide), gr_ui_no (by decide), gr_ui_no (by decide), gr_ui_no (by decide)]
            have h3 : t1.1 o i = t.1 o i := by rw [ht1, gr_ui_no (by omega)]
            rw [h1, h2, h3]
          have z0 : ∀ i, i ≠ 6 → i ≠ 39 → i ≠ 28 → t2.1 0 i = t.1 0 i := fun i i1 i2 i3 => by
            rw [vb 0 i (fun _ => ⟨i1, i2, i3⟩) (by decide) (by omega) (by decide) (by decide) (by decide), ht1, gr_ui_ni i1]
          have z6 : t2.1 0 6 = nI (pq + 11) := by rw [x2, gr_ui_no (by decide), gr_ui_no (by decide), gr_ui_eq]
          have z28 : t2.1 0 28 = nI (gs_size s + 1) := by rw [va 0 28 (by decide) (by decide) (by decide) (by decide)]; exact m8
          have z39 : t2.1 0 39 = nI (nd + 1) := by rw [va 0 39 (by decide) (by decide) (by decide) (by decide)]; exact m9
          have ub0 := Y.ub
          have hb0 := Y.hb
          have Y2 : gr_Y (fun x => X x ∨ x = nd) (c + 11) us (nd + 1) t2 K (pq + 11, gs_hp s ++ [], gs_hs s ++ [(-1, [])], gs_f1 s) := by
            refine Y.grow (X' := fun x => X x ∨ x = nd) (ho := []) (he := [(-1, [])]) kp2 z6 (by omega) y2 ?_ ?_ z28 z39 (Nat.le_refl _) (Nat.le_succ _) (by show gs_size s + 1 ≤ 130; omega) (fun i hi => ⟨eh' 16 (Or.inl rfl) i hi, eh' 17 (Or.inr rfl) i hi⟩) (fun j o ho => by simp at ho) ?_ ?_ ?_ (by simp) (fun o ho => by simp at ho) ?_ ?_ (by omega) (by omega) (by show 3 * ((gs_hp s).length + 0) + (c + 11) ≤ pq + 11; omega) (by show 3 * ((gs_hs s).length + 1) + (c + 11) ≤ pq + 11; omega)
            · rw [z0 23 (by decide) (by decide) (by decide)]; exact Y.pp.1
            · rw [z0 25 (by decide) (by decide) (by decide)]; exact Y.u
            · intro j w hw
              have j0 : j = 0 ∧ w = (-1, []) := by
                cases j with
                | zero => exact ⟨rfl, by simpa using hw.symm⟩
                | succ j => simp at hw
              obtain ⟨rfl, rfl⟩ := j0
              exact Or.inl ⟨by rw [Nat.add_zero, va 16 _ (fun z9 => absurd z9 (by decide)) (by decide) (by decide) (by decide)]; exact m6, rfl⟩
            · intro z hz
              rcases hz with y | y
              · have := Y.xb z y; omega
              · omega
            · intro z hz1 hz2
              rcases hz2 with y | y
              · exact y
              · omega
            · intro j w hw hn
              have : w = (-1, []) := by
                cases j with
                | zero => simpa using hw.symm
                | succ j => simp at hw
              rw [this] at hn
              exact absurd (show (-1 : Int32) < 0 by decide) hn
            · intro j w hw
              cases j with
              | zero => simp at hw; rw [← hw]
              | succ j => simp at hw
          rw [List.append_nil] at Y2
          have fr2 : gr_fr f t t2 := by
            intro o i o1 o2 hi
            by_cases o29 : o = 29
            · subst o29
              rw [x2, gr_ui_ni (by omega), gr_ui_no (by decide), gr_ui_no (by decide), gr_ui_no (by decide), gr_ui_no (by decide), hta, gr_al_v (fun z9 => absurd z9 (by decide)) (by decide) (by omega), gr_ui_no (by decide)]
              exact fr1 29 i (by decide) (by decide) hi
            · rw [vb o i (by omega) (by omega) (by omega) (by omega) (by omega) o29]
              exact fr1 o i o1 o2 hi
          have frm : ∀ o, 28 ≤ o → o ≤ 34 → o ≠ 29 → o ≠ 32 → o ≠ 34 → t2.1 o f = t.1 o f := fun o o1 o2 o3 o4 o5 => by
            rw [vb o f (by omega) (by omega) (by omega) (by omega) (by omega) o3, ht1, gr_ui_no (by omega)]
          have g := gr_dB (B := B) (X := fun x => X x ∨ x = nd) (c := c + 11) (us := us) (nd := nd + 1) (k := nd) (e := gs_size s) (f := f) (t := t2) (t0 := t) (s := (pq + 11, gs_hp s, gs_hs s ++ [(-1, [])], gs_f1 s)) (s0 := s) (q := q) RC hK hd hdp hB hB2 U rfl rfl rfl (by show gs_pl s ≤ pq + 11; omega) Y.hh.2.2.1 kp2 fr2 (fun i hi => eh' 17 (Or.inr rfl) i hi) rfl Y2 (by rw [z0 8 (by decide) (by decide) (by decide)]; exact h8) (by rw [z0 47 (by decide) (by decide) (by decide)]; exact h47)
            ⟨(frm 28 (by omega) (by omega) (by omega) (by omega) (by omega)).trans f28, by rw [x2, gr_ui_eq], (frm 30 (by omega) (by omega) (by omega) (by omega) (by omega)).trans f30, (frm 31 (by omega) (by omega) (by omega) (by omega) (by omega)).trans f31, by rw [va 32 f (fun z9 => absurd z9 (by decide)) (by decide) (by decide) (by decide)]; exact m4, (frm 33 (by omega) (by omega) (by omega) (by omega) (by omega)).trans h33, by rw [va 34 f (fun z9 => absurd z9 (by decide)) (by decide) (by decide) (by decide)]; exact m5⟩ (Or.inr rfl) (by show 14 * f + 42 ≤ 42 * dp + (pq + 11); omega) (by
              show 14 * ((gs_hs s ++ [(-1, [])]).length - gs_f1 s) ≤ B + (pq + 11)
              have := Y.hh.2.2.1
              rw [List.length_append]
              show 14 * ((gs_hs s).length + 1 - gs_f1 s) ≤ B + (pq + 11)
              unfold gs_size at hsz
              omega) (by rw [va 17 _ (fun z9 => absurd z9 (by decide)) (by decide) (by decide) (by decide)]; exact m7) y4 (by rw [← hpq]; omega) (by rw [va 20 _ (fun z9 => absurd z9 (by decide)) (by decide) (by decide) (by decide)]; exact m1) (by rw [va 21 _ (fun z9 => absurd z9 (by decide)) (by decide) (by decide) (by decide)]; exact m2) (by rw [x2, gr_ui_no (by decide), gr_ui_no (by decide), gr_ui_no (by decide), gr_ui_eq]) (by rw [x2]; exact m3) (by rw [x2, gr_ui_no (by decide), gr_ui_eq])
          have eX : (fun x => (X x ∨ x = nd) ∧ x ≠ nd) = X := by
            funext x
            refine propext ⟨fun y => y.1.resolve_right y.2, fun y => ⟨Or.inl y, fun z => ?_⟩⟩
            have := Y.xb x y
            omega
          rw [eX] at g
          refine g.mono (fun t9 x9 => x9.credit (by omega) (fun L s9 us9 nd9 Y9 v9 => ?_))
          exact ⟨v9.1, v9.2.1, v9.2.2.1, by have := v9.2.2.2.2; have this : pq + 11 ≤ gs_pl s9 := this; omega, fun _ => ⟨us9, Y9.wk (by omega)⟩⟩
    · rw [if_pos c3] at go ⊢
      refine go (fun t' => t' = gr_ui t1 0 8 (-4)) (m_dBad (by omega) (by omega) c1 c2 (Or.inl c3) (by rw [ef4]; exact gr_ps.ok rfl)) (fun t' e => ?_)
      subst e
      exact .done (gr_O.er rfl (gr_F.ui (by decide) kp1))
  · have S0 : gs_dsc1 K rc up s = .error (-3) := by
      rw [gs_dsc1_G]
      exact gs_b_er (gs_u1_n z)
    rw [S0]
    refine .step h47 (by omega) h8 (gr_sd0 (by omega) h47 (by omega) f28 f29 (gm_Ca.mono (m_dEnd (by omega) h8 Y.B.1 Y.pl (by omega) z) (fun r h' q => gr_ps.v rfl rfl q))) (fun t1 e1 => ?_)
    subst e1
    exact .done (gr_O.er rfl (gr_F.ui (by decide) gr_kp.refl))
theorem gr_desc (RC : gr_RC E d h m K (dp + 1) rc) (hK : gs_rst K = true) (hd : 12 ≤ d) (hdp : 1 ≤ dp ∧ dp ≤ 8) (hB : 14 * (69 - dp) ≤ B) (hB2 : B ≤ 980) : ∀ q, q ≤ 8 → gr_DS E d h m K dp B (9 - q) (gs_desc K rc q)
  | 0, _ => gr_dsc1 RC hK hd hdp hB hB2 (Or.inl ⟨rfl, rfl⟩)
  | q + 1, hq => gr_dsc1 RC hK hd hdp hB hB2 (Or.inr ⟨gs_desc K rc q, rfl, by omega, by
      have := gr_desc RC hK hd hdp hB hB2 q (by omega)
      rw [show 9 - (q + 1) + 1 = 9 - q by omega]
      exact this⟩)
end NF
