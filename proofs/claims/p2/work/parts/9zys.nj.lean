/-! THE REFERENCE, 46: a constant, whole. -/
section NJ
variable {X N : Nat → Prop} {E : Nat → Value} {d m f n p dp c us nd k e o j cnt hb ub nb B pp : Nat} {h : gm_H} {t t' : gr_t} {K : gs_K} {s s' s'' : gs_S} {rc : gs_M Int32} {P : gr_t → Prop} {l : gs_L} {Q : gm_R → gm_H → Prop}
/-- what a read leaves, told from behind its descriptor -/
def gr_W (dp : Nat) (v : Int32) (s' : gs_S) (_ : Nat) (t' : gr_t) : Prop := t'.1 0 9 = v ∧ (v = -2 ∨ ∃ x, x < (gs_hp s').length ∧ v = nI x) ∧ 14 * gs_size s' ≤ 14 * (70 - dp) + gs_pl s'
theorem gs_lim_c {l : gs_L} {dd : Nat} {n : Int32} : gs_lim K l dd n s = .error (-8) ∨ gs_lim K l dd n s = .ok ((), s) := by
  unfold gs_lim
  split
  · exact Or.inl rfl
  · exact Or.inr rfl
theorem gs_only_c {cc : Nat} {nm : Int32} : gs_only cc nm s = match (gs_hp s).findIdx? (gs_pd cc nm) with
    | some k => .ok (k, s)
    | none => gs_addT (4, some cc, [], nm, 0) s := rfl
def gs_conK (K : gs_K) (rc : gs_M Int32) (d : Nat) (l : gs_L) : gs_M Int32 := gs_b (gs_lim K l d 0) fun _ =>
  if gs_fl l &&& 16 = 0 then gs_x (-5) else match gs_own l with
  | none => gs_x (-9)
  | some c => gs_b (gs_addE (-2)) fun e => gs_b rc fun v => fun s => let nm := gs_cname s v
    if nm < 0 ∨ 26 ≤ nm ∨ ((gs_cls K c).elim 0 gs_con >>> (nm &&& 31)) &&& 1 = 0 then .error (-6) else gs_b (gs_only c nm) (fun o => gs_b (gs_setE e (nI o)) fun _ => gs_r (nI o)) s
/-- a handle set to an object, at the end -/
theorem gr_O.setE {s0 s1 : gs_S} {t0 t1 : gr_t} {us0 nd0 us1 nd1 e o : Nat} {w : Int32} {res : Except Int32 (Int32 × gs_S)} (hr : res = .ok (nI o, (s1.1, s1.2.1, (gs_hs s1).modify (gs_f1 s1 + e) (fun q => (nI o, q.2)), gs_f1 s1))) (h1 : us0 ≤ us1 ∧ nd0 ≤ nd1) (Y : gr_Y X c us1 nd1 t1 K s1) (h8 : t1.1 0 8 = 0) (h47 : t1.1 0 47 = nI (f + 1)) (F : gr_fr f t0 t1) (E0 : gr_eh (gs_size s0) t0 t1) (K0 : gr_kp (gs_hp s0).length us0 nd0 t0 t1) (ap : gs_ap s0 s1) (he : gs_size s0 ≤ e) (hi : e < gs_size s1) (hh : (gs_hs s1)[gs_f1 s1 + e]? = some (w, [])) (ho : o < (gs_hp s1).length) (hsz : 14 * gs_size s1 ≤ 14 * (70 - dp) + gs_pl s1) :
    gr_O K X c us0 nd0 f f t0 s0 (gr_W dp) res (gr_give (gr_ui (gr_ui t1 16 e 2) 17 e (nI o)) (nI o)) := by
  have hb := Y.hb
  have n7 := Y.n7
  have pn := Y.pn
  obtain ⟨t2, ht2⟩ : ∃ t2, t2 = gr_ui (gr_ui t1 16 e 2) 17 e (nI o) := ⟨_, rfl⟩
  rw [← ht2]
  have kp : gr_kp (gs_hp s1).length us1 nd1 t1 t2 := by rw [ht2]; exact (gr_kp.refl.ui (by unfold gr_pr; omega)).ui (by unfold gr_pr; omega)
  have z0 : ∀ i, t2.1 0 i = t1.1 0 i := fun i => by rw [ht2, gr_ui_no (by decide), gr_ui_no (by decide)]
  have Y2 : gr_Y X c us1 nd1 t2 K (s1.1, s1.2.1, (gs_hs s1).modify (gs_f1 s1 + e) (fun q => (nI o, q.2)), gs_f1 s1) := by
    refine Y.modE (i := e) (w := (w, [])) (w' := (nI o, [])) hi hh rfl kp (fun j _ => z0 j) (fun j hj hne => ⟨by rw [ht2, gr_ui_no (by decide), gr_ui_ni hne], by rw [ht2, gr_ui_ni hne, gr_ui_no (by decide)]⟩) (Or.inr (Or.inr (Or.inl ⟨by rw [ht2, gr_ui_no (by decide), gr_ui_eq], rfl, nI_pos (by omega), by rw [ht2, gr_ui_eq]⟩))) (fun _ z => z) (fun _ => ⟨o, ho, rfl⟩) (Or.inl ⟨rfl, rfl⟩)
  have a8 : t2.1 0 8 = 0 := (z0 8).trans h8
  have a47 : t2.1 0 47 = nI (f + 1) := (z0 47).trans h47
  refine gr_O.give hr h1 Y2 a8 a47 (by rw [ht2]; exact (F.ui (by omega)).ui (by omega)) (by rw [ht2]; exact (E0.ui (by omega)).ui (by omega)) (K0.trans (kp.wk ap.len h1.1 h1.2)) ⟨ap.1, ?_, ap.2.2.1, ap.2.2.2⟩ ⟨(gr_give8 a8 a47).2, Or.inr ⟨o, ho, rfl⟩, ?_⟩
  · refine gs_pre_mod ap.2.1 ?_
    have := ap.2.2.1
    have hf := Y.hh.2.2.1
    have hl := ap.2.1.length_le
    unfold gs_size at he
    omega
  · show 14 * (((gs_hs s1).modify _ _).length - gs_f1 s1) ≤ _
    rw [List.length_modify]
    exact hsz
theorem gr_con (RC : gr_RC E d h m K (dp + 1) rc) (hd : 12 ≤ d) (hdp : 1 ≤ dp ∧ dp ≤ 8) {L : List gs_L} (Y : gr_Y X (c + 6) us nd t K s) (h8 : t.1 0 8 = 0) (h47 : t.1 0 47 = nI (f + 1)) (hf : t.1 28 f = 1 ∧ t.1 29 f = 5 ∧ t.1 30 f = nI dp) (h14 : 14 * f + 42 ≤ 42 * dp + gs_pl s) (hsz : 14 * gs_size s ≤ 14 * (69 - dp) + gs_pl s) (ch : gr_chn (gr_NX X nd) t K (l :: L) (t.1 0 9)) : gr_Rn E d h m (gr_O K X c us nd f f t s (gr_W dp) (gs_conK K rc dp l s)) t := by
  obtain ⟨f28, f29, f30⟩ := hf
  obtain ⟨k, k9, kN, ⟨D, tys⟩, -⟩ := ch
  have n7 := Y.n7
  have pn := Y.pn
  have nb := Y.nb
  have hb := Y.hb
  have eb := Y.eb
  have ub := Y.ub
  have f79 : f < 79 := by omega
  have k130 : k < 130 := by have := kN.1; omega
  have e130 : gs_size s < 130 := by omega
  refine .step h47 (by omega) h8 (gr_sr5 (by omega) h47 (by omega) f28 f29 (m_nC (s := s) (l := l) (e := gs_size s) (by omega) f79 k130 e130 h8 k9 h47 Y.hh.1 Y.hh.1 f30 Y.pl Y.lm Y.C D)) (fun t1 x1 => ?_)
  unfold gr_nC at x1
  unfold gs_conK
  rcases gs_lim_c (K := K) (s := s) (l := l) (dd := dp) (n := 0) with el | el
  · rw [el] at x1
    subst x1
    exact .done (gr_O.er (gs_b_er el) (gr_F.ui (by decide) gr_kp.refl))
  rw [el] at x1
  dsimp only at x1
  rw [gs_b_ok el]
  by_cases c1 : gs_fl l &&& 16 = 0
  · rw [if_pos c1] at x1 ⊢
    subst x1
    exact .done (gr_O.er rfl (gr_F.ui (by decide) gr_kp.refl))
  rw [if_neg c1] at x1 ⊢
  cases eo : gs_own l with
  | none =>
    rw [eo] at x1
    subst x1
    exact .done (gr_O.er rfl (gr_F.ui (by decide) gr_kp.refl))
  | some a =>
    rw [eo] at x1
    dsimp only at x1 ⊢
    have a6 := (D.2.2.2.2.2.2.1 a eo).1
    obtain ⟨e, he⟩ : ∃ e, e = gs_size s := ⟨_, rfl⟩
    rw [← he] at x1 e130
    have ea : gs_addE (-2) s = .ok ((gs_hs s).length, (gs_pl s, gs_hp s, gs_hs s ++ [(-2, [])], gs_f1 s)) := by
      unfold gs_addE
      rw [if_neg (by omega)]
      rfl
    rw [gs_b_ok ea]
    obtain ⟨ta, hta⟩ : ∃ ta, ta = gr_ui (gr_ui (gr_ui (gr_ent t e 3 0) 31 f (nI e)) 32 f (nI a)) 29 f 6 := ⟨_, rfl⟩
    rw [← hta] at x1
    have va : ∀ q i, (q = 0 → i ≠ 28) → ((q = 16 ∨ q = 17) → i ≠ e) → ((q = 31 ∨ q = 32 ∨ q = 29) → i ≠ f) → ta.1 q i = t.1 q i := fun q i z0 z1 z2 => by
      have u : ∀ (t : gr_t) (o2 i2 : Nat) (x : Int32), (q = o2 → i ≠ i2) → (gr_ui t o2 i2 x).1 q i = t.1 q i := fun t o2 i2 x z => by
        show (if q = o2 ∧ i = i2 then x else t.1 q i) = t.1 q i
        rw [if_neg (fun y => z y.1 y.2)]
      rw [hta]
      unfold gr_ent
      rw [u _ _ _ _ (fun y => z2 (by omega)), u _ _ _ _ (fun y => z2 (by omega)), u _ _ _ _ (fun y => z2 (by omega)), u _ _ _ _ z0, u _ _ _ _ (fun y => z1 (Or.inr y)), u _ _ _ _ (fun y => z1 (Or.inl y))]
    have va2 : ta.2 = t.2 := by rw [hta]; rfl
    have ka : ta.1 0 28 = nI (e + 1) ∧ ta.1 16 e = 3 ∧ ta.1 31 f = nI e ∧ ta.1 32 f = nI a ∧ ta.1 29 f = 6 := by
      rw [hta]
      unfold gr_ent
      simp [gr_ui]
    obtain ⟨ka28, ka16, ka31, ka32, ka29⟩ := ka
    have kpa : gr_kp (gs_hp s).length us nd t ta := ⟨fun q i hq => va q i (by unfold gr_pr at hq; omega) (by unfold gr_pr at hq; omega) (by unfold gr_pr at hq; omega), fun q i _ => by rw [va2]⟩
    have Ya : gr_Y X (c + 3) us nd ta K (gs_pl s, gs_hp s ++ [], gs_hs s ++ [(-2, [])], gs_f1 s) := by
      refine Y.grow (X' := X) (ho := []) (he := [(-2, [])]) kpa (by rw [va 0 6 (by decide) (by omega) (by omega)]; exact Y.pl) (Nat.le_refl _) pn (by rw [va 0 23 (by decide) (by omega) (by omega)]; exact Y.pp.1) (by rw [va 0 25 (by decide) (by omega) (by omega)]; exact Y.u) (by rw [ka28, he]; rfl) (by rw [va 0 39 (by decide) (by omega) (by omega)]; exact Y.n) (Nat.le_refl _) (Nat.le_refl _) (by show gs_size s + 1 ≤ 130; omega) (fun i hi => ⟨va 16 i (by omega) (by omega) (by omega), va 17 i (by omega) (by omega) (by omega)⟩) (fun j w hw => by simp at hw) ?_ Y.xb (fun _ _ z => z) (by simp) (fun w hw => by simp at hw) ?_ ?_ (by omega) nb (by show 3 * ((gs_hp s).length + 0) + (c + 3) ≤ gs_pl s; omega) (by show 3 * ((gs_hs s).length + 1) + (c + 3) ≤ gs_pl s; omega)
      · intro j w hw
        have : j = 0 ∧ w = (-2, []) := by
          cases j with
          | zero => exact ⟨rfl, by simpa using hw.symm⟩
          | succ j => simp at hw
        obtain ⟨rfl, rfl⟩ := this
        rw [Nat.add_zero, ← he]
        exact Or.inr (Or.inr (Or.inr ⟨ka16, rfl⟩))
      · intro j w hw hn
        have : w = (-2, []) := by
          cases j with
          | zero => simpa using hw.symm
          | succ j => simp at hw
        rw [this] at hn
        exact absurd (show (-2 : Int32) < 0 by decide) hn
      · intro j w hw
        cases j with
        | zero => simp at hw; rw [← hw]
        | succ j => simp at hw
    rw [List.append_nil] at Ya
    obtain ⟨s1, hs1⟩ : ∃ s1 : gs_S, s1 = (gs_pl s, gs_hp s, gs_hs s ++ [(-2, [])], gs_f1 s) := ⟨_, rfl⟩
    rw [← hs1] at Ya ⊢
    have pl1 : gs_pl s1 = gs_pl s := by rw [hs1]; rfl
    have hp1 : gs_hp s1 = gs_hp s := by rw [hs1]; rfl
    have hh1 : gs_hs s1 = gs_hs s ++ [(-2, [])] := by rw [hs1]; rfl
    have ff1 : gs_f1 s1 = gs_f1 s := by rw [hs1]; rfl
    have sz1 : gs_size s1 = e + 1 := by
      have := Y.hh.2.2.1
      unfold gs_size at he ⊢
      rw [hh1, ff1, List.length_append]
      show (gs_hs s).length + 1 - gs_f1 s = _
      omega
    have ap1 : gs_ap s s1 := ⟨by rw [hp1]; exact List.prefix_refl _, by rw [hh1]; exact List.prefix_append _ _, ff1, by omega⟩
    obtain ⟨p1, p2, p3, p4, p5, p6, p7, p8, p9⟩ := gr_push_fr (t := ta) (tp := f + 1) (k := 1) (dd := nI (dp + 1)) (a := 0) (b := 0)
    rw [← x1] at p1 p2 p3 p4 p5 p6 p7 p8 p9
    have hm1 : gr_hm ta t1 := by rw [x1]; exact gr_hm.refl.push
    have fr1 : gr_fr (f + 1) ta t1 := by rw [x1]; exact gr_fr.refl.push (Nat.le_refl _)
    have a8 : t1.1 0 8 = 0 := p9.trans (by rw [va 0 8 (by decide) (by omega) (by omega)]; exact h8)
    refine (RC X (c + 3) us nd (f + 1) t1 s1 (Ya.hm hm1) a8 p8 ⟨p1, p2, p3⟩ (by omega) (fun q => by omega)).bind (fun t2 q2 => ?_)
    have kp1 : gr_kp (gs_hp s).length us nd t t1 := kpa.trans hm1.kp
    refine gr_O.seqF q2 kp1 (by rw [hp1]; exact Nat.le_refl _) (Nat.le_refl _) (Nat.le_refl _) (fun v s2 us2 nd2 er g1 Y2 g8 g47 g3 g6 g4 g5 vv => ?_)
    obtain ⟨v1, v2, v3, v4⟩ := vv
    have ff : ∀ q, 28 ≤ q → q ≤ 34 → t2.1 q f = ta.1 q f := fun q q1 q2 => (g3 q f q1 q2 (by omega)).trans (fr1 q f q1 q2 (by omega))
    have b28 : t2.1 28 f = 1 := by rw [ff 28 (by omega) (by omega), va 28 f (by omega) (by omega) (by omega)]; exact f28
    have b29 : t2.1 29 f = 6 := by rw [ff 29 (by omega) (by omega)]; exact ka29
    have b31 : t2.1 31 f = nI e := by rw [ff 31 (by omega) (by omega)]; exact ka31
    have b32 : t2.1 32 f = nI a := by rw [ff 32 (by omega) (by omega)]; exact ka32
    have ap2 : gs_ap s s2 := ap1.trans g5
    have fr2 : gr_fr f t t2 := by
      intro q i q1 q2 q3
      rw [g3 q i q1 q2 (by omega), fr1 q i q1 q2 (by omega), va q i (by omega) (by omega) (by omega)]
    have eh2 : gr_eh (gs_size s) t t2 := by
      intro i hi
      rw [g6 i (by omega), hm1.1 17 i (by decide) (fun z => absurd z (by decide)), va 17 i (by omega) (by omega) (by omega)]
    have kp2 : gr_kp (gs_hp s).length us nd t t2 := kp1.trans (g4.wk (by rw [hp1]; exact Nat.le_refl _) (Nat.le_refl _) (Nat.le_refl _))
    have i1 : gs_f1 s2 = gs_f1 s := ap2.2.2.1
    have hh2 : (gs_hs s2)[gs_f1 s2 + e]? = some (-2, []) := by
      refine gs_pre_get g5.2.1 ?_
      have := Y.hh.2.2.1
      have ei : gs_f1 s2 + e = (gs_hs s).length := by rw [i1]; unfold gs_size at he; omega
      rw [hh1, ei, List.getElem?_append_right (Nat.le_refl _), Nat.sub_self]
      rfl
    have hix : (gs_hs s).length = gs_f1 s2 + e := by have := Y.hh.2.2.1; rw [i1]; unfold gs_size at he; omega
    have sz2 : e < gs_size s2 := by have := g5.size; omega
    have hb2 := Y2.hb
    have pn2 := Y2.pn
    have f92 : (70 - (dp + 1)) ≤ 70 - dp := by omega
    refine .step g47 (by omega) g8 (gr_sr6 (by omega) g47 (by omega) b28 b29 (m_eC (s := s2) (by omega) (by omega) a6 e130 g8 v1 b31 b32 Y2 v2)) (fun t3 x3 => ?_)
    unfold gr_eC at x3
    by_cases bad : gs_cname s2 v < 0 ∨ 26 ≤ gs_cname s2 v ∨ ((gs_cls K a).elim 0 gs_con >>> (gs_cname s2 v &&& 31)) &&& 1 = 0
    · rw [if_pos bad] at x3 ⊢
      subst x3
      exact .done (gr_O.er rfl (gr_F.ui (by decide) kp2))
    rw [if_neg bad] at x3 ⊢
    cases ef : (gs_hp s2).findIdx? (gs_pd a (gs_cname s2 v)) with
    | some o =>
      rw [ef] at x3
      dsimp only at x3
      have eo2 : gs_only a (gs_cname s2 v) s2 = .ok (o, s2) := by rw [gs_only_c, ef]
      have ol : o < (gs_hp s2).length := (List.findIdx?_eq_some_iff_getElem.mp ef).1
      rw [gs_b_ok eo2, x3]
      exact .done (gr_O.setE (by rw [hix]; rfl) g1 (Y2.wk (by omega)) g8 g47 fr2 eh2 kp2 ap2 (by omega) sz2 hh2 ol (by omega))
    | none =>
      rw [ef] at x3
      dsimp only at x3
      have eo2 : gs_only a (gs_cname s2 v) s2 = .ok ((gs_hp s2).length, (gs_pl s2, gs_hp s2 ++ [(4, some a, [], gs_cname s2 v, 0)], gs_hs s2, gs_f1 s2)) := by
        rw [gs_only_c, ef]
        show gs_addT _ s2 = _
        unfold gs_addT
        rw [if_neg (by omega)]
        rfl
      rw [gs_b_ok eo2, x3]
      obtain ⟨tm, htm⟩ : ∃ tm, tm = gr_make t2 (gs_hp s2).length 4 (nI a) (gs_cname s2 v) 0 := ⟨_, rfl⟩
      rw [← htm]
      have vm : ∀ q i, (q = 0 → i ≠ 23) → ((10 ≤ q ∧ q ≤ 14) → i ≠ (gs_hp s2).length) → tm.1 q i = t2.1 q i := fun q i z0 z1 => by
        have u : ∀ (t : gr_t) (o2 i2 : Nat) (x : Int32), (q = o2 → i ≠ i2) → (gr_ui t o2 i2 x).1 q i = t.1 q i := fun t o2 i2 x z => by
          show (if q = o2 ∧ i = i2 then x else t.1 q i) = t.1 q i
          rw [if_neg (fun y => z y.1 y.2)]
        rw [htm]
        unfold gr_make
        rw [u _ _ _ _ z0, u _ _ _ _ (fun y => z1 (by omega)), u _ _ _ _ (fun y => z1 (by omega)), u _ _ _ _ (fun y => z1 (by omega)), u _ _ _ _ (fun y => z1 (by omega)), u _ _ _ _ (fun y => z1 (by omega))]
      have vm2 : tm.2 = t2.2 := by rw [htm]; rfl
      have km : tm.1 0 23 = nI ((gs_hp s2).length + 1) ∧ tm.1 10 (gs_hp s2).length = 4 ∧ tm.1 11 (gs_hp s2).length = nI a ∧ tm.1 12 (gs_hp s2).length = gs_cname s2 v ∧ tm.1 13 (gs_hp s2).length = 0 ∧ tm.1 14 (gs_hp s2).length = 0 := by
        rw [htm]
        unfold gr_make
        simp [gr_ui]
      obtain ⟨m23, m10, m11, m12, m13, m14⟩ := km
      have kpm : gr_kp (gs_hp s2).length us2 nd2 t2 tm := ⟨fun q i hq => vm q i (by unfold gr_pr at hq; omega) (by unfold gr_pr at hq; omega), fun q i _ => by rw [vm2]⟩
      have ub2 := Y2.ub
      have nb2 := Y2.nb
      have eb2 := Y2.eb
      have Ym : gr_Y X c us2 nd2 tm K (gs_pl s2, gs_hp s2 ++ [(4, some a, [], gs_cname s2 v, 0)], gs_hs s2 ++ [], gs_f1 s2) := by
        refine Y2.grow (X' := X) (ho := [(4, some a, [], gs_cname s2 v, 0)]) (he := []) kpm (by rw [vm 0 6 (by decide) (by omega)]; exact Y2.pl) (Nat.le_refl _) pn2 (by rw [m23]; rfl) (by rw [vm 0 25 (by decide) (by omega)]; exact Y2.u) (by rw [vm 0 28 (by decide) (by omega)]; exact Y2.hh.1) (by rw [vm 0 39 (by decide) (by omega)]; exact Y2.n) (Nat.le_refl _) (Nat.le_refl _) (by show gs_size s2 + 0 ≤ 130; exact Y2.hh.2.1) (fun i hi => ⟨vm 16 i (by omega) (by omega), vm 17 i (by omega) (by omega)⟩) ?_ (fun j w hw => by simp at hw) Y2.xb (fun _ _ z => z) (by simp) ?_ (fun j w hw => by simp at hw) (fun j w hw => by simp at hw) (by omega) nb2 (by show 3 * ((gs_hp s2).length + 1) + c ≤ gs_pl s2; omega) (by show 3 * ((gs_hs s2).length + 0) + c ≤ gs_pl s2; omega)
        · intro j w hw
          have : j = 0 ∧ w = (4, some a, [], gs_cname s2 v, 0) := by
            cases j with
            | zero => exact ⟨rfl, by simpa using hw.symm⟩
            | succ j => simp at hw
          obtain ⟨rfl, rfl⟩ := this
          rw [Nat.add_zero]
          refine ⟨m10, ⟨show (0 : Int32) ≤ 4 by decide, show (4 : Int32) ≤ 4 by decide⟩, m11, (fun c9 z => (by cases z; exact a6)), m14, ?_, Nat.zero_le _, fun _ => rfl, ?_⟩
          · rw [if_pos (show (4 : Int32) = 4 from rfl)]; exact m12
          · unfold gr_ov
            rw [if_neg (show ¬ (4 : Int32) = 1 by decide), if_neg (show ¬ (4 : Int32) = 2 by decide)]
            exact ⟨0, m13, Nat.zero_le _, fun j x hx => by simp at hx⟩
        · intro w hw sw
          have : w = (4, some a, [], gs_cname s2 v, 0) := by simpa using hw.symm
          rw [this] at sw
          have sw : (4 : Int32) = 0 ∨ (4 : Int32) = 3 := sw
          exact absurd sw (by decide)
      rw [List.append_nil] at Ym
      have sp : gs_hp s2 <+: gs_hp s2 ++ [(4, some a, [], gs_cname s2 v, 0)] := List.prefix_append _ _
      refine .done (gr_O.setE (s1 := (gs_pl s2, gs_hp s2 ++ [(4, some a, [], gs_cname s2 v, 0)], gs_hs s2, gs_f1 s2)) (by rw [hix]; rfl) g1 Ym (by rw [vm 0 8 (by decide) (by omega)]; exact g8) (by rw [vm 0 47 (by decide) (by omega)]; exact g47) (fun q i q1 q2 q3 => by rw [vm q i (by omega) (by omega)]; exact fr2 q i q1 q2 q3) (fun i hi => by rw [vm 17 i (by omega) (by omega)]; exact eh2 i hi) (kp2.trans (kpm.wk ap2.len g1.1 g1.2)) ⟨ap2.1.trans sp, ap2.2.1, ap2.2.2.1, ap2.2.2.2⟩ (by omega) sz2 hh2 (by show (gs_hp s2).length < (gs_hp s2 ++ [_]).length; rw [List.length_append]; exact Nat.lt_succ_self _) (by show 14 * gs_size s2 ≤ 14 * (70 - dp) + gs_pl s2; omega))
end NJ
