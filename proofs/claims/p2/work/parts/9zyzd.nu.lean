/-! THE REFERENCE, 57: an instance, whole. -/
section NU
variable {X N : Nat → Prop} {E : Nat → Value} {d m f n p dp c us nd k e o r j cnt hb ub nb B pp at_ ca us0 nd0 : Nat} {h : gm_H} {t t' t0 t1 : gr_t} {K : gs_K} {s s' s'' s0 : gs_S} {rc : gs_M Int32} {P : gr_t → Prop} {l : gs_L} {L : List gs_L} {Q : gm_R → gm_H → Prop} {leaf st : Int32} {cc : Option Nat}
def gs_instK (K : gs_K) (rc : gs_M Int32) (d : Nat) (l : gs_L) (up : List gs_L) : gs_M Int32 := gs_b (gs_lim K l d 0) fun _ =>
  if gs_fl l &&& 16 ≠ 0 then gs_x (-5) else match gs_own l with
  | none => gs_x (-9)
  | some c => match gs_cls K c with
    | none => gs_x (-9)
    | some C => if gs_kind C = 0 ∨ gs_kind C = 3 then gs_x (-5) else
      gs_b (gs_addT (0, some c, gs_slot0 K (some c), 0, 0)) fun o => gs_b (gs_addE (if gs_kind C = 4 then -2 else nI o)) fun e =>
      gs_b (gs_dats K rc (some c) o (l :: up).reverse) fun _ => gs_b gs_g fun s =>
      if gs_kind C = 4 ∧ (gs_fs C).head?.any (fun q => decide (q.2 < 6)) = true ∧ (((gs_hp s).getD o (0, none, [], 0, 0)).2.2.1.getD 0 0) < 0 then gs_x (-6) else gs_b (gs_setE e (nI o)) fun _ => gs_r (nI o)
theorem gr_inst (RC : gr_RC E d h m K (dp + 1) rc) (hK : gs_kor K) (hd : 12 ≤ d) (hdp : 1 ≤ dp ∧ dp ≤ 8) (Y : gr_Y X (c + 6) us nd t K s) (h8 : t.1 0 8 = 0) (h47 : t.1 0 47 = nI (f + 1)) (hf : t.1 28 f = 1 ∧ t.1 29 f = 1 ∧ t.1 30 f = nI dp) (h14 : 14 * f + 42 ≤ 42 * dp + gs_pl s) (hsz : 14 * gs_size s ≤ 14 * (69 - dp) + gs_pl s) (ch : gr_chn (gr_NX X nd) t K (l :: L) (t.1 0 9)) (hL : (l :: L).length ≤ 900) : gr_Rn E d h m (gr_O K X c us nd f f t s (gr_W dp) (gs_instK K rc dp l L s)) t := by
  obtain ⟨f28, f29, f30⟩ := hf
  obtain ⟨k, k9, kN, ⟨D, tys⟩, ch2⟩ := id ch
  have n7 := Y.n7
  have pn := Y.pn
  have nb := Y.nb
  have hb := Y.hb
  have eb := Y.eb
  have ub := Y.ub
  have f79 : f < 78 := by omega
  have k130 : k < 130 := by have := kN.1; omega
  have h6 : ∀ c, 6 ≤ c → gs_cls K c = none := fun x hx => by
    cases ex : gs_cls K x with
    | none => rfl
    | some D => exact absurd (Y.wf x D ex).1 (by omega)
  obtain ⟨e, he⟩ : ∃ e, e = gs_size s := ⟨_, rfl⟩
  obtain ⟨o, ho⟩ : ∃ o, o = (gs_hp s).length := ⟨_, rfl⟩
  refine .step h47 (by omega) h8 (gr_sr1 (by omega) h47 (by omega) f28 f29 (m_nI (s := s) (l := l) (e := e) (o := o) (us := us) (k := k) (by omega) (by omega) k130 (by omega) (by omega) h8 k9 h47 (by rw [he]; exact Y.hh.1) he (by rw [ho]; exact Y.pp.1) Y.u (by omega) f30 Y.pl Y.lm Y.C Y.wf h6 D)) (fun t1 x1 => ?_)
  unfold gr_nI at x1
  unfold gs_instK
  rcases gs_lim_c (K := K) (s := s) (l := l) (dd := dp) (n := 0) with el | el
  · rw [el] at x1
    subst x1
    exact .done (gr_O.er (gs_b_er el) (gr_F.ui (by decide) gr_kp.refl))
  rw [el] at x1
  dsimp only at x1
  rw [gs_b_ok el]
  by_cases c1 : gs_fl l &&& 16 ≠ 0
  · rw [if_pos c1] at x1 ⊢
    subst x1
    exact .done (gr_O.er rfl (gr_F.ui (by decide) gr_kp.refl))
  rw [if_neg c1] at x1 ⊢
  cases eo : gs_own l with
  | none =>
    rw [eo] at x1
    subst x1
    exact .done (gr_O.er rfl (gr_F.ui (by decide) gr_kp.refl))
  | some ca =>
    rw [eo] at x1
    dsimp only at x1 ⊢
    obtain ⟨ca6, cas⟩ := D.2.2.2.2.2.2.1 ca eo
    obtain ⟨C, hC⟩ := Option.isSome_iff_exists.mp cas
    rw [hC] at x1
    rw [hC]
    dsimp only at x1 ⊢
    by_cases c2 : gs_kind C = 0 ∨ gs_kind C = 3
    · rw [if_pos c2] at x1 ⊢
      subst x1
      exact .done (gr_O.er rfl (gr_F.ui (by decide) gr_kp.refl))
    rw [if_neg c2] at x1 ⊢
    obtain ⟨tF, vF, x1⟩ := x1
    have s24 : gs_slots K (some ca) ≤ 24 := gr_C.slots Y.C Y.wf h6 (fun c hc => by cases hc; exact ca6)
    have lenv : (gs_slot0 K (some ca)).length = gs_slots K (some ca) := gs_slot0_len
    obtain ⟨n, hn⟩ : ∃ n, n = gs_slots K (some ca) := ⟨_, rfl⟩
    rw [← hn] at s24 lenv x1 vF
    obtain ⟨ob, hob⟩ : ∃ ob : gs_O, ob = (0, some ca, gs_slot0 K (some ca), 0, 0) := ⟨_, rfl⟩
    obtain ⟨hv, hhv⟩ : ∃ hv : Int32, hv = if gs_kind C = 4 then -2 else nI o := ⟨_, rfl⟩
    obtain ⟨kd, hkd⟩ : ∃ kd : Int32, kd = if gs_kind C = 4 then 3 else 2 := ⟨_, rfl⟩
    rw [← hkd] at x1
    have adT : gs_addT (0, some ca, gs_slot0 K (some ca), 0, 0) s = .ok (o, (gs_pl s, gs_hp s ++ [ob], gs_hs s, gs_f1 s)) := by
      unfold gs_addT
      rw [if_neg (by omega), ho, hob]
      rfl
    have adE : gs_addE (if gs_kind C = 4 then -2 else nI o) (gs_pl s, gs_hp s ++ [ob], gs_hs s, gs_f1 s) = .ok ((gs_hs s).length, (gs_pl s, gs_hp s ++ [ob], gs_hs s ++ [(hv, [])], gs_f1 s)) := by
      unfold gs_addE
      show (if 234 ≤ (gs_hs s).length then _ else _) = _
      rw [if_neg (by omega), hhv]
      rfl
    rw [gs_b_ok adT, gs_b_ok adE]
    obtain ⟨s1, hs1⟩ : ∃ s1 : gs_S, s1 = (gs_pl s, gs_hp s ++ [ob], gs_hs s ++ [(hv, [])], gs_f1 s) := ⟨_, rfl⟩
    rw [← hs1]
    -- the cells
    obtain ⟨tb, htb⟩ : ∃ tb, tb = gr_ui (gr_ui (gr_ent (gr_ui (gr_ui tF 0 25 (nI (us + n))) 31 f (nI o)) e kd (nI o)) 32 f (nI e)) 29 f 2 := ⟨_, rfl⟩
    have x1 : t1 = gr_push tb (f + 1) 3 (nI dp) (nI o) (nI k) := by rw [x1, htb]; rfl
    obtain ⟨tm, htm⟩ : ∃ tm, tm = gr_make t o 0 (nI ca) (nI n) (nI us) := ⟨_, rfl⟩
    rw [← htm] at vF
    have vm : ∀ q i, (q = 0 → i ≠ 23) → ((10 ≤ q ∧ q ≤ 14) → i ≠ o) → tm.1 q i = t.1 q i := fun q i z0 z1 => by
      have u : ∀ (t : gr_t) (o2 i2 : Nat) (x : Int32), (q = o2 → i ≠ i2) → (gr_ui t o2 i2 x).1 q i = t.1 q i := fun t o2 i2 x z => by
        show (if q = o2 ∧ i = i2 then x else t.1 q i) = t.1 q i
        rw [if_neg (fun y => z y.1 y.2)]
      rw [htm]
      unfold gr_make
      rw [u _ _ _ _ z0, u _ _ _ _ (fun y => z1 (by omega)), u _ _ _ _ (fun y => z1 (by omega)), u _ _ _ _ (fun y => z1 (by omega)), u _ _ _ _ (fun y => z1 (by omega)), u _ _ _ _ (fun y => z1 (by omega))]
    have km : tm.1 0 23 = nI (o + 1) ∧ tm.1 10 o = 0 ∧ tm.1 11 o = nI ca ∧ tm.1 12 o = nI n ∧ tm.1 13 o = nI us ∧ tm.1 14 o = 0 := by
      rw [htm]
      unfold gr_make
      simp [gr_ui]
    have vb1 : ∀ q i, (q = 0 → i ≠ 25 ∧ i ≠ 28) → ((q = 16 ∨ q = 17) → i ≠ e) → ((q = 31 ∨ q = 32 ∨ q = 29) → i ≠ f) → tb.1 q i = tm.1 q i := fun q i z0 z1 z2 => by
      have u : ∀ (t : gr_t) (o2 i2 : Nat) (x : Int32), (q = o2 → i ≠ i2) → (gr_ui t o2 i2 x).1 q i = t.1 q i := fun t o2 i2 x z => by
        show (if q = o2 ∧ i = i2 then x else t.1 q i) = t.1 q i
        rw [if_neg (fun y => z y.1 y.2)]
      rw [htb]
      unfold gr_ent
      rw [u _ _ _ _ (fun y => z2 (by omega)), u _ _ _ _ (fun y => z2 (by omega)), u _ _ _ _ (fun y => (z0 y).2), u _ _ _ _ (fun y => z1 (Or.inr y)), u _ _ _ _ (fun y => z1 (Or.inl y)), u _ _ _ _ (fun y => z2 (by omega)), u _ _ _ _ (fun y => (z0 y).1), vF.1]
    have kb : tb.1 0 25 = nI (us + n) ∧ tb.1 0 28 = nI (e + 1) ∧ tb.1 16 e = kd ∧ tb.1 17 e = nI o ∧ tb.1 31 f = nI o ∧ tb.1 32 f = nI e ∧ tb.1 29 f = 2 := by
      rw [htb]
      unfold gr_ent
      simp [gr_ui]
    obtain ⟨b25, b28, b16, b17, b31, b32, b29⟩ := kb
    obtain ⟨m23, m10, m11, m12, m13, m14⟩ := km
    have vb : ∀ q i, (q = 0 → i ≠ 25 ∧ i ≠ 28 ∧ i ≠ 23) → ((q = 16 ∨ q = 17) → i ≠ e) → ((10 ≤ q ∧ q ≤ 14) → i ≠ o) → ((q = 31 ∨ q = 32 ∨ q = 29) → i ≠ f) → tb.1 q i = t.1 q i := fun q i z0 z1 z2 z3 => by
      rw [vb1 q i (fun y => ⟨(z0 y).1, (z0 y).2.1⟩) z1 z3, vm q i (fun y => (z0 y).2.2) z2]
    have vb2 : ∀ q i, (q ≠ 15 ∨ i < us ∨ us + n ≤ i) → tb.2 q i = t.2 q i := fun q i z => by
      rw [htb]
      show tF.2 q i = _
      rw [vF.2.1 q i z, htm]
      rfl
    have kpb : gr_kp (gs_hp s).length us nd t tb := ⟨fun q i hq => vb q i (by unfold gr_pr at hq; omega) (by unfold gr_pr at hq; omega) (by unfold gr_pr at hq; omega) (by unfold gr_pr at hq; omega), fun q i hq => vb2 q i (by unfold gr_prl at hq; omega)⟩
    have Yb : gr_Y X c (us + n) nd tb K s1 := by
      rw [hs1]
      refine Y.grow (X' := X) (ho := [ob]) (he := [(hv, [])]) kpb (by rw [vb 0 6 (by decide) (by omega) (by omega) (by omega)]; exact Y.pl) (Nat.le_refl _) pn (by rw [vb1 0 23 (by decide) (by omega) (by omega), m23, ho]; rfl) b25 (by rw [b28, he]; rfl) (by rw [vb 0 39 (by decide) (by omega) (by omega) (by omega)]; exact Y.n) (by omega) (Nat.le_refl _) (by show gs_size s + 1 ≤ 130; omega) (fun i hi => ⟨vb 16 i (by omega) (by omega) (by omega) (by omega), vb 17 i (by omega) (by omega) (by omega) (by omega)⟩) ?_ ?_ Y.xb (fun _ _ z => z) (by simp) ?_ ?_ ?_ (by omega) nb (by show 3 * ((gs_hp s).length + 1) + c ≤ gs_pl s; omega) (by show 3 * ((gs_hs s).length + 1) + c ≤ gs_pl s; omega)
      · intro j w hw
        have : j = 0 ∧ w = ob := by
          cases j with
          | zero => exact ⟨rfl, by simpa using hw.symm⟩
          | succ j => simp at hw
        obtain ⟨rfl, rfl⟩ := this
        rw [Nat.add_zero, ← ho, hob]
        refine ⟨by rw [vb1 10 o (by omega) (by omega) (by omega)]; exact m10, ⟨show (0 : Int32) ≤ 0 by decide, show (0 : Int32) ≤ 4 by decide⟩, by rw [vb1 11 o (by omega) (by omega) (by omega)]; exact m11, (fun c9 z => (by cases z; exact ca6)), by rw [vb1 14 o (by omega) (by omega) (by omega)]; exact m14, ?_, by show (gs_slot0 K (some ca)).length ≤ 4000; omega, (fun z => absurd (show (0 : Int32) = 4 from z) (by decide)), ?_⟩
        · rw [if_neg (show ¬ (0 : Int32) = 4 by decide), vb1 12 o (by omega) (by omega) (by omega), m12]; show _ = nI (gs_slot0 K (some ca)).length; rw [lenv]
        · unfold gr_ov
          rw [if_neg (show ¬ (0 : Int32) = 1 by decide), if_neg (show ¬ (0 : Int32) = 2 by decide)]
          refine ⟨us, by rw [vb1 13 o (by omega) (by omega) (by omega)]; exact m13, by show us + (gs_slot0 K (some ca)).length ≤ us + n; omega, fun j x hx => ?_⟩
          have hx : (gs_slot0 K (some ca))[j]? = some x := hx
          have lj := (List.getElem?_eq_some_iff.mp hx).1
          rw [htb]
          show tF.2 15 (us + j) = x
          rw [vF.2.2 j (Nat.zero_le _) (by omega), List.getD_eq_getElem?_getD, hx]
          rfl
      · intro j w hw
        have : j = 0 ∧ w = (hv, []) := by
          cases j with
          | zero => exact ⟨rfl, by simpa using hw.symm⟩
          | succ j => simp at hw
        obtain ⟨rfl, rfl⟩ := this
        rw [Nat.add_zero, ← he]
        by_cases k4 : gs_kind C = 4
        · rw [if_pos k4] at hhv hkd
          exact Or.inr (Or.inr (Or.inr ⟨by rw [b16, hkd], by rw [hhv]⟩))
        · rw [if_neg k4] at hhv hkd
          exact Or.inr (Or.inr (Or.inl ⟨by rw [b16, hkd], rfl, by rw [hhv]; exact nI_pos (by omega), by rw [b17, hhv]⟩))
      · intro w hw sw
        exact ⟨us, by rw [← ho, vb1 13 o (by omega) (by omega) (by omega)]; exact m13, Nat.le_refl _, by omega⟩
      · intro j w hw hn0
        have : w = (hv, []) := by
          cases j with
          | zero => simpa using hw.symm
          | succ j => simp at hw
        by_cases k4 : gs_kind C = 4
        · rw [if_pos k4] at hhv
          rw [this, hhv] at hn0
          exact absurd (show (-2 : Int32) < 0 by decide) hn0
        · rw [if_neg k4] at hhv
          exact ⟨o, by show o < (gs_hp s).length + 1; omega, by rw [this, hhv]⟩
      · intro j w hw
        cases j with
        | zero => simp at hw; rw [← hw]
        | succ j => simp at hw
    have pl1 : gs_pl s1 = gs_pl s := by rw [hs1]; rfl
    have hp1 : gs_hp s1 = gs_hp s ++ [ob] := by rw [hs1]; rfl
    have hh1 : gs_hs s1 = gs_hs s ++ [(hv, [])] := by rw [hs1]; rfl
    have ff1 : gs_f1 s1 = gs_f1 s := by rw [hs1]; rfl
    have hfl := Y.hh.2.2.1
    have sz1 : gs_size s1 = e + 1 := by
      unfold gs_size at he ⊢
      rw [hh1, ff1, List.length_append]
      show (gs_hs s).length + 1 - gs_f1 s = _
      omega
    have ap1 : gs_ap s s1 := ⟨by rw [hp1]; exact List.prefix_append _ _, by rw [hh1]; exact List.prefix_append _ _, ff1, by omega⟩
    obtain ⟨p1, p2, p3, p4, p5, p6, p7, p8, p9⟩ := gr_push_fr (t := tb) (tp := f + 1) (k := 3) (dd := nI dp) (a := nI o) (b := nI k)
    rw [← x1] at p1 p2 p3 p4 p5 p6 p7 p8 p9
    have hm1 : gr_hm tb t1 := by rw [x1]; exact gr_hm.refl.push
    have fr1 : gr_fr (f + 1) tb t1 := by rw [x1]; exact gr_fr.refl.push (Nat.le_refl _)
    have a8 : tb.1 0 8 = 0 := by rw [vb 0 8 (by decide) (by omega) (by omega) (by omega)]; exact h8
    have e13 : t1.1 13 o = nI us := by rw [hm1.1 13 o (by decide) (fun z => absurd z (by decide)), vb1 13 o (by omega) (by omega) (by omega)]; exact m13
    have ch1 : gr_chn (gr_NX X nd) t1 K (l :: L) (nI k) := by
      rw [k9] at ch
      exact (ch.kp kpb (fun z hz => hz.1)).kp (hm1.kp (hb := 0) (ub := 0) (nb := nd)) (fun z hz => hz.1)
    have I1 : gr_DI K X c (f + 1) o us ca dp (nI k) (l :: L) tb s us nd 0 0 0 s1 t1 := ⟨us + n, nd, ⟨Yb.hm hm1, p9.trans a8, p8⟩, ⟨p1, p2, p3, p4, p5, p6, p7⟩, ch1, ⟨⟨ob, by rw [hp1, ho, List.getElem?_append_right (Nat.le_refl _), Nat.sub_self]; rfl, by rw [hob], by rw [hob], by rw [hob]; show (gs_slot0 K (some ca)).length = _; rw [lenv, hn]⟩, e13⟩, ⟨⟨by omega, Nat.le_refl _⟩, fr1, ⟨hm1.eh, by omega, hv, by rw [hh1]; exact List.prefix_refl _⟩, hm1.kp, ap1⟩, by rw [pl1, sz1]; omega, by rw [pl1]; omega⟩
    refine (gr_dats (L := l :: L) RC hK.1 hd hdp ⟨ca6, cas⟩ (Nat.le_refl _) (by omega) (by omega) hL (l :: L).reverse 0 s1 t1 rfl (Nat.zero_le _) I1).bind (fun t2 x2 => ?_)
    cases er : gs_dats K rc (some ca) o (l :: L).reverse s1 with
    | error x =>
      rw [er] at x2
      exact .done (gr_O.er (gs_b_er er) (gr_F.from x2 kpb (Nat.le_refl _) (Nat.le_refl _) (Nat.le_refl _)))
    | ok w =>
      rw [er] at x2
      obtain ⟨us2, nd2, ⟨Y2, g8, g47⟩, OO, BB, sz2⟩ := x2
      rw [gs_b_ok (a := w.1) (s1 := w.2) er, gs_b_ok (m := gs_g) (a := w.2) (s1 := w.2) rfl]
      obtain ⟨s2, hs2⟩ : ∃ s2, s2 = w.2 := ⟨_, rfl⟩
      rw [← hs2] at Y2 OO BB sz2 ⊢
      obtain ⟨B1, B2, B3, B4, B5⟩ := BB
      obtain ⟨o720, ol2, o11, oat, oat4⟩ := OO.to Y2 (by omega)
      obtain ⟨⟨y, y1, y2, y3, y4⟩, y13⟩ := OO
      have ff : ∀ x, 28 ≤ x → x ≤ 34 → t2.1 x f = tb.1 x f := fun x x1 x2 => B2 x f x1 x2 (by omega)
      have j28 : t2.1 28 f = 1 := by rw [ff 28 (by omega) (by omega), vb 28 f (by omega) (by omega) (by omega) (by omega)]; exact f28
      have j29 : t2.1 29 f = 2 := by rw [ff 29 (by omega) (by omega)]; exact b29
      have j31 : t2.1 31 f = nI o := by rw [ff 31 (by omega) (by omega)]; exact b31
      have j32 : t2.1 32 f = nI e := by rw [ff 32 (by omega) (by omega)]; exact b32
      have j17 : t2.1 17 e = nI o := by rw [B3.1 e (by omega)]; exact b17
      have eg : (gs_hp s2).getD o (0, none, [], 0, 0) = y := by rw [List.getD_eq_getElem?_getD, y1]; rfl
      have hb2 := Y2.hb
      have pn2 := Y2.pn
      have u42 := Y2.us4
      have hv0 : gs_fs C ≠ [] → t2.2 15 us = y.2.2.1.getD 0 0 := by
        intro hne
        have o9 := (Y2.pp.2 o y y1).2.2.2.2.2.2.2.2
        unfold gr_ov at o9
        rw [if_neg (by rw [y2]; decide), if_neg (by rw [y2]; decide)] at o9
        obtain ⟨q, q1, q2, q3⟩ := o9
        have qe : q = us := (nI_eq (by omega) (by omega)).mp (q1.symm.trans y13)
        have lp : 0 < y.2.2.1.length := by
          rw [y4, gs_first_lt Y.wf hC]
          have := List.length_pos_iff.mpr hne
          omega
        have := q3 0 _ (List.getElem?_eq_getElem lp)
        rw [Nat.add_zero, qe] at this
        rw [this, List.getD_eq_getElem?_getD, List.getElem?_eq_getElem lp]
        rfl
      refine .step g47 (by omega) g8 (gr_sr2 (by omega) g47 (by omega) j28 j29 (m_eI (C := C) (v0 := y.2.2.1.getD 0 0) (ca := ca) (at_ := us) (by omega) (by omega) ca6 hC (by have := Y2.hh.2.1; have := B5.size; omega) o720 g8 j31 j32 o11 y13 (by omega) hv0 Y2.C)) (fun t3 x3 => ?_)
      unfold gr_eI at x3
      rw [eg]
      have kp2 : gr_kp (gs_hp s).length us nd t t2 := kpb.trans B4
      by_cases bad : gs_kind C = 4 ∧ (gs_fs C).head?.any (fun q => decide (q.2 < 6)) = true ∧ y.2.2.1.getD 0 0 < 0
      · rw [if_pos bad] at x3 ⊢
        subst x3
        exact .done (gr_O.er rfl (gr_F.ui (by decide) kp2))
      rw [if_neg bad] at x3 ⊢
      have ap2 := B5
      have i1 : gs_f1 s2 = gs_f1 s := ap2.2.2.1
      have hix : (gs_hs s).length = gs_f1 s2 + e := by rw [i1]; unfold gs_size at he; omega
      have sz2' : e < gs_size s2 := by have := B3.2.1; omega
      have hh2 : ∃ w9, (gs_hs s2)[gs_f1 s2 + e]? = some (w9, []) := by
        obtain ⟨w9, hp9⟩ := B3.2.2
        refine ⟨w9, gs_pre_get hp9 ?_⟩
        rw [← hix, List.getElem?_append_right (Nat.le_refl _), Nat.sub_self]
        rfl
      obtain ⟨w9, hh2⟩ := hh2
      have e16 : gr_ui t2 16 e 2 = gr_ui (gr_ui t2 16 e 2) 17 e (nI o) := by
        refine (gr_ui_id ?_).symm
        rw [gr_ui_no (by decide)]
        exact j17
      rw [x3, e16]
      refine .done (gr_O.setE (w := w9) (by rw [hix]; rfl) B1 Y2 g8 g47 (fun q i q1 q2 q3 => ?_) (fun i hi => ?_) kp2 ap2 (by omega) sz2' hh2 ol2 sz2)
      · rw [B2 q i q1 q2 (by omega), vb q i (by omega) (by omega) (by omega) (by omega)]
      · rw [B3.1 i (by omega), vb 17 i (by omega) (by omega) (by omega) (by omega)]
end NU
