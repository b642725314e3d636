/-! THE REFERENCE, 50: an array, whole. -/
section NN
variable {X N : Nat → Prop} {E : Nat → Value} {d m f n p dp c us nd k e o j cnt hb ub nb B pp a : Nat} {h : gm_H} {t t' : gr_t} {K : gs_K} {s s' s'' : gs_S} {rc : gs_M Int32} {P : gr_t → Prop} {l : gs_L} {Q : gm_R → gm_H → Prop}
def gs_arrK (K : gs_K) (rc : gs_M Int32) (d : Nat) (l : gs_L) : gs_M Int32 :=
  if gs_spelt K (gs_nf l) (gs_nl l) gs_tI = false ∧ gs_spelt K (gs_nf l) (gs_nl l) gs_tR = false then gs_x (-5) else gs_b (gs_u4 K) fun n => if n < 0 then gs_x (-6) else gs_b (gs_lim K l d n) fun _ =>
  gs_b (gs_addT (if gs_spelt K (gs_nf l) (gs_nl l) gs_tI = true then 2 else 3, none, List.replicate n.toNatClampNeg (if gs_spelt K (gs_nf l) (gs_nl l) gs_tI = true then 0 else gs_fill K), 0, 0)) fun o => gs_b (gs_addE (nI o)) fun _ =>
  gs_b (if gs_spelt K (gs_nf l) (gs_nl l) gs_tI = true then gs_ints K o n.toNatClampNeg 0 else gs_refs rc o n.toNatClampNeg 0) fun _ => gs_r (nI o)
theorem gr_arr (RC : gr_RC E d h m K (dp + 1) rc) (hK : gs_kor K) (hd : 12 ≤ d) (hdp : 1 ≤ dp ∧ dp ≤ 8) {L : List gs_L} (Y : gr_Y X (c + 6) us nd t K s) (h8 : t.1 0 8 = 0) (h47 : t.1 0 47 = nI (f + 1)) (hf : t.1 28 f = 1 ∧ t.1 29 f = 3 ∧ t.1 30 f = nI dp) (h14 : 14 * f + 42 ≤ 42 * dp + gs_pl s) (hsz : 14 * gs_size s ≤ 14 * (69 - dp) + gs_pl s) (ch : gr_chn (gr_NX X nd) t K (l :: L) (t.1 0 9)) : gr_Rn E d h m (gr_O K X c us nd f f t s (gr_W dp) (gs_arrK K rc dp l s)) t := by
  obtain ⟨f28, f29, f30⟩ := hf
  obtain ⟨k, k9, kN, ⟨D, tys⟩, -⟩ := ch
  have n7 := Y.n7
  have pn := Y.pn
  have nb := Y.nb
  have hb := Y.hb
  have eb := Y.eb
  have ub := Y.ub
  have f79 : f < 79 := by omega
  have k130 : k < 130 := by have := kN.1; omega
  have e130 : gs_size s < 130 := by omega
  obtain ⟨e, he⟩ : ∃ e, e = gs_size s := ⟨_, rfl⟩
  obtain ⟨o, ho⟩ : ∃ o, o = (gs_hp s).length := ⟨_, rfl⟩
  refine .step h47 (by omega) h8 (gr_sr3 (by omega) h47 (by omega) f28 f29 (m_nA (s := s) (l := l) (e := e) (o := o) (us := us) (hb := (gs_hp s).length) (ub := us) (nb := nd) (by omega) f79 k130 (by omega) (by omega) h8 k9 h47 (by rw [he]; exact Y.hh.1) he (by rw [ho]; exact Y.pp.1) Y.u (by omega) f30 Y.pl pn Y.lm Y.B Y.C hK.2.2 D (by omega))) (fun t1 x1 => ?_)
  unfold gr_nA at x1
  unfold gs_arrK
  by_cases c0 : gs_spelt K (gs_nf l) (gs_nl l) gs_tI = false ∧ gs_spelt K (gs_nf l) (gs_nl l) gs_tR = false
  · have s0 : gr_shape K l = 0 := by unfold gr_shape; rw [if_neg (by simp [c0.1]), if_neg (by simp [c0.2])]
    rw [if_pos s0] at x1
    rw [if_pos c0]
    exact .done (gr_O.er rfl x1)
  have s0 : ¬ gr_shape K l = 0 := by
    unfold gr_shape
    by_cases y1 : gs_spelt K (gs_nf l) (gs_nl l) gs_tI = true
    · rw [if_pos y1]; decide
    · rw [if_neg y1]
      by_cases y2 : gs_spelt K (gs_nf l) (gs_nl l) gs_tR = true
      · rw [if_pos y2]; decide
      · exact absurd ⟨by simpa using y1, by simpa using y2⟩ c0
  rw [if_neg s0] at x1
  rw [if_neg c0]
  rcases Nat.lt_or_ge (gs_n K) (gs_pl s + 4) with z | z
  · rw [if_pos z] at x1
    exact .done (gr_O.er (gs_b_er (gs_u4_n z)) x1)
  rw [if_neg (by omega)] at x1
  rw [gs_b_ok (gs_u4_y z)]
  obtain ⟨nn, hnn⟩ : ∃ nn, nn = (gs_num K (gs_pl s) 4).toInt32 := ⟨_, rfl⟩
  rw [← hnn] at x1 ⊢
  by_cases c1 : nn < 0
  · rw [if_pos c1] at x1 ⊢
    exact .done (gr_O.er rfl x1)
  rw [if_neg c1] at x1 ⊢
  rcases gs_lim_c (K := K) (s := gs_p (gs_pl s + 4) s) (l := l) (dd := dp) (n := nn) with el | el
  · rw [el] at x1
    exact .done (gr_O.er (gs_b_er el) x1)
  rw [el] at x1
  rw [gs_b_ok el]
  obtain ⟨n, n20, hn, x1⟩ := x1
  rw [hn, nI_clamp (by omega)]
  obtain ⟨P4, hP4⟩ : ∃ P4, P4 = gs_pl s + 4 := ⟨_, rfl⟩
  rw [← hP4] at x1 z ⊢
  obtain ⟨ta, hta⟩ : ∃ ta, ta = gr_ui t 0 6 (nI P4) := ⟨_, rfl⟩
  rw [← hta] at x1
  have sp : gs_p P4 s = (P4, gs_hp s, gs_hs s, gs_f1 s) := rfl
  have adT : ∀ ob : gs_O, gs_addT ob (gs_p P4 s) = .ok (o, (P4, gs_hp s ++ [ob], gs_hs s, gs_f1 s)) := fun ob => by
    unfold gs_addT
    show (if 234 ≤ (gs_hp s).length then _ else _) = _
    rw [if_neg (by omega), ho]
    rfl
  have adE : ∀ ob : gs_O, gs_addE (nI o) (P4, gs_hp s ++ [ob], gs_hs s, gs_f1 s) = .ok ((gs_hs s).length, (P4, gs_hp s ++ [ob], gs_hs s ++ [(nI o, [])], gs_f1 s)) := fun ob => by
    unfold gs_addE
    show (if 234 ≤ (gs_hs s).length then _ else _) = _
    rw [if_neg (by omega)]
    rfl
  have hfl := Y.hh.2.2.1
  have szn : ∀ (p : Nat) (H : List gs_O), gs_size (p, H, gs_hs s ++ [(nI o, [])], gs_f1 s) = e + 1 := fun p H => by
    show (gs_hs s ++ [(nI o, [])]).length - gs_f1 s = _
    rw [List.length_append]
    unfold gs_size at he
    show (gs_hs s).length + 1 - gs_f1 s = _
    omega
  -- what the row of handles and the counters say
  have vM : ∀ (so : Int32) (aa : Nat) q i, (q = 0 → i ≠ 23 ∧ i ≠ 28 ∧ i ≠ 6) → ((q = 16 ∨ q = 17) → i ≠ e) → ((10 ≤ q ∧ q ≤ 14) → i ≠ o) → (gr_mkA ta e o so n aa).1 q i = t.1 q i := fun so aa q i z0 z1 z2 => by
    rw [gr_mkA_v (fun y => ⟨(z0 y).1, (z0 y).2.1⟩) z1 z2, hta]
    by_cases e0 : q = 0
    · rw [gr_ui_ni (z0 e0).2.2]
    · rw [gr_ui_no e0]
  by_cases s1 : gs_spelt K (gs_nf l) (gs_nl l) gs_tI = true
  · have sh1 : gr_shape K l = 1 := by unfold gr_shape; rw [if_pos s1]
    rw [if_pos sh1] at x1
    rw [if_pos s1, if_pos s1, gs_b_ok (adT _), gs_b_ok (adE _), if_pos s1]
    have gi := gs_ints_eq (K := K) (H := gs_hp s) (hs := gs_hs s ++ [(nI o, [])]) (f1 := gs_f1 s) n 0 P4 (List.replicate n 0) z
    rw [← ho] at gi
    by_cases c2 : P4 + 4 * n ≤ gs_n K
    · rw [if_pos c2] at x1 gi
      rw [gs_b_ok gi]
      obtain ⟨vs, hvs⟩ : ∃ vs, vs = gs_iv K P4 (List.replicate n 0) n 0 := ⟨_, rfl⟩
      rw [← hvs]
      have vl : vs.length = n := by rw [hvs, gs_iv_len, List.length_replicate]
      obtain ⟨tb, htb⟩ : ∃ tb, tb = gr_ui (gr_mkA ta e o 2 n P4) 0 6 (nI (P4 + 4 * n)) := ⟨_, rfl⟩
      rw [← htb] at x1
      have vb : ∀ q i, (q = 0 → i ≠ 23 ∧ i ≠ 28 ∧ i ≠ 6) → ((q = 16 ∨ q = 17) → i ≠ e) → ((10 ≤ q ∧ q ≤ 14) → i ≠ o) → tb.1 q i = t.1 q i := fun q i z0 z1 z2 => by
        rw [htb]
        by_cases e0 : q = 0
        · rw [gr_ui_ni (z0 e0).2.2]; exact vM _ _ q i z0 z1 z2
        · rw [gr_ui_no e0]; exact vM _ _ q i z0 z1 z2
      have vb2 : tb.2 = t.2 := by rw [htb, hta]; rfl
      obtain ⟨m23, m28, m16, m17, m10, m11, m12, m13, m14⟩ := gr_mkA_k (t := ta) (e := e) (o := o) (so := 2) (n := n) (a := P4)
      have up : ∀ q i, (q = 0 → i ≠ 6) → tb.1 q i = (gr_mkA ta e o 2 n P4).1 q i := fun q i z0 => by
        rw [htb]
        by_cases e0 : q = 0
        · rw [gr_ui_ni (z0 e0)]
        · rw [gr_ui_no e0]
      have kpb : gr_kp (gs_hp s).length us nd t tb := ⟨fun q i hq => vb q i (by unfold gr_pr at hq; omega) (by unfold gr_pr at hq; omega) (by unfold gr_pr at hq; omega), fun q i _ => by rw [vb2]⟩
      have Yb : gr_Y X c us nd tb K (P4 + 4 * n, gs_hp s ++ [(2, none, vs, 0, 0)], gs_hs s ++ [(nI o, [])], gs_f1 s) := by
        refine Y.grow (X' := X) (ho := [(2, none, vs, 0, 0)]) (he := [(nI o, [])]) kpb (by rw [htb, gr_ui_eq]) (by omega) c2 (by rw [up 0 23 (by decide), m23, ho]; rfl) (by rw [vb 0 25 (by decide) (by omega) (by omega)]; exact Y.u) (by rw [up 0 28 (by decide), m28, he]; rfl) (by rw [vb 0 39 (by decide) (by omega) (by omega)]; exact Y.n) (Nat.le_refl _) (Nat.le_refl _) (by show gs_size s + 1 ≤ 130; omega) (fun i hi => ⟨vb 16 i (by omega) (by omega) (by omega), vb 17 i (by omega) (by omega) (by omega)⟩) ?_ ?_ Y.xb (fun _ _ z => z) (by simp) ?_ ?_ ?_ (by omega) (by omega) (by show 3 * ((gs_hp s).length + 1) + c ≤ P4 + 4 * n; omega) (by show 3 * ((gs_hs s).length + 1) + c ≤ P4 + 4 * n; omega)
        · intro j w hw
          have : j = 0 ∧ w = (2, none, vs, 0, 0) := by
            cases j with
            | zero => exact ⟨rfl, by simpa using hw.symm⟩
            | succ j => simp at hw
          obtain ⟨rfl, rfl⟩ := this
          rw [Nat.add_zero, ← ho]
          refine ⟨by rw [up 10 o (by omega)]; exact m10, ⟨show (0 : Int32) ≤ 2 by decide, show (2 : Int32) ≤ 4 by decide⟩, by rw [up 11 o (by omega)]; exact m11, (fun c9 z => (by cases z)), by rw [up 14 o (by omega)]; exact m14, ?_, by show vs.length ≤ 4000; omega, (fun z => absurd (show (2 : Int32) = 4 from z) (by decide)), ?_⟩
          · rw [if_neg (show ¬ (2 : Int32) = 4 by decide), up 12 o (by omega), m12]; show _ = nI vs.length; rw [vl]
          · unfold gr_ov
            rw [if_neg (show ¬ (2 : Int32) = 1 by decide), if_pos (show (2 : Int32) = 2 from rfl)]
            refine ⟨P4, by rw [up 13 o (by omega)]; exact m13, by show P4 + 4 * vs.length ≤ _; rw [vl]; exact c2, fun j x hx => ?_⟩
            have hx : vs[j]? = some x := hx
            have lj := (List.getElem?_eq_some_iff.mp hx).1
            rw [hvs, gs_iv_get n 0 P4 _ j (by rw [List.length_replicate]; omega) (by rw [List.length_replicate]; omega), if_pos (by omega), Nat.sub_zero] at hx
            exact (Option.some.inj hx).symm
        · intro j w hw
          have : j = 0 ∧ w = (nI o, []) := by
            cases j with
            | zero => exact ⟨rfl, by simpa using hw.symm⟩
            | succ j => simp at hw
          obtain ⟨rfl, rfl⟩ := this
          rw [Nat.add_zero, ← he]
          exact Or.inr (Or.inr (Or.inl ⟨by rw [up 16 e (by omega)]; exact m16, rfl, nI_pos (by omega), by rw [up 17 e (by omega)]; exact m17⟩))
        · intro w hw sw
          have : w = (2, none, vs, 0, 0) := by simpa using hw.symm
          rw [this] at sw
          have sw : (2 : Int32) = 0 ∨ (2 : Int32) = 3 := sw
          exact absurd sw (by decide)
        · intro j w hw hn
          have : w = (nI o, []) := by
            cases j with
            | zero => simpa using hw.symm
            | succ j => simp at hw
          exact ⟨o, by show o < (gs_hp s).length + 1; omega, by rw [this]⟩
        · intro j w hw
          cases j with
          | zero => simp at hw; rw [← hw]
          | succ j => simp at hw
      have a8 : tb.1 0 8 = 0 := by rw [vb 0 8 (by decide) (by omega) (by omega)]; exact h8
      have a47 : tb.1 0 47 = nI (f + 1) := by rw [vb 0 47 (by decide) (by omega) (by omega)]; exact h47
      rw [x1]
      refine .done (gr_O.give rfl ⟨Nat.le_refl _, Nat.le_refl _⟩ Yb a8 a47 (fun q i q1 q2 q3 => vb q i (by omega) (by omega) (by omega)) (fun i hi => vb 17 i (by omega) (by omega) (by omega)) kpb ⟨List.prefix_append _ _, List.prefix_append _ _, rfl, by show gs_pl s ≤ P4 + 4 * n; omega⟩ ⟨(gr_give8 a8 a47).2, Or.inr ⟨o, by show o < (gs_hp s ++ [_]).length; rw [List.length_append]; show o < (gs_hp s).length + 1; omega, rfl⟩, ?_⟩)
      rw [szn]
      show 14 * (e + 1) ≤ 14 * (70 - dp) + (P4 + 4 * n)
      omega
    · rw [if_neg c2] at x1 gi
      exact .done (gr_O.er (gs_b_er gi) x1)
  · have sh2 : ¬ gr_shape K l = 1 := by
      unfold gr_shape
      rw [if_neg s1]
      split <;> decide
    rw [if_neg sh2] at x1
    rw [if_neg s1, if_neg s1, hK.2.1, gs_b_ok (adT _), gs_b_ok (adE _), if_neg s1]
    obtain ⟨tb, htb⟩ : ∃ tb, tb = gr_aR (gr_mkA ta e o 3 n us) f o us n := ⟨_, rfl⟩
    rw [← htb] at x1
    have up : ∀ q i, (q = 0 → i ≠ 25) → ((q = 31 ∨ q = 32 ∨ q = 29) → i ≠ f) → tb.1 q i = (gr_mkA ta e o 3 n us).1 q i := fun q i z0 z1 => by
      have u : ∀ (t : gr_t) (o2 i2 : Nat) (x : Int32), (q = o2 → i ≠ i2) → (gr_ui t o2 i2 x).1 q i = t.1 q i := fun t o2 i2 x z => by
        show (if q = o2 ∧ i = i2 then x else t.1 q i) = t.1 q i
        rw [if_neg (fun y => z y.1 y.2)]
      rw [htb]
      unfold gr_aR
      rw [u _ _ _ _ (fun y => z1 (by omega)), u _ _ _ _ (fun y => z1 (by omega)), u _ _ _ _ (fun y => z1 (by omega)), u _ _ _ _ z0, gr_fil_1]
    have tb2 : ∀ q i, (q ≠ 15 ∨ i < us ∨ us + n ≤ i) → tb.2 q i = t.2 q i := fun q i z => by
      rw [htb]
      show (gr_fil (gr_mkA ta e o 3 n us) us n).2 q i = _
      rw [gr_fil_2 n q i z, hta]
      rfl
    have vb : ∀ q i, (q = 0 → i ≠ 23 ∧ i ≠ 28 ∧ i ≠ 6 ∧ i ≠ 25) → ((q = 16 ∨ q = 17) → i ≠ e) → ((10 ≤ q ∧ q ≤ 14) → i ≠ o) → ((q = 31 ∨ q = 32 ∨ q = 29) → i ≠ f) → tb.1 q i = t.1 q i := fun q i z0 z1 z2 z3 => by
      rw [up q i (fun y => (z0 y).2.2.2) z3]
      exact vM _ _ q i (fun y => ⟨(z0 y).1, (z0 y).2.1, (z0 y).2.2.1⟩) z1 z2
    obtain ⟨m23, m28, m16, m17, m10, m11, m12, m13, m14⟩ := gr_mkA_k (t := ta) (e := e) (o := o) (so := 3) (n := n) (a := us)
    have fb : tb.1 0 25 = nI (us + n) ∧ tb.1 31 f = nI o ∧ tb.1 32 f = 0 ∧ tb.1 29 f = 4 := by
      rw [htb]
      unfold gr_aR
      simp [gr_ui]
    obtain ⟨b25, b31, b32, b29⟩ := fb
    have b6 : tb.1 0 6 = nI P4 := by rw [up 0 6 (by decide) (by omega), gr_mkA_v (by decide) (by omega) (by omega), hta, gr_ui_eq]
    have kpb : gr_kp (gs_hp s).length us nd t tb := ⟨fun q i hq => vb q i (by unfold gr_pr at hq; omega) (by unfold gr_pr at hq; omega) (by unfold gr_pr at hq; omega) (by unfold gr_pr at hq; omega), fun q i hq => tb2 q i (by unfold gr_prl at hq; omega)⟩
    obtain ⟨ob, hob⟩ : ∃ ob : gs_O, ob = (3, none, List.replicate n (-2), 0, 0) := ⟨_, rfl⟩
    rw [← hob]
    have Yb : gr_Y X c (us + n) nd tb K (P4, gs_hp s ++ [ob], gs_hs s ++ [(nI o, [])], gs_f1 s) := by
      refine Y.grow (X' := X) (ho := [ob]) (he := [(nI o, [])]) kpb b6 (by omega) z (by rw [up 0 23 (by decide) (by omega), m23, ho]; rfl) b25 (by rw [up 0 28 (by decide) (by omega), m28, he]; rfl) (by rw [vb 0 39 (by decide) (by omega) (by omega) (by omega)]; exact Y.n) (by omega) (Nat.le_refl _) (by show gs_size s + 1 ≤ 130; omega) (fun i hi => ⟨vb 16 i (by omega) (by omega) (by omega) (by omega), vb 17 i (by omega) (by omega) (by omega) (by omega)⟩) ?_ ?_ Y.xb (fun _ _ z => z) (by simp) ?_ ?_ ?_ (by omega) (by omega) (by show 3 * ((gs_hp s).length + 1) + c ≤ P4; omega) (by show 3 * ((gs_hs s).length + 1) + c ≤ P4; omega)
      · intro j w hw
        have : j = 0 ∧ w = ob := by
          cases j with
          | zero => exact ⟨rfl, by simpa using hw.symm⟩
          | succ j => simp at hw
        obtain ⟨rfl, rfl⟩ := this
        rw [Nat.add_zero, ← ho, hob]
        refine ⟨by rw [up 10 o (by omega) (by omega)]; exact m10, ⟨show (0 : Int32) ≤ 3 by decide, show (3 : Int32) ≤ 4 by decide⟩, by rw [up 11 o (by omega) (by omega)]; exact m11, (fun c9 z => (by cases z)), by rw [up 14 o (by omega) (by omega)]; exact m14, ?_, by show (List.replicate n (-2 : Int64)).length ≤ 4000; rw [List.length_replicate]; omega, (fun z => absurd (show (3 : Int32) = 4 from z) (by decide)), ?_⟩
        · rw [if_neg (show ¬ (3 : Int32) = 4 by decide), up 12 o (by omega) (by omega), m12]; show _ = nI (List.replicate n (-2 : Int64)).length; rw [List.length_replicate]
        · unfold gr_ov
          rw [if_neg (show ¬ (3 : Int32) = 1 by decide), if_neg (show ¬ (3 : Int32) = 2 by decide)]
          refine ⟨us, by rw [up 13 o (by omega) (by omega)]; exact m13, by show us + (List.replicate n (-2 : Int64)).length ≤ _; rw [List.length_replicate]; exact Nat.le_refl _, fun j x hx => ?_⟩
          have hx : (List.replicate n (-2 : Int64))[j]? = some x := hx
          have lj := (List.getElem?_eq_some_iff.mp hx).1
          rw [List.length_replicate] at lj
          rw [List.getElem?_replicate, if_pos lj] at hx
          rw [htb]
          show (gr_fil (gr_mkA ta e o 3 n us) us n).2 15 (us + j) = x
          rw [gr_fil_in n j lj]
          exact Option.some.inj hx
      · intro j w hw
        have : j = 0 ∧ w = (nI o, []) := by
          cases j with
          | zero => exact ⟨rfl, by simpa using hw.symm⟩
          | succ j => simp at hw
        obtain ⟨rfl, rfl⟩ := this
        rw [Nat.add_zero, ← he]
        exact Or.inr (Or.inr (Or.inl ⟨by rw [up 16 e (by omega) (by omega)]; exact m16, rfl, nI_pos (by omega), by rw [up 17 e (by omega) (by omega)]; exact m17⟩))
      · intro w hw sw
        exact ⟨us, by rw [← ho, up 13 o (by omega) (by omega)]; exact m13, Nat.le_refl _, by omega⟩
      · intro j w hw hn
        have : w = (nI o, []) := by
          cases j with
          | zero => simpa using hw.symm
          | succ j => simp at hw
        exact ⟨o, by show o < (gs_hp s).length + 1; omega, by rw [this]⟩
      · intro j w hw
        cases j with
        | zero => simp at hw; rw [← hw]
        | succ j => simp at hw
    have a8 : tb.1 0 8 = 0 := by rw [vb 0 8 (by decide) (by omega) (by omega) (by omega)]; exact h8
    have a47 : tb.1 0 47 = nI (f + 1) := by rw [vb 0 47 (by decide) (by omega) (by omega) (by omega)]; exact h47
    have frb : gr_fr f t tb := fun q i q1 q2 q3 => vb q i (by omega) (by omega) (by omega) (by omega)
    have ehb : gr_eh (gs_size s) t tb := fun i hi => vb 17 i (by omega) (by omega) (by omega) (by omega)
    have apb : gs_ap s (P4, gs_hp s ++ [ob], gs_hs s ++ [(nI o, [])], gs_f1 s) := ⟨List.prefix_append _ _, List.prefix_append _ _, rfl, by show gs_pl s ≤ P4; omega⟩
    by_cases n0 : n = 0
    · rw [if_pos n0] at x1
      rw [x1, n0]
      refine .done (gr_O.give rfl ⟨by omega, Nat.le_refl _⟩ Yb a8 a47 frb ehb kpb apb ⟨(gr_give8 a8 a47).2, Or.inr ⟨o, by show o < (gs_hp s ++ [_]).length; rw [List.length_append]; show o < (gs_hp s).length + 1; omega, rfl⟩, ?_⟩)
      rw [szn]
      show 14 * (e + 1) ≤ 14 * (70 - dp) + P4
      omega
    · rw [if_neg n0] at x1
      obtain ⟨p1, p2, p3, p4, p5, p6, p7, p8, p9⟩ := gr_push_fr (t := tb) (tp := f + 1) (k := 1) (dd := nI (dp + 1)) (a := 0) (b := 0)
      rw [← x1] at p1 p2 p3 p4 p5 p6 p7 p8 p9
      have hm1 : gr_hm tb t1 := by rw [x1]; exact gr_hm.refl.push
      have fr1 : gr_fr (f + 1) tb t1 := by rw [x1]; exact gr_fr.refl.push (Nat.le_refl _)
      have fa : ∀ q, 28 ≤ q → q ≤ 34 → t1.1 q f = tb.1 q f := fun q q1 q2 => fr1 q f q1 q2 (by omega)
      have g := gr_refs (X := X) (c := c) (f := f) (o := o) (n := n) (a := us) (us0 := us) (nd0 := nd) (t0 := t) (s0 := s) RC hd hdp (Nat.le_refl _) (by omega) n20 (n - 1) 0 (us + n) nd t1 (P4, gs_hp s ++ [ob], gs_hs s ++ [(nI o, [])], gs_f1 s) ob (by omega) (Yb.hm hm1) (p9.trans a8) p8 ⟨by rw [fa 28 (by omega) (by omega), vb 28 f (by omega) (by omega) (by omega) (by omega)]; exact f28, by rw [fa 29 (by omega) (by omega)]; exact b29, by rw [fa 30 (by omega) (by omega), vb 30 f (by omega) (by omega) (by omega) (by omega)]; exact f30, by rw [fa 31 (by omega) (by omega)]; exact b31, by rw [fa 32 (by omega) (by omega)]; exact b32⟩ ⟨p1, p2, p3⟩ (by show 14 * f + 14 ≤ 42 * dp + P4; omega) (by show (gs_hp s ++ [ob])[o]? = _; rw [ho, List.getElem?_append_right (Nat.le_refl _), Nat.sub_self]; rfl) (by rw [hob]) (by rw [hob]; exact List.length_replicate) (by rw [hm1.1 13 o (by decide) (fun q => absurd q (by decide)), up 13 o (by omega) (by omega)]; exact m13) ⟨by omega, Nat.le_refl _⟩ (frb.trans (fr1.wk (Nat.le_succ f))) (ehb.trans hm1.eh) (kpb.trans hm1.kp) apb (by omega)
      rw [show n - 1 + 1 = n by omega] at g
      exact g
end NN
