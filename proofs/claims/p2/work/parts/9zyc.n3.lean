/-! THE REFERENCE, 30: what is made and what is changed under way. -/
section N3
variable {X : Nat → Prop} {t t' : gr_t} {c c' us us' nd nd' p : Nat} {K : gs_K} {s : gs_S}
theorem gs_app {α : Type} {a b : List α} {i : Nat} {x : α} (h : (a ++ b)[i]? = some x) : (i < a.length ∧ a[i]? = some x) ∨ ∃ j, i = a.length + j ∧ b[j]? = some x := by
  rw [List.getElem?_append] at h
  by_cases z : i < a.length
  · rw [if_pos z] at h; exact Or.inl ⟨z, h⟩
  · rw [if_neg z] at h; exact Or.inr ⟨i - a.length, by omega, h⟩
theorem gs_dn_app {l : List (Int32 × List gs_L)} : (gs_hs s).countP gs_isd ≤ (gs_hs s ++ l).countP gs_isd := by rw [List.countP_append]; omega
theorem gs_mod_get {α : Type} {l : List α} {e j : Nat} {g : α → α} {w v : α} (hw : l[e]? = some w) (h : (l.modify e g)[j]? = some v) : (j = e ∧ v = g w) ∨ (j ≠ e ∧ l[j]? = some v) := by
  rw [List.getElem?_modify] at h
  by_cases y : e = j
  · subst y
    rw [hw] at h
    simp at h
    exact Or.inl ⟨rfl, h.symm⟩
  · simp [y] at h
    exact Or.inr ⟨Ne.symm y, h⟩
theorem gr_Y.grow {X' : Nat → Prop} {ho : List gs_O} {he : List (Int32 × List gs_L)} (Y : gr_Y X c us nd t K s) (q : gr_kp (gs_hp s).length us nd t t') (h6 : t'.1 0 6 = nI p) (hp : gs_pl s ≤ p) (hpn : p ≤ gs_n K)
    (h23 : t'.1 0 23 = nI ((gs_hp s).length + ho.length)) (h25 : t'.1 0 25 = nI us') (h28 : t'.1 0 28 = nI (gs_size s + he.length)) (h39 : t'.1 0 39 = nI nd') (hus : us ≤ us') (hnd : nd ≤ nd') (hsz : gs_size s + he.length ≤ 130)
    (e : ∀ i, i < gs_size s → t'.1 16 i = t.1 16 i ∧ t'.1 17 i = t.1 17 i)
    (no : ∀ j o, ho[j]? = some o → gr_ob t' K us' ((gs_hp s).length + j) o) (ne : ∀ j w, he[j]? = some w → gr_enn (gr_NX X' nd') t' K (gs_size s + j) w) (hX : ∀ k, X' k → k < nd') (hX1 : ∀ k, k < nd → X' k → X k)
    (ho1 : ho.length ≤ 1) (dj : ∀ o, ho[0]? = some o → (o.1 = 0 ∨ o.1 = 3) → ∃ b, t'.1 13 (gs_hp s).length = nI b ∧ us ≤ b ∧ b ≤ 4000)
    (hin : ∀ (j : Nat) (w : Int32 × List gs_L), he[j]? = some w → ¬ w.1 < 0 → ∃ x, x < (gs_hp s).length + ho.length ∧ w.1 = nI x) (lok : ∀ (j : Nat) (w : Int32 × List gs_L), he[j]? = some w → w.2 = [])
    (b1 : us' + 4 * c' ≤ 4 * p) (b2 : 11 * nd' ≤ p) (b3 : 3 * ((gs_hp s).length + ho.length) + c' ≤ p) (b4 : 3 * ((gs_hs s).length + he.length) + c' ≤ p) :
    gr_Y X' c' us' nd' t' K (p, gs_hp s ++ ho, gs_hs s ++ he, gs_f1 s) := by
  have hf := Y.hh.2.2.1
  have hsz1 : gs_size (p, gs_hp s ++ ho, gs_hs s ++ he, gs_f1 s) = gs_size s + he.length := by
    show (gs_hs s ++ he).length - gs_f1 s = (gs_hs s).length - gs_f1 s + he.length
    rw [List.length_append]; omega
  have u4 : us ≤ 4000 := by have := Y.ub; have := Y.pn; have := Y.B.2.1; omega
  exact
  gr_Y.mk
    (lm := q.lm Y.lm)
    (B := q.gB Y.B)
    (C := q.gC Y.C)
    (wf := Y.wf)
    (ndK := Y.ndK)
    (pl := h6)
    (pn := hpn)
    (pp := by
      refine ⟨by rw [h23]; show _ = nI (gs_hp s ++ ho).length; rw [List.length_append], fun i o hi => ?_⟩
      rcases gs_app hi with ⟨z, y⟩ | ⟨j, rfl, y⟩
      · exact (Y.pp.2 i o y).kp q z (Nat.le_refl _) hus
      · exact no j o y)
    (hh := by
      refine ⟨by rw [hsz1]; exact h28, by rw [hsz1]; exact hsz, by show gs_f1 s ≤ (gs_hs s ++ he).length; rw [List.length_append]; omega, fun i w hi hw => ?_⟩
      rw [hsz1] at hi
      have hw : (gs_hs s ++ he)[gs_f1 s + i]? = some w := hw
      rcases gs_app hw with ⟨z, y⟩ | ⟨j, z, y⟩
      · have hi' : i < gs_size s := by unfold gs_size; omega
        exact (Y.hh.2.2.2 i w hi' y).kp q (fun k hk => hk.1) (fun k hk => ⟨Nat.lt_of_lt_of_le hk.1 hnd, fun z => hk.2 (hX1 k hk.1 z)⟩) (e i hi').1 (e i hi').2
      · have : i = gs_size s + j := by unfold gs_size; omega
        rw [this]
        exact ne j w y)
    (xb := hX)
    (u := h25)
    (ub := b1)
    (n := h39)
    (nb := b2)
    (dj := by
      have old := Y.dj.kp q (Nat.le_refl _)
      intro i j oi oj hij hi hj si sj
      have l1 : i < (gs_hp s).length ∨ (gs_hp s).length ≤ i := by omega
      rcases gs_app hj with ⟨z, y⟩ | ⟨k, rfl, y⟩
      · rcases gs_app hi with ⟨z2, y2⟩ | ⟨k2, rfl, y2⟩
        · exact old i j oi oj hij y2 y si sj
        · omega
      · have lk := (List.getElem?_eq_some_iff.mp y).1
        have k0 : k = 0 := by omega
        subst k0
        rcases gs_app hi with ⟨z2, y2⟩ | ⟨k2, rfl, y2⟩
        · obtain ⟨b, d1, d2, d3⟩ := dj oj y sj
          have O := (Y.pp.2 i oi y2).kp q z2 (Nat.le_refl _) (Nat.le_refl _)
          have ov := O.2.2.2.2.2.2.2.2
          unfold gr_ov at ov
          have n1 : ¬ oi.1 = 1 := by rcases si with z | z <;> rw [z] <;> decide
          have n2 : ¬ oi.1 = 2 := by rcases si with z | z <;> rw [z] <;> decide
          rw [if_neg n1, if_neg n2] at ov
          obtain ⟨a, a1, a2, -⟩ := ov
          exact ⟨a, b, a1, d1, by omega, d3⟩
        · have := (List.getElem?_eq_some_iff.mp y2).1
          omega)
    (hin := by
      intro i w hw hn
      rcases gs_app hw with ⟨z, y⟩ | ⟨j, -, y⟩
      · obtain ⟨x, x1, x2⟩ := Y.hin i w y hn
        exact ⟨x, by show x < (gs_hp s ++ ho).length; rw [List.length_append]; omega, x2⟩
      · obtain ⟨x, x1, x2⟩ := hin j w y hn
        exact ⟨x, by show x < (gs_hp s ++ ho).length; rw [List.length_append]; omega, x2⟩)
    (lok := by
      intro i w hw
      show w.2.length ≤ (gs_hs s ++ he).countP gs_isd
      have := gs_dn_app (s := s) (l := he)
      rcases gs_app hw with ⟨z, y⟩ | ⟨j, -, y⟩
      · have := Y.lok i w y
        unfold gs_dn at this
        omega
      · rw [lok j w y]; exact Nat.zero_le _)
    (hb := by show 3 * (gs_hp s ++ ho).length + c' ≤ p; rw [List.length_append]; exact b3)
    (eb := by show 3 * (gs_hs s ++ he).length + c' ≤ p; rw [List.length_append]; exact b4)
/-- a handle changed -/
theorem gr_Y.modE {X' : Nat → Prop} {i : Nat} {w w' : Int32 × List gs_L} {g : Int32 × List gs_L → Int32 × List gs_L} (Y : gr_Y X c us nd t K s) (hi : i < gs_size s) (hw : (gs_hs s)[gs_f1 s + i]? = some w) (hg : g w = w') (q : gr_kp (gs_hp s).length us nd t t') (z : ∀ j, (j = 6 ∨ j = 23 ∨ j = 25 ∨ j = 28 ∨ j = 39) → t'.1 0 j = t.1 0 j)
    (e : ∀ j, j < gs_size s → j ≠ i → t'.1 16 j = t.1 16 j ∧ t'.1 17 j = t.1 17 j) (en : gr_enn (gr_NX X' nd) t' K i w') (hX1 : ∀ k, X' k → X k) (hin : ¬ w'.1 < 0 → ∃ x, x < (gs_hp s).length ∧ w'.1 = nI x) (lok : (gs_isd w' = gs_isd w ∧ w'.2 = w.2) ∨ (gs_isd w = false ∧ gs_isd w' = true ∧ w'.2.length ≤ gs_dn s + 1)) :
    gr_Y X' c us nd t' K (s.1, s.2.1, (gs_hs s).modify (gs_f1 s + i) g, gs_f1 s) := by
  have hsz1 : gs_size (s.1, s.2.1, (gs_hs s).modify (gs_f1 s + i) g, gs_f1 s) = gs_size s := by
    show ((gs_hs s).modify _ g).length - gs_f1 s = _
    rw [List.length_modify]; rfl
  have cnt := gs_cnt_mod (p := gs_isd) (f := g) (gs_hs s) _ w hw
  have get : ∀ j v, ((gs_hs s).modify (gs_f1 s + i) g)[j]? = some v → (j = gs_f1 s + i ∧ v = w') ∨ (j ≠ gs_f1 s + i ∧ (gs_hs s)[j]? = some v) := by
    intro j v hv
    rcases gs_mod_get hw hv with ⟨y1, y2⟩ | y
    · exact Or.inl ⟨y1, by rw [y2, hg]⟩
    · exact Or.inr y
  have dn : gs_dn s ≤ ((gs_hs s).modify (gs_f1 s + i) g).countP gs_isd ∧ (w'.2.length ≤ ((gs_hs s).modify (gs_f1 s + i) g).countP gs_isd) := by
    rw [hg] at cnt
    rcases lok with ⟨l1, l2⟩ | ⟨l1, l2, l3⟩
    · rw [cnt.2 l1]
      exact ⟨Nat.le_refl _, by rw [l2]; exact Y.lok _ w hw⟩
    · rw [cnt.1 l1 l2]
      exact ⟨Nat.le_succ _, l3⟩
  exact
  gr_Y.mk
    (lm := q.lm Y.lm)
    (B := q.gB Y.B)
    (C := q.gC Y.C)
    (wf := Y.wf)
    (ndK := Y.ndK)
    (pl := (z 6 (by omega)).trans Y.pl)
    (pn := Y.pn)
    (pp := ⟨(z 23 (by omega)).trans Y.pp.1, fun j o ho => (Y.pp.2 j o ho).kp q (List.getElem?_eq_some_iff.mp ho).1 (Nat.le_refl _) (Nat.le_refl _)⟩)
    (hh := by
      refine ⟨by rw [hsz1]; exact (z 28 (by omega)).trans Y.hh.1, by rw [hsz1]; exact Y.hh.2.1, by show gs_f1 s ≤ ((gs_hs s).modify _ g).length; rw [List.length_modify]; exact Y.hh.2.2.1, fun j v hj hv => ?_⟩
      rw [hsz1] at hj
      rcases get _ v hv with ⟨y, rfl⟩ | ⟨y1, y2⟩
      · have : j = i := by have y : gs_f1 s + j = gs_f1 s + i := y; omega
        rw [this]; exact en
      · have hne : j ≠ i := fun y => y1 (by show gs_f1 s + j = _; rw [y])
        exact (Y.hh.2.2.2 j v hj y2).kp q (fun k hk => hk.1) (fun k hk => ⟨hk.1, fun z => hk.2 (hX1 k z)⟩) (e j hj hne).1 (e j hj hne).2)
    (xb := fun k hk => Y.xb k (hX1 k hk))
    (u := (z 25 (by omega)).trans Y.u)
    (ub := Y.ub)
    (n := (z 39 (by omega)).trans Y.n)
    (nb := Y.nb)
    (dj := Y.dj.kp q (Nat.le_refl _))
    (hin := by
      intro j v hv hn
      rcases get _ v hv with ⟨-, rfl⟩ | ⟨-, y2⟩
      · exact hin hn
      · exact Y.hin j v y2 hn)
    (lok := by
      intro j v hv
      show v.2.length ≤ ((gs_hs s).modify (gs_f1 s + i) g).countP gs_isd
      rcases get _ v hv with ⟨-, rfl⟩ | ⟨-, y2⟩
      · exact dn.2
      · exact Nat.le_trans (Y.lok j v y2) dn.1)
    (hb := Y.hb)
    (eb := by show 3 * ((gs_hs s).modify _ g).length + c ≤ _; rw [List.length_modify]; exact Y.eb)
/-- a value of an object changed -/
theorem gr_Y.val {o a j : Nat} {w : gs_O} {v : Int64} (Y : gr_Y X c us nd t K s) (hw : (gs_hp s)[o]? = some w) (sw : w.1 = 0 ∨ w.1 = 3) (h13 : t.1 13 o = nI a) (ha : a < 2 ^ 31) (hj : j < w.2.2.1.length) : gr_Y X c us nd (gr_ul t 15 (a + j) v) K (s.1, (gs_hp s).modify o (fun ob => (ob.1, ob.2.1, ob.2.2.1.set j v, ob.2.2.2)), s.2.2) := by
  have n1 : ∀ w : gs_O, (w.1 = 0 ∨ w.1 = 3) → ¬ w.1 = 1 ∧ ¬ w.1 = 2 := fun w z => by rcases z with z | z <;> rw [z] <;> decide
  have u4 : us ≤ 4000 := by have := Y.ub; have := Y.pn; have := Y.B.2.1; omega
  have atv : ∀ (i : Nat) (w : gs_O), (gs_hp s)[i]? = some w → (w.1 = 0 ∨ w.1 = 3) → ∃ y, t.1 13 i = nI y ∧ y + w.2.2.1.length ≤ us := fun i w hi sw => by
    have ov := (Y.pp.2 i w hi).2.2.2.2.2.2.2.2
    unfold gr_ov at ov
    rw [if_neg (n1 w sw).1, if_neg (n1 w sw).2] at ov
    obtain ⟨y, y1, y2, -⟩ := ov
    exact ⟨y, y1, y2⟩
  obtain ⟨a', a1, a2⟩ := atv o w hw sw
  have get : ∀ i w2, ((gs_hp s).modify o (fun ob => (ob.1, ob.2.1, ob.2.2.1.set j v, ob.2.2.2)))[i]? = some w2 → ∃ w1, (gs_hp s)[i]? = some w1 ∧ ((i = o ∧ w1 = w ∧ w2 = (w.1, w.2.1, w.2.2.1.set j v, w.2.2.2)) ∨ (i ≠ o ∧ w2 = w1)) := by
    intro i w2 h2
    rcases gs_mod_get hw h2 with ⟨y1, y2⟩ | ⟨y1, y2⟩
    · exact ⟨w, by rw [y1]; exact hw, Or.inl ⟨y1, rfl, y2⟩⟩
    · exact ⟨w2, y2, Or.inr ⟨y1, rfl⟩⟩
  have kpz : gr_kp (gs_hp s).length 0 nd t (gr_ul t 15 (a + j) v) := gr_kp.refl.ul (by unfold gr_prl; omega)
  have ea : a' = a := (nI_eq (by omega) ha).mp (a1.symm.trans h13)
  subst ea
  exact
  gr_Y.mk
    (lm := Y.lm)
    (B := Y.B)
    (C := kpz.gC Y.C)
    (wf := Y.wf)
    (ndK := Y.ndK)
    (pl := Y.pl)
    (pn := Y.pn)
    (pp := by
      refine ⟨Y.pp.1.trans (by show _ = nI ((gs_hp s).modify o _).length; rw [List.length_modify]), fun i w2 h2 => ?_⟩
      obtain ⟨w1, g1, g2⟩ := get i w2 h2
      obtain ⟨p1, p2, p3, p4, p5, p6, p7, p8, p9⟩ := Y.pp.2 i w1 g1
      rcases g2 with ⟨rfl, rfl, rfl⟩ | ⟨g3, rfl⟩
      · refine ⟨p1, p2, p3, p4, p5, ?_, ?_, fun z => ?_, ?_⟩
        · show t.1 12 i = if w1.1 = 4 then w1.2.2.2.1 else nI (w1.2.2.1.set j v).length
          rw [List.length_set]; exact p6
        · show (w1.2.2.1.set j v).length ≤ 4000
          rw [List.length_set]; exact p7
        · exfalso
          have z : w1.1 = 4 := z
          rcases sw with y | y <;> rw [y] at z <;> exact absurd z (by decide)
        · unfold gr_ov at p9 ⊢
          rw [if_neg (n1 w1 sw).1, if_neg (n1 w1 sw).2] at p9
          show if w1.1 = 1 then _ else if w1.1 = 2 then _ else _
          rw [if_neg (n1 w1 sw).1, if_neg (n1 w1 sw).2]
          obtain ⟨y, y1, y2, y3⟩ := p9
          refine ⟨y, y1, by show y + (w1.2.2.1.set j v).length ≤ us; rw [List.length_set]; exact y2, fun k x hk => ?_⟩
          have hk : (w1.2.2.1.set j v)[k]? = some x := hk
          have lk := (List.getElem?_eq_some_iff.mp hk).1
          rw [List.length_set] at lk
          have ya : nI y = nI a' := y1.symm.trans h13
          show (if 15 = 15 ∧ y + k = a' + j then v else t.2 15 (y + k)) = x
          have ya : y = a' := (nI_eq (by omega) ha).mp ya
          subst ya
          rw [List.getElem?_set] at hk
          by_cases e : j = k
          · rw [if_pos e, if_pos hj] at hk
            rw [if_pos ⟨rfl, by omega⟩]
            exact Option.some.inj hk
          · rw [if_neg e] at hk
            rw [if_neg (fun z => e (by omega))]
            exact y3 k x hk
      · refine ⟨p1, p2, p3, p4, p5, p6, p7, p8, ?_⟩
        unfold gr_ov at p9 ⊢
        by_cases s1 : w2.1 = 1
        · rw [if_pos s1] at p9 ⊢; exact p9
        · rw [if_neg s1] at p9 ⊢
          by_cases s2 : w2.1 = 2
          · rw [if_pos s2] at p9 ⊢; exact p9
          · rw [if_neg s2] at p9 ⊢
            obtain ⟨y, y1, y2, y3⟩ := p9
            refine ⟨y, y1, y2, fun k x hk => ?_⟩
            have lk := (List.getElem?_eq_some_iff.mp hk).1
            show (if 15 = 15 ∧ y + k = a' + j then v else t.2 15 (y + k)) = x
            rw [if_neg ?_]
            · exact y3 k x hk
            · rintro ⟨-, z⟩
              have s4 : ¬ w2.1 = 4 := fun z4 => by rw [p8 z4] at lk; exact absurd lk (Nat.not_lt_zero k)
              have sw2 : w2.1 = 0 ∨ w2.1 = 3 := by
                obtain ⟨q0, q4⟩ := p2
                have q0 := Int32.le_iff_toInt_le.mp q0
                have q4 := Int32.le_iff_toInt_le.mp q4
                have s1 := fun z => s1 (Int32.toInt_inj.mp z)
                have s2 := fun z => s2 (Int32.toInt_inj.mp z)
                have s4 := fun z => s4 (Int32.toInt_inj.mp z)
                simp at q0 q4 s1 s2 s4
                have : w2.1.toInt = 0 ∨ w2.1.toInt = 3 := by omega
                rcases this with z | z
                · exact Or.inl (Int32.toInt_inj.mp (by rw [z]; rfl))
                · exact Or.inr (Int32.toInt_inj.mp (by rw [z]; rfl))
              rcases Nat.lt_or_ge i o with lt | ge
              · obtain ⟨b1, b2, b3, b4, b5, b6⟩ := Y.dj i o w2 w lt g1 hw sw2 sw
                have e1 : b1 = y := (nI_eq (by omega) (by omega)).mp (b3.symm.trans y1)
                have e2 : b2 = a' := (nI_eq (by omega) (by omega)).mp (b4.symm.trans h13)
                omega
              · obtain ⟨b1, b2, b3, b4, b5, b6⟩ := Y.dj o i w w2 (by omega) hw g1 sw sw2
                have e1 : b1 = a' := (nI_eq (by omega) (by omega)).mp (b3.symm.trans h13)
                have e2 : b2 = y := (nI_eq (by omega) (by omega)).mp (b4.symm.trans y1)
                omega)
    (hh := ⟨Y.hh.1, Y.hh.2.1, Y.hh.2.2.1, fun i w hi hw => (Y.hh.2.2.2 i w hi hw).kp kpz (fun k hk => hk.1) (fun k hk => hk) rfl rfl⟩)
    (xb := Y.xb)
    (u := Y.u)
    (ub := Y.ub)
    (n := Y.n)
    (nb := Y.nb)
    (dj := by
      intro i k oi ok hik hi hk si sk
      obtain ⟨w1, g1, g2⟩ := get i oi hi
      obtain ⟨w3, g3, g4⟩ := get k ok hk
      have sh : ∀ {i : Nat} {w1 w2 : gs_O}, ((i = o ∧ w1 = w ∧ w2 = (w.1, w.2.1, w.2.2.1.set j v, w.2.2.2)) ∨ (i ≠ o ∧ w2 = w1)) → w2.1 = w1.1 ∧ w2.2.2.1.length = w1.2.2.1.length := by
        intro i w1 w2 g
        rcases g with ⟨-, rfl, rfl⟩ | ⟨-, rfl⟩
        · exact ⟨rfl, List.length_set ..⟩
        · exact ⟨rfl, rfl⟩
      rw [(sh g2).1] at si
      rw [(sh g4).1] at sk
      rw [(sh g2).2]
      exact Y.dj i k w1 w3 hik g1 g3 si sk)
    (hin := by
      intro i q hq hn
      obtain ⟨x, x1, x2⟩ := Y.hin i q hq hn
      exact ⟨x, by show x < ((gs_hp s).modify _ _).length; rw [List.length_modify]; exact x1, x2⟩)
    (lok := Y.lok)
    (hb := by show 3 * ((gs_hp s).modify _ _).length + c ≤ _; rw [List.length_modify]; exact Y.hb)
    (eb := Y.eb)
end N3
