/-! THE REFERENCE, 23: its classes after define, constant, field. -/
section MO
variable {E : Nat → Value} {d m : Nat} {h : gm_H} {t t' : gr_t} {K : gs_K} {s : gs_S}
/-- what is known of a class's cells -/
def gr_c1 (t : gr_t) (c : Nat) (C : gs_C) : Prop := t.1 2 c = gs_kind C ∧ (0 ≤ gs_kind C ∧ gs_kind C ≤ 4) ∧ t.1 4 c = gr_o (gs_sup C) ∧ t.2 3 c = gs_cid C ∧ t.1 5 c = nI (gs_fs C).length ∧ (gs_fs C).length ≤ 4 ∧ t.1 8 c = gs_con C ∧ t.1 9 c = (if gs_bar C = true then 1 else 0) ∧ ∀ (j : Nat) (q : Int32 × Int32), (gs_fs C)[j]? = some q → t.1 6 (4 * c + j) = q.1 ∧ t.1 7 (4 * c + j) = q.2
theorem gr_C.c1 {c : Nat} {C : gs_C} (Cl : gr_C t K) (hc : c < 6) (hC : gs_cls K c = some C) : gr_c1 t c C := by
  have q := Cl c hc
  rw [hC] at q
  exact q
theorem gr_C.set {c : Nat} {C : gs_C} (Cl : gr_C t K) (hs : ∀ x, x < 6 → x ≠ c → t'.1 2 x = t.1 2 x ∧ t'.1 4 x = t.1 4 x ∧ t'.2 3 x = t.2 3 x ∧ t'.1 5 x = t.1 5 x ∧ t'.1 8 x = t.1 8 x ∧ t'.1 9 x = t.1 9 x ∧ ∀ j, j < 4 → t'.1 6 (4 * x + j) = t.1 6 (4 * x + j) ∧ t'.1 7 (4 * x + j) = t.1 7 (4 * x + j)) (hc : gr_c1 t' c C) : gr_C t' (gs_def1 K c C) := by
  intro x hx
  by_cases e : x = c
  · subst e
    have : gs_cls (gs_def1 K x C) x = some C := by show (if x = x then some C else _) = _; rw [if_pos rfl]
    rw [this]
    exact hc
  · have ek : gs_cls (gs_def1 K c C) x = gs_cls K x := by show (if x = c then some C else gs_cls K x) = _; rw [if_neg e]
    obtain ⟨h1, h2, h3, h4, h5, h6, h7⟩ := hs x hx e
    have q := Cl x hx
    rw [ek]
    cases ex : gs_cls K x with
    | none =>
      rw [ex] at q
      exact ⟨by rw [h1]; exact q.1, by rw [h4]; exact q.2.1, by rw [h5]; exact q.2.2.1, by rw [h6]; exact q.2.2.2⟩
    | some X =>
      rw [ex] at q
      obtain ⟨q1, q2, q3, q4, q5, q6, q7, q8, q9⟩ := q
      refine ⟨by rw [h1]; exact q1, q2, by rw [h2]; exact q3, by rw [h3]; exact q4, by rw [h4]; exact q5, q6, by rw [h5]; exact q7, by rw [h6]; exact q8, fun j p hp => ?_⟩
      have hj : j < 4 := by
        have := (List.getElem?_eq_some_iff.mp hp).1
        omega
      rw [(h7 j hj).1, (h7 j hj).2]
      exact q9 j p hp
theorem gr_C.define {n k u : Int32} {id : Int64} (Cl : gr_C t K) (ok : gs_defok K n k u = true) : gr_C (gr_def t n.toNatClampNeg k u id) (gs_def1 K n.toNatClampNeg (k, gs_defsup u, id, [], false, 0)) := by
  unfold gs_defok at ok
  simp only [Bool.and_eq_true, decide_eq_true_eq] at ok
  obtain ⟨⟨⟨⟨⟨⟨⟨o1, o2⟩, o3⟩, o4⟩, o5⟩, o6⟩, o7⟩, o8⟩ := ok
  have n0 : ¬ n < 0 := Int32.not_lt.mpr o1
  obtain ⟨c, hc, rfl⟩ := nI_of n0
  have c6 : c < 6 := (nI_ltI (b := 6) hc (by decide)).mp o2
  rw [nI_clamp hc] at o7 ⊢
  have hno : gs_cls K c = none := by simpa using o7
  have q := Cl c c6
  rw [hno] at q
  refine Cl.set (fun x hx hxc => ?_) ?_
  · unfold gr_def
    refine ⟨?_, ?_, ?_, ?_, ?_, ?_, fun j hj => ⟨?_, ?_⟩⟩
    · rw [gr_ul_1, gr_ui_no (by decide), gr_ui_ni hxc]
    · rw [gr_ul_1, gr_ui_ni hxc, gr_ui_no (by decide)]
    · rw [gr_ul_ni hxc]; rfl
    · rw [gr_ul_1, gr_ui_no (by decide), gr_ui_no (by decide)]
    · rw [gr_ul_1, gr_ui_no (by decide), gr_ui_no (by decide)]
    · rw [gr_ul_1, gr_ui_no (by decide), gr_ui_no (by decide)]
    · rw [gr_ul_1, gr_ui_no (by decide), gr_ui_no (by decide)]
    · rw [gr_ul_1, gr_ui_no (by decide), gr_ui_no (by decide)]
  · unfold gr_def
    refine ⟨?_, ⟨o3, o4⟩, ?_, gr_ul_eq, ?_, Nat.zero_le 4, ?_, ?_, fun j p hp => by cases hp⟩
    · rw [gr_ul_1, gr_ui_no (by decide), gr_ui_eq]; rfl
    · rw [gr_ul_1, gr_ui_eq]
      show u = gr_o (gs_defsup u)
      unfold gs_defsup
      by_cases u0 : u < 0
      · rw [if_pos u0]
        show u = -1
        refine Int32.le_antisymm ?_ o5
        have := Int32.lt_iff_toInt_lt.mp u0
        refine Int32.le_iff_toInt_le.mpr ?_
        have e1 : (-1 : Int32).toInt = -1 := by decide
        have e0 : (0 : Int32).toInt = 0 := by decide
        rw [e0] at this
        rw [e1]
        omega
      · rw [if_neg u0]
        obtain ⟨y, hy, rfl⟩ := nI_of u0
        rw [nI_clamp hy]
        rfl
    · rw [gr_ul_1, gr_ui_no (by decide), gr_ui_no (by decide)]; exact q.2.1
    · rw [gr_ul_1, gr_ui_no (by decide), gr_ui_no (by decide)]; exact q.2.2.1
    · rw [gr_ul_1, gr_ui_no (by decide), gr_ui_no (by decide)]; exact q.2.2.2
theorem gr_C.field {c : Nat} {C : gs_C} {nm ty : Int32} (Cl : gr_C t K) (c6 : c < 6) (hC : gs_cls K c = some C) (h4 : ¬ (gs_fs C).length = 4) : gr_C (gr_fld t c (gs_fs C).length nm ty) (gs_def1 K c (C.1, C.2.1, C.2.2.1, gs_fs C ++ [(nm, ty)], C.2.2.2.2)) := by
  obtain ⟨q1, q2, q3, q4, q5, q6, q7, q8, q9⟩ := Cl.c1 c6 hC
  have hl : (gs_fs C).length < 4 := by omega
  refine Cl.set (fun x hx hxc => ?_) ?_
  · unfold gr_fld
    refine ⟨?_, ?_, rfl, ?_, ?_, ?_, fun j hj => ⟨?_, ?_⟩⟩
    · rw [gr_ui_no (by decide), gr_ui_no (by decide), gr_ui_no (by decide)]
    · rw [gr_ui_no (by decide), gr_ui_no (by decide), gr_ui_no (by decide)]
    · rw [gr_ui_ni hxc, gr_ui_no (by decide), gr_ui_no (by decide)]
    · rw [gr_ui_no (by decide), gr_ui_no (by decide), gr_ui_no (by decide)]
    · rw [gr_ui_no (by decide), gr_ui_no (by decide), gr_ui_no (by decide)]
    · rw [gr_ui_no (by decide), gr_ui_no (by decide), gr_ui_ni (by omega)]
    · rw [gr_ui_no (by decide), gr_ui_ni (by omega), gr_ui_no (by decide)]
  · unfold gr_fld
    have el : gs_fs (C.1, C.2.1, C.2.2.1, gs_fs C ++ [(nm, ty)], C.2.2.2.2) = gs_fs C ++ [(nm, ty)] := rfl
    refine ⟨?_, q2, ?_, q4, ?_, ?_, ?_, ?_, fun j p hp => ?_⟩
    · rw [gr_ui_no (by decide), gr_ui_no (by decide), gr_ui_no (by decide)]; exact q1
    · rw [gr_ui_no (by decide), gr_ui_no (by decide), gr_ui_no (by decide)]; exact q3
    · rw [gr_ui_eq, el, List.length_append]; rfl
    · rw [el, List.length_append]; show _ + 1 ≤ 4; omega
    · rw [gr_ui_no (by decide), gr_ui_no (by decide), gr_ui_no (by decide)]; exact q7
    · rw [gr_ui_no (by decide), gr_ui_no (by decide), gr_ui_no (by decide)]; exact q8
    · rw [el] at hp
      by_cases e : j = (gs_fs C).length
      · subst e
        rw [List.getElem?_append_right (Nat.le_refl _), Nat.sub_self] at hp
        cases hp
        exact ⟨by rw [gr_ui_no (by decide), gr_ui_no (by decide), gr_ui_eq], by rw [gr_ui_no (by decide), gr_ui_eq]⟩
      · have hj : j < (gs_fs C).length := by
          have := (List.getElem?_eq_some_iff.mp hp).1
          rw [List.length_append] at this
          have : j < (gs_fs C).length + 1 := this
          omega
        rw [List.getElem?_append_left hj] at hp
        obtain ⟨w1, w2⟩ := q9 j p hp
        exact ⟨by rw [gr_ui_no (by decide), gr_ui_no (by decide), gr_ui_ni (by omega)]; exact w1, by rw [gr_ui_no (by decide), gr_ui_ni (by omega), gr_ui_no (by decide)]; exact w2⟩
theorem gr_C.constK {c : Nat} {C : gs_C} {nm : Int32} (Cl : gr_C t K) (c6 : c < 6) (hC : gs_cls K c = some C) : gr_C (gr_ui t 8 c (t.1 8 c ||| 1 <<< (nm &&& 31))) (gs_def1 K c (C.1, C.2.1, C.2.2.1, C.2.2.2.1, C.2.2.2.2.1, gs_con C ||| 1 <<< (nm &&& 31))) := by
  obtain ⟨q1, q2, q3, q4, q5, q6, q7, q8, q9⟩ := Cl.c1 c6 hC
  refine Cl.set (fun x hx hxc => ?_) ?_
  · refine ⟨?_, ?_, rfl, ?_, ?_, ?_, fun j hj => ⟨?_, ?_⟩⟩
    · rw [gr_ui_no (by decide)]
    · rw [gr_ui_no (by decide)]
    · rw [gr_ui_no (by decide)]
    · rw [gr_ui_ni hxc]
    · rw [gr_ui_no (by decide)]
    · rw [gr_ui_no (by decide)]
    · rw [gr_ui_no (by decide)]
  · refine ⟨?_, q2, ?_, q4, ?_, q6, ?_, ?_, fun j p hp => ?_⟩
    · rw [gr_ui_no (by decide)]; exact q1
    · rw [gr_ui_no (by decide)]; exact q3
    · rw [gr_ui_no (by decide)]; exact q5
    · rw [gr_ui_eq, q7]; rfl
    · rw [gr_ui_no (by decide)]; exact q8
    · rw [gr_ui_no (by decide), gr_ui_no (by decide)]; exact q9 j p hp
theorem gr_C.constB {c : Nat} {C : gs_C} {on : Int32} (Cl : gr_C t K) (c6 : c < 6) (hC : gs_cls K c = some C) (hon : on = 0 ∨ on = 1) : gr_C (gr_ui t 9 c (on &&& 1)) (gs_def1 K c (C.1, C.2.1, C.2.2.1, C.2.2.2.1, decide (on = 1), C.2.2.2.2.2)) := by
  obtain ⟨q1, q2, q3, q4, q5, q6, q7, q8, q9⟩ := Cl.c1 c6 hC
  refine Cl.set (fun x hx hxc => ?_) ?_
  · refine ⟨?_, ?_, rfl, ?_, ?_, ?_, fun j hj => ⟨?_, ?_⟩⟩
    · rw [gr_ui_no (by decide)]
    · rw [gr_ui_no (by decide)]
    · rw [gr_ui_no (by decide)]
    · rw [gr_ui_no (by decide)]
    · rw [gr_ui_ni hxc]
    · rw [gr_ui_no (by decide)]
    · rw [gr_ui_no (by decide)]
  · refine ⟨?_, q2, ?_, q4, ?_, q6, ?_, ?_, fun j p hp => ?_⟩
    · rw [gr_ui_no (by decide)]; exact q1
    · rw [gr_ui_no (by decide)]; exact q3
    · rw [gr_ui_no (by decide)]; exact q5
    · rw [gr_ui_no (by decide)]; exact q7
    · rw [gr_ui_eq]
      show on &&& 1 = if decide (on = 1) = true then 1 else 0
      rcases hon with rfl | rfl
      · decide
      · decide
    · rw [gr_ui_no (by decide), gr_ui_no (by decide)]; exact q9 j p hp
/-- names of all classes -/
def gs_ndK (K : gs_K) : Prop := ∀ a C, gs_cls K a = some C → gs_nd (gs_fs C)
theorem gs_nd_nil : gs_nd [] := ⟨fun f g p q z => by simp at z, fun f p z => by simp at z⟩
theorem gs_ndK.set {c : Nat} {C : gs_C} (nd : gs_ndK K) (hC : gs_nd (gs_fs C)) : gs_ndK (gs_def1 K c C) := by
  intro a X hX
  have hX : (if a = c then some C else gs_cls K a) = some X := hX
  by_cases e : a = c
  · rw [if_pos e] at hX; cases hX; exact hC
  · rw [if_neg e] at hX; exact nd a X hX
theorem gs_nd_app {fs : List (Int32 × Int32)} {nm ty : Int32} (nd : gs_nd fs) (n0 : ¬ nm < 0) (hx : gs_ix fs nm = none) : gs_nd (fs ++ [(nm, ty)]) := by
  have g : ∀ (f : Nat) (p : Int32 × Int32), (fs ++ [(nm, ty)])[f]? = some p → (fs[f]? = some p ∧ f < fs.length) ∨ (f = fs.length ∧ p = (nm, ty)) := by
    intro f p hp
    rcases Nat.lt_trichotomy f fs.length with z | z | z
    · rw [List.getElem?_append_left z] at hp
      exact Or.inl ⟨hp, z⟩
    · subst z
      rw [List.getElem?_append_right (Nat.le_refl _), Nat.sub_self] at hp
      cases hp
      exact Or.inr ⟨rfl, rfl⟩
    · rw [List.getElem?_eq_none (by rw [List.length_append]; show fs.length + 1 ≤ f; omega)] at hp
      cases hp
  refine ⟨fun f k p q hp hq e => ?_, fun f p hp => ?_⟩
  · rcases g f p hp with ⟨a1, a2⟩ | ⟨a1, a2⟩ <;> rcases g k q hq with ⟨b1, b2⟩ | ⟨b1, b2⟩
    · exact nd.1 f k p q a1 b1 e
    · rw [b2] at e; exact absurd e (gs_ix_none hx a1)
    · rw [a2] at e; exact absurd e.symm (gs_ix_none hx b1)
    · omega
  · rcases g f p hp with ⟨a1, a2⟩ | ⟨a1, a2⟩
    · exact nd.2 f p a1
    · rw [a2]; exact n0
end MO
