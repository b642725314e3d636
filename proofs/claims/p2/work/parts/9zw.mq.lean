/-! THE REFERENCE, 25: define, constant, field, put keep the relation. -/
section MQ
variable {E : Nat → Value} {d m : Nat} {h : gm_H} {t t' : gr_t} {K : gs_K} {s : gs_S} {lf : Int32}
theorem gr_X.ofK {K' : gs_K} {lf' : Int32} (X : gr_X t K s lf) (L' : gr_lm t' K') (B' : gr_B t' K') (C' : gr_C t' K') (W' : gs_wf K' ∧ gs_ndK K') (kk : gs_kk K K') (s2 : gr_s2 t t') (z : ∀ i, (6 ≤ i ∧ i ≠ 7 ∧ i ≠ 8 ∧ i ≠ 9 ∧ i ≠ 47) → t'.1 0 i = t.1 0 i) (h7 : t'.1 0 7 = lf') : gr_X t' K' s lf' := by
  obtain ⟨L, B, C, W, P, l7, Hp, Hs, ⟨us, nd, n1, n2, n3, n4, n5⟩, N1, N2⟩ := X
  refine ⟨L', B', C', W', ⟨by rw [z _ (by decide)]; exact P.1, by have := kk.1; omega⟩, h7, Hp.sm kk s2 (z 25 (by decide)) (z 23 (by decide)), Hs.sm kk s2 (z 28 (by decide)) rfl, ⟨us, nd, by rw [z _ (by decide)]; exact n1, n2, by rw [z _ (by decide)]; exact n3, n4, n5.sm kk s2 rfl⟩, N1, N2⟩
theorem gr_X.h6 (X : gr_X t K s lf) : ∀ c, 6 ≤ c → gs_cls K c = none := fun x hx => by
  cases ex : gs_cls K x with
  | none => rfl
  | some D => exact absurd (X.2.2.2.1.1 x D ex).1 (by omega)
theorem gs_wf.set {c : Nat} {C : gs_C} (hw : gs_wf K) (hc : c < 6) (hs : ∀ y, gs_sup C = some y → y < c ∧ (gs_cls K y).isSome = true) : gs_wf (gs_def1 K c C) := by
  have cl : ∀ x, gs_cls (gs_def1 K c C) x = if x = c then some C else gs_cls K x := fun _ => rfl
  have up : ∀ y, (gs_cls K y).isSome = true → (gs_cls (gs_def1 K c C) y).isSome = true := fun y hy => by
    rw [cl]
    by_cases e : y = c
    · rw [if_pos e]; rfl
    · rw [if_neg e]; exact hy
  intro x D hD
  rw [cl] at hD
  by_cases e : x = c
  · rw [if_pos e] at hD
    cases hD
    exact ⟨by omega, fun y hy => ⟨by have := (hs y hy).1; omega, up y (hs y hy).2⟩⟩
  · rw [if_neg e] at hD
    exact ⟨(hw x D hD).1, fun y hy => ⟨((hw x D hD).2 y hy).1, up y ((hw x D hD).2 y hy).2⟩⟩
theorem gs_kk.def1 {c : Nat} {C : gs_C} : gs_kk K (gs_def1 K c C) := by
  refine ⟨Nat.le_refl _, fun _ _ => rfl, fun y hy => ?_⟩
  show (if y = c then some C else gs_cls K y).isSome = true
  by_cases e : y = c
  · rw [if_pos e]; rfl
  · rw [if_neg e]; exact hy
/-- a class set -/
theorem gr_X.def1 {c : Nat} {C : gs_C} (X : gr_X t K s lf) (hc : c < 6) (hs : ∀ y, gs_sup C = some y → y < c ∧ (gs_cls K y).isSome = true) (nd : gs_nd (gs_fs C)) (C' : gr_C t' (gs_def1 K c C)) (z : ∀ o i, (o = 0 ∨ o = 1 ∨ 10 ≤ o) → t'.1 o i = t.1 o i) (z2 : ∀ o i, 10 ≤ o → t'.2 o i = t.2 o i) : gr_X t' (gs_def1 K c C) s lf := by
  obtain ⟨L, B, -, W, -⟩ := id X
  refine X.ofK ⟨by rw [z _ _ (by simp)]; exact L.1, by rw [z _ _ (by simp)]; exact L.2.1, by rw [z _ _ (by simp)]; exact L.2.2.1, by rw [z _ _ (by simp)]; exact L.2.2.2⟩ ⟨by rw [z _ _ (by simp)]; exact B.1, B.2.1, fun i hi => by rw [z _ _ (by simp)]; exact B.2.2 i hi⟩ C' ⟨W.1.set hc hs, W.2.set nd⟩ gs_kk.def1 ⟨fun o i ho => z2 o i ho.1, fun o i ho => z o i (Or.inr (Or.inr ho.1))⟩ (fun i _ => z 0 i (Or.inl rfl)) (by rw [z _ _ (by simp)]; exact X.2.2.2.2.2.1)
theorem M_define {n k u : Int32} {id : Int64} (hd : 2 ≤ d) (X : gr_X t K s lf) : gm_Ca E d 6 [.ref m, .int n, .int k, .int u, .long id] (gr_H h m t) (fun r h' => if gs_defok K n k u = true then r = .inl (some (.int 0)) ∧ ∃ t', h' = gr_H h m t' ∧ gr_X t' (gs_def1 K n.toNatClampNeg (k, gs_defsup u, id, [], false, 0)) s lf else r = .inl (some (.int (-1))) ∧ h' = gr_H h m t) := by
  refine gm_Ca.mono (m_define hd X.2.2.1 X.h6) (fun r h' q => ?_)
  by_cases ok : gs_defok K n k u = true
  · rw [if_pos ok] at q ⊢
    refine ⟨q.1, _, q.2, X.def1 ?_ ?_ gs_nd_nil (X.2.2.1.define ok) ?_ ?_⟩
    · have o := ok
      unfold gs_defok at o
      simp only [Bool.and_eq_true, decide_eq_true_eq] at o
      obtain ⟨⟨⟨⟨⟨⟨⟨o1, o2⟩, -⟩, -⟩, -⟩, -⟩, -⟩, -⟩ := o
      obtain ⟨c, hc, rfl⟩ := nI_of (Int32.not_lt.mpr o1)
      rw [nI_clamp hc]
      exact (nI_ltI (b := 6) hc (by decide)).mp o2
    · intro y hy
      have o := ok
      unfold gs_defok at o
      simp only [Bool.and_eq_true, decide_eq_true_eq] at o
      obtain ⟨⟨⟨⟨⟨⟨⟨o1, o2⟩, -⟩, -⟩, -⟩, o6⟩, -⟩, o8⟩ := o
      have hy : gs_defsup u = some y := hy
      unfold gs_defsup at hy
      by_cases u0 : u < 0
      · rw [if_pos u0] at hy; cases hy
      · rw [if_neg u0] at hy
        cases hy
        obtain ⟨c, hc, rfl⟩ := nI_of (Int32.not_lt.mpr o1)
        obtain ⟨x, hx, rfl⟩ := nI_of u0
        rw [nI_clamp hc]
        rw [nI_clamp hx] at o8 ⊢
        refine ⟨?_, ?_⟩
        · rcases Nat.lt_or_ge x c with z | z
          · exact z
          · exact absurd o6 (nI_nlt z hx)
        cases e : gs_cls K x with
        | none => rw [e] at o8; simp [u0] at o8
        | some D => rfl
    · intro o i ho
      unfold gr_def
      rw [gr_ul_1, gr_ui_no (by omega), gr_ui_no (by omega)]
    · intro o i ho
      unfold gr_def
      rw [gr_ul_no (by omega)]; rfl
  · rw [if_neg ok] at q ⊢
    exact q
theorem M_constant {n nm on : Int32} (hd : 2 ≤ d) (X : gr_X t K s lf) (hon : on = 0 ∨ on = 1) : gm_Ca E d 8 [.ref m, .int n, .int nm, .int on] (gr_H h m t) (fun r h' => r = .inl (some (.int (gs_cst K n nm on).1)) ∧ ∃ t', h' = gr_H h m t' ∧ gr_X t' (gs_cst K n nm on).2 s lf) := by
  refine gm_Ca.mono (m_constant hd X.2.2.1 X.h6) (fun r h' q => ?_)
  refine ⟨q.1, _, q.2, ?_⟩
  unfold gr_cst gs_cst
  cases e : gs_cn K n with
  | none => exact X
  | some c =>
    dsimp only
    cases hC : gs_cls K c with
    | none => exact X
    | some C =>
      dsimp only
      obtain ⟨w1, w2⟩ := X.2.2.2.1.1 c C hC
      by_cases k3 : gs_kind C = 3
      · rw [if_pos k3, if_pos k3]
        by_cases b : nm < 0 ∨ 26 ≤ nm
        · rw [if_pos b, if_pos b]; exact X
        · rw [if_neg b, if_neg b]
          exact X.def1 w1 w2 (X.2.2.2.1.2 c C hC) (X.2.2.1.constK w1 hC) (fun o i ho => gr_ui_no (by omega)) (fun _ _ _ => rfl)
      · rw [if_neg k3, if_neg k3]
        exact X.def1 w1 w2 (X.2.2.2.1.2 c C hC) (X.2.2.1.constB w1 hC hon) (fun o i ho => gr_ui_no (by omega)) (fun _ _ _ => rfl)
theorem M_field {n nm ty : Int32} (hd : 2 ≤ d) (X : gr_X t K s lf) : gm_Ca E d 7 [.ref m, .int n, .int nm, .int ty] (gr_H h m t) (fun r h' => r = .inl (some (.int (gs_fld K s n nm ty).1)) ∧ ∃ t', h' = gr_H h m t' ∧ gr_X t' (gs_fld K s n nm ty).2 s lf) := by
  have hh : t.1 0 23 = nI (gs_hp s).length := by
    obtain ⟨us, -, -, u3, -⟩ := X.2.2.2.2.2.2.1
    exact u3
  have h234 : (gs_hp s).length ≤ 234 := by
    have a := X.2.2.2.2.2.2.2.2.2.1
    have b := X.2.2.2.2.1.2
    have c := X.2.1.2.1
    omega
  refine gm_Ca.mono (m_field hd X.2.2.1 X.h6 hh h234) (fun r h' q => ?_)
  refine ⟨q.1, _, q.2, ?_⟩
  unfold gs_fld
  cases e : gs_cn K n with
  | none => exact X
  | some c =>
    dsimp only
    cases hC : gs_cls K c with
    | none => exact X
    | some C =>
      dsimp only
      obtain ⟨w1, w2⟩ := X.2.2.2.1.1 c C hC
      by_cases b : gs_kind C = 3 ∨ (nm < 0 ∨ 26 ≤ nm) ∨ ty < 0 ∨ 7 < ty ∨ gs_hp s ≠ [] ∨ (gs_fs C).length = 4 ∨ (gs_ix (gs_fs C) nm).isSome = true
      · rw [if_pos b, if_pos b]; exact X
      · rw [if_neg b, if_neg b]
        refine X.def1 w1 w2 ?_ (X.2.2.1.field w1 hC (fun z => b (by simp [z]))) ?_ (fun _ _ _ => rfl)
        · refine gs_nd_app (X.2.2.2.1.2 c C hC) (fun z => b (by simp [z])) ?_
          cases ex : gs_ix (gs_fs C) nm with
          | none => rfl
          | some j => exact absurd (by simp [ex]) b
        · intro o i ho
          unfold gr_fld
          rw [gr_ui_no (by omega), gr_ui_no (by omega), gr_ui_no (by omega)]
end MQ
