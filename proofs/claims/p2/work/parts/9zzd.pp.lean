/-! A PART: class and reference side by side, alike but for which fault lasts -/
/-- alike: the same classes, bytes, heap and handles; a fault lasts on both sides or on none -/
def gq_R (_ : Nat) (σ τ : gp_s) : Prop := gs_kok σ.1 ∧ τ.1 = gs_ref1 σ.1 ∧ τ.2.1 = σ.2.1 ∧ (σ.2.2 = 0 ↔ τ.2.2 = 0)
theorem gq_cl (v : Int32) : gs_cl v 0 20 ≤ 20 := by
  unfold gs_cl
  by_cases h1 : 20 < v
  · rw [if_pos h1]
    split
    · exact Int32.le_refl _
    · decide
  · rw [if_neg h1]
    split
    · exact Int32.not_lt.mp h1
    · decide
/-- a call that doesn't look at the fault that lasts -/
theorem gq_op {f : gp_s → Int32 × gp_s} {k : Nat} {σ τ : gp_s} (f1 : ∀ σ, f (gp_ref σ) = ((f σ).1, gp_ref (f σ).2)) (f2 : ∀ (σ : gp_s) (l : Int32), (f (σ.1, σ.2.1, l)).1 = (f σ).1 ∧ (f (σ.1, σ.2.1, l)).2.1 = (f σ).2.1) (f3 : ∀ σ, (f σ).2.2 = σ.2) (f4 : ∀ σ, gs_fk σ.1 (f σ).2.1) (h : gq_R (k + 1) σ τ) : (f σ).1 = (f τ).1 ∧ gq_R k (f σ).2 (f τ).2 := by
  obtain ⟨h1, h2, h3, h4⟩ := h
  have e : τ = gp_ref (σ.1, σ.2.1, τ.2.2) := Prod.ext h2 (Prod.ext h3 rfl)
  have e1 : f τ = ((f (σ.1, σ.2.1, τ.2.2)).1, gp_ref (f (σ.1, σ.2.1, τ.2.2)).2) := (congrArg f e).trans (f1 _)
  obtain ⟨g1, g2⟩ := f2 σ τ.2.2
  refine ⟨by rw [e1]; exact g1.symm, h1.fk (f4 σ), ?_, ?_, ?_⟩
  · rw [e1]
    show gs_ref1 (f (σ.1, σ.2.1, τ.2.2)).2.1 = gs_ref1 (f σ).2.1
    rw [g2]
  · rw [f3, f3]; exact h3
  · rw [f3, f3]; exact h4
theorem gq_read {k : Nat} {σ τ : gp_s} (h : gq_R (k + 1) σ τ) : gq_R k (gp_read σ).2 (gp_read τ).2 := by
  obtain ⟨h1, h2, h3, h4⟩ := h
  obtain ⟨K, s, l⟩ := σ
  obtain ⟨K', s', l'⟩ := τ
  dsimp only at h1 h2 h3 h4
  subst h2 h3
  refine ⟨h1, rfl, ?_⟩
  show (gs_read (gs_ref1 K) s' l').2.1 = (gs_read K s' l).2.1 ∧ ((gs_read K s' l).2.2 = 0 ↔ (gs_read (gs_ref1 K) s' l').2.2 = 0)
  unfold gs_read
  by_cases c : l = 0
  · rw [if_neg (not_not_intro c), if_neg (not_not_intro (h4.mp c))]
    rcases gs_out_two h1.1 s' with ⟨q, e1, e2⟩ | ⟨e, e', e1, e2, r⟩
    · rw [e1, e2]
      exact ⟨rfl, Iff.rfl⟩
    · rw [e1, e2]
      dsimp only
      refine ⟨rfl, ?_⟩
      rcases r with r | ⟨r1, r2⟩
      · rw [r]
      · rw [r1, r2]
        decide
  · rw [if_pos c, if_pos (fun z => c (h4.mpr z))]
    exact ⟨rfl, h4⟩
theorem gq_pass {k : Nat} {σ τ : gp_s} (h : gq_R (k + 1) σ τ) : gq_R k (gp_pass σ).2 (gp_pass τ).2 := by
  obtain ⟨h1, h2, h3, h4⟩ := h
  obtain ⟨K, s, l⟩ := σ
  obtain ⟨K', s', l'⟩ := τ
  dsimp only at h1 h2 h3 h4
  subst h2 h3
  refine ⟨h1, rfl, ?_⟩
  show (gs_pass K s' l').2.1 = (gs_pass K s' l).2.1 ∧ ((gs_pass K s' l).2.2 = 0 ↔ (gs_pass K s' l').2.2 = 0)
  by_cases c : l = 0
  · rw [c, h4.mp c]
    exact ⟨rfl, Iff.rfl⟩
  · unfold gs_pass
    rw [if_pos c, if_pos (fun z => c (h4.mpr z))]
    exact ⟨rfl, h4⟩
theorem gq_St {c : Nat → Bool} (c5 : c 5 = false) (c6 : c 6 = false) (c9 : c 9 = false) : gl_St c gq_R := by
  refine ⟨?_, ?_, ?_, ?_, ?_, ?_, ?_, ?_, ?_, ?_, ?_⟩
  · intro k σ τ n q u id h
    obtain ⟨a, b⟩ := gq_op (f := fun σ => gp_define σ n q u id) (fun σ => gp_define_ref) (fun σ l => by unfold gp_define; split <;> exact ⟨rfl, rfl⟩) (fun σ => by unfold gp_define; split <;> rfl) (fun σ => gp_define_fk) h
    exact ⟨fun _ => a, b⟩
  · intro k σ τ n q u h
    obtain ⟨a, b⟩ := gq_op (f := fun σ => gp_field σ n q u) (fun σ => gp_field_ref) (fun σ l => ⟨rfl, rfl⟩) (fun σ => rfl) (fun σ => gp_field_fk) h
    exact ⟨fun _ => a, b⟩
  · intro k σ τ n q u h
    obtain ⟨a, b⟩ := gq_op (f := fun σ => gp_constant σ n q u) (fun σ => gp_constant_ref) (fun σ l => ⟨rfl, rfl⟩) (fun σ => rfl) (fun σ => gp_constant_fk) h
    exact ⟨fun _ => a, b⟩
  · intro k σ τ w q h
    obtain ⟨a, b⟩ := gq_op (f := fun σ => gp_put σ w q) (fun σ => gp_put_ref) (fun σ l => ⟨rfl, rfl⟩) (fun σ => rfl) (fun σ => gp_put_fk) h
    exact ⟨fun _ => a, b⟩
  · intro k σ τ h
    obtain ⟨h1, h2, h3, h4⟩ := h
    have e : gp_begin τ = ((gp_begin σ).1, gp_ref (gp_begin σ).2) := by
      unfold gp_begin
      rw [h2]
      rfl
    rw [e]
    exact ⟨fun _ => rfl, h1, rfl, rfl, Iff.rfl⟩
  · intro k σ τ h
    have hK : gs_kor τ.1 := by
      rw [h.2.1]
      exact ⟨rfl, rfl, h.1.2.2⟩
    exact ⟨h.1, (gp_read τ).1, (gp_read τ).2, fun E d m H hd t X => M_read (d := d) hK (by omega) X, fun z => (by rw [c5] at z; cases z), gq_read h⟩
  · intro k σ τ h
    exact ⟨fun z => (by rw [c6] at z; cases z), gq_pass h⟩
  · intro k σ τ u w h _
    rw [h.2.2.1]
  · intro k σ τ u w h _
    rw [h.2.2.1]
  · intro k σ τ w h z
    rw [c9] at z
    cases z
  · intro k σ τ h
    exact h
