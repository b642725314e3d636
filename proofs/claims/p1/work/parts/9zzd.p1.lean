/-! ONE CALL ON A FRESH OBJECT -/
/-- with one call to come both are fresh -/
def gq_R : Nat → gp_s → gp_s → Prop
  | 0, _, _ => True
  | 1, σ, τ => ∃ p q r t, σ = (gs_K0 p q r t, (0, [], [], 0), 0) ∧ τ = (gs_ref1 (gs_K0 p q r t), (0, [], [], 0), 0)
  | _, _, _ => False
theorem gq_R1 {k : Nat} {σ τ : gp_s} (h : gq_R (k + 1) σ τ) : k = 0 ∧ ∃ p q r t, σ = (gs_K0 p q r t, (0, [], [], 0), 0) ∧ τ = (gs_ref1 (gs_K0 p q r t), (0, [], [], 0), 0) := by
  cases k with
  | zero => exact ⟨rfl, h⟩
  | succ k => exact h.elim
theorem gq_cl (v : Int32) : gs_cl v 0 20 ≤ 20 := by
  unfold gs_cl
  by_cases h1 : 20 < v
  · rw [if_pos h1]
    split
    · exact Int32.le_refl _
    · decide
  · rw [if_neg h1]
    split
    · exact Int32.not_lt.mp h1
    · decide
theorem gq_rd0 {K : gs_K} (h : gs_n K = 0) : gs_read K (0, [], [], 0) 0 = (-3, (0, [], [], 0), -3) := by
  unfold gs_read
  rw [if_neg (by simp), gs_out0 (by rw [h]; rfl) rfl]
  rfl
theorem gq_St : gl_St gl_c gq_R := by
  refine ⟨?_, ?_, ?_, ?_, ?_, ?_, ?_, ?_, ?_, ?_, ?_⟩
  · intro k σ τ n q u id h
    obtain ⟨rfl, a, b, c, e, rfl, rfl⟩ := gq_R1 h
    exact ⟨fun _ => (congrArg Prod.fst gp_define_ref).symm, trivial⟩
  · intro k σ τ n q u h
    obtain ⟨rfl, a, b, c, e, rfl, rfl⟩ := gq_R1 h
    exact ⟨fun _ => (congrArg Prod.fst gp_field_ref).symm, trivial⟩
  · intro k σ τ n q u h
    obtain ⟨rfl, a, b, c, e, rfl, rfl⟩ := gq_R1 h
    exact ⟨fun _ => (congrArg Prod.fst gp_constant_ref).symm, trivial⟩
  · intro k σ τ w q h
    obtain ⟨rfl, a, b, c, e, rfl, rfl⟩ := gq_R1 h
    exact ⟨fun _ => (congrArg Prod.fst gp_put_ref).symm, trivial⟩
  · intro k σ τ h
    obtain ⟨rfl, a, b, c, e, rfl, rfl⟩ := gq_R1 h
    exact ⟨fun _ => rfl, trivial⟩
  · intro k σ τ h
    obtain ⟨rfl, a, b, c, e, rfl, rfl⟩ := gq_R1 h
    refine ⟨⟨rfl, rfl, gq_cl c⟩, (gp_read (gs_ref1 (gs_K0 a b c e), (0, [], [], 0), 0)).1, (gp_read (gs_ref1 (gs_K0 a b c e), (0, [], [], 0), 0)).2, fun E d m H hd t X => M_read0 (d := d) (by omega) X rfl rfl, fun _ => ?_, trivial⟩
    show (gs_read _ _ _).1 = (gs_read _ _ _).1
    rw [gq_rd0 rfl, gq_rd0 rfl]
  · intro k σ τ h
    obtain ⟨rfl, a, b, c, e, rfl, rfl⟩ := gq_R1 h
    exact ⟨fun _ => rfl, trivial⟩
  · intro k σ τ u w h _
    obtain ⟨rfl, a, b, c, e, rfl, rfl⟩ := gq_R1 h
    rfl
  · intro k σ τ u w h _
    obtain ⟨rfl, a, b, c, e, rfl, rfl⟩ := gq_R1 h
    rfl
  · intro k σ τ w h _
    obtain ⟨rfl, a, b, c, e, rfl, rfl⟩ := gq_R1 h
    rfl
  · intro k σ τ h
    obtain ⟨rfl, -⟩ := gq_R1 h
    trivial
theorem gq_pure : gm_Pure := by
  intro E b xs h0 hx I
  obtain ⟨r, h', ⟨n, g⟩, e, c1, c2⟩ := gl_start (d := 400) (k := 1) (R := gq_R) (Nat.le_refl _) I (by omega) gq_St (fun p q r t => ⟨p, q, r, t, rfl, rfl⟩) (by omega)
  subst e
  exact ⟨n, 400, h', by decide, g, by omega, by omega⟩
