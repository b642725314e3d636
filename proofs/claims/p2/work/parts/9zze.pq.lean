theorem gq_pure : gm_Pure := by
  intro E b xs h0 hx I
  obtain ⟨r, h', ⟨n, g⟩, e, c1, c2⟩ := gl_start (d := 400) (k := 512) (R := gq_R) (Nat.le_refl _) I (by omega) (gq_St rfl rfl rfl) (fun p q r t => ⟨⟨rfl, rfl, gq_cl r⟩, rfl, rfl, Iff.rfl⟩) (by omega)
  subst e
  exact ⟨n, 400, h', by decide, g, by omega, by omega⟩
