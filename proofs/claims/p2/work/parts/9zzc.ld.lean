/-! THE LAW, 4: the reference's flags. -/
def gp_ref (σ : gp_s) : gp_s := (gs_ref1 σ.1, σ.2)
section LD
variable {σ : gp_s}
theorem gp_define_ref {n k u : Int32} {id : Int64} : gp_define (gp_ref σ) n k u id = ((gp_define σ n k u id).1, gp_ref (gp_define σ n k u id).2) := by
  unfold gp_define
  by_cases c : gs_defok σ.1 n k u = true
  · rw [if_pos c, if_pos (show gs_defok (gp_ref σ).1 n k u = true from c)]
    rfl
  · rw [if_neg c, if_neg (show ¬ gs_defok (gp_ref σ).1 n k u = true from c)]
theorem gp_field_ref {n nm ty : Int32} : gp_field (gp_ref σ) n nm ty = ((gp_field σ n nm ty).1, gp_ref (gp_field σ n nm ty).2) := by
  have e : gs_fld (gs_ref1 σ.1) σ.2.1 n nm ty = ((gs_fld σ.1 σ.2.1 n nm ty).1, gs_ref1 (gs_fld σ.1 σ.2.1 n nm ty).2) := by
    unfold gs_fld
    rw [show gs_cn (gs_ref1 σ.1) n = gs_cn σ.1 n from rfl]
    cases gs_cn σ.1 n with
    | none => rfl
    | some c =>
      dsimp only
      rw [show gs_cls (gs_ref1 σ.1) c = gs_cls σ.1 c from rfl]
      cases gs_cls σ.1 c with
      | none => rfl
      | some C =>
        dsimp only
        split <;> rfl
  unfold gp_field gp_ref
  rw [e]
theorem gp_constant_ref {n nm on : Int32} : gp_constant (gp_ref σ) n nm on = ((gp_constant σ n nm on).1, gp_ref (gp_constant σ n nm on).2) := by
  have e : gs_cst (gs_ref1 σ.1) n nm on = ((gs_cst σ.1 n nm on).1, gs_ref1 (gs_cst σ.1 n nm on).2) := by
    unfold gs_cst
    rw [show gs_cn (gs_ref1 σ.1) n = gs_cn σ.1 n from rfl]
    cases gs_cn σ.1 n with
    | none => rfl
    | some c =>
      dsimp only
      rw [show gs_cls (gs_ref1 σ.1) c = gs_cls σ.1 c from rfl]
      cases gs_cls σ.1 c with
      | none => rfl
      | some C =>
        dsimp only
        split
        · split <;> rfl
        · rfl
  unfold gp_constant gp_ref
  rw [e]
theorem gs_puts_ref {v : Int64} : ∀ (k : Nat) (K : gs_K), gs_puts (gs_ref1 K) v k = gs_ref1 (gs_puts K v k)
  | 0, _ => rfl
  | k + 1, K => gs_puts_ref k (gs_put1 K (gs_pb v k))
theorem gp_put_ref {v : Int64} {c : Int32} : gp_put (gp_ref σ) v c = ((gp_put σ v c).1, gp_ref (gp_put σ v c).2) := by
  have e : gs_putr (gs_ref1 σ.1) v c = ((gs_putr σ.1 v c).1, gs_ref1 (gs_putr σ.1 v c).2) := by
    unfold gs_putr
    rw [show gs_n (gs_ref1 σ.1) = gs_n σ.1 from rfl]
    split
    · rfl
    · rw [gs_puts_ref]
  unfold gp_put gp_ref
  rw [e]
theorem gp_begin_ref : gp_begin (gp_ref σ) = ((gp_begin σ).1, gp_ref (gp_begin σ).2) := rfl
theorem gp_pass_ref : gp_pass (gp_ref σ) = ((gp_pass σ).1, gp_ref (gp_pass σ).2) := rfl
/-- what a call keeps of the flags and of the limits -/
def gs_fk (K K' : gs_K) : Prop := K'.1 = K.1 ∧ gs_rst K' = gs_rst K ∧ gs_fill K' = gs_fill K
theorem gs_kok.fk {K K' : gs_K} (h : gs_kok K) (q : gs_fk K K') : gs_kok K' := ⟨q.2.1.trans h.1, q.2.2.trans h.2.1, by rw [q.1]; exact h.2.2⟩
theorem gp_define_fk {n k u : Int32} {id : Int64} : gs_fk σ.1 (gp_define σ n k u id).2.1 := by
  unfold gp_define
  split <;> exact ⟨rfl, rfl, rfl⟩
theorem gp_field_fk {n nm ty : Int32} : gs_fk σ.1 (gp_field σ n nm ty).2.1 := by
  show gs_fk σ.1 (gs_fld σ.1 σ.2.1 n nm ty).2
  unfold gs_fld
  cases gs_cn σ.1 n with
  | none => exact ⟨rfl, rfl, rfl⟩
  | some c =>
    dsimp only
    cases gs_cls σ.1 c with
    | none => exact ⟨rfl, rfl, rfl⟩
    | some C =>
      dsimp only
      split <;> exact ⟨rfl, rfl, rfl⟩
theorem gp_constant_fk {n nm on : Int32} : gs_fk σ.1 (gp_constant σ n nm on).2.1 := by
  show gs_fk σ.1 (gs_cst σ.1 n nm on).2
  unfold gs_cst
  cases gs_cn σ.1 n with
  | none => exact ⟨rfl, rfl, rfl⟩
  | some c =>
    dsimp only
    cases gs_cls σ.1 c with
    | none => exact ⟨rfl, rfl, rfl⟩
    | some C =>
      dsimp only
      split
      · split <;> exact ⟨rfl, rfl, rfl⟩
      · exact ⟨rfl, rfl, rfl⟩
theorem gs_puts_fk {v : Int64} : ∀ (k : Nat) (K : gs_K), gs_fk K (gs_puts K v k)
  | 0, _ => ⟨rfl, rfl, rfl⟩
  | k + 1, K => gs_puts_fk k (gs_put1 K (gs_pb v k))
theorem gp_put_fk {v : Int64} {c : Int32} : gs_fk σ.1 (gp_put σ v c).2.1 := by
  show gs_fk σ.1 (gs_putr σ.1 v c).2
  unfold gs_putr
  split
  · exact ⟨rfl, rfl, rfl⟩
  · exact gs_puts_fk _ _
end LD
