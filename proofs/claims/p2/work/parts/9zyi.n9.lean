/-! THE REFERENCE, 36: the beginning of a descriptor. -/
/-- what a descriptor's beginning tells: where its name begins, how long it is, id, flags, how many fields -/
def gs_hd (K : gs_K) : gs_M (Nat × Nat × Int64 × Int32 × Nat) := gs_b (gs_utf K) fun a => gs_b gs_g fun s => gs_b (gs_nxt K 8) fun id => gs_b (gs_flg K id) fun fl => gs_b (gs_nxt K 2) fun c => if 8 < c.toInt32 then gs_x (-5) else gs_r (a, gs_pl s - a, id, fl, c.toInt32.toNatClampNeg)
/-- the row made for it, and its handle -/
def gr_sh (K : gs_K) (a n : Nat) : Int32 := if gs_spelt K a n gs_tI = true then 1 else if gs_spelt K a n gs_tR = true then 2 else 0
def gr_al (t : gr_t) (f k e : Nat) (cl sh : Int32) (id : Int64) : gr_t := gr_ui (gr_ent (gr_ui (gr_ul (gr_ui (gr_ui (gr_ui t 0 39 (nI (k + 1))) 20 k cl) 21 k sh) 23 k id) 32 f (nI k)) e 0 (nI k)) 34 f (nI e)
section N9
variable {X N : Nat → Prop} {E : Nat → Value} {d m f n p dp c us nd k j cnt hb ub nb : Nat} {h : gm_H} {t t' : gr_t} {K : gs_K} {s s' s'' : gs_S} {rc : gs_M Int32} {P : gr_t → Prop}
theorem gr_al_kp {e : Nat} {cl sh : Int32} {id : Int64} (q : gr_kp hb ub nb t t') (hk : nb ≤ k) : gr_kp hb ub nb t (gr_al t' f k e cl sh id) := by
  unfold gr_al gr_ent
  exact ((((((((q.ui (by unfold gr_pr; omega)).ui (by unfold gr_pr; omega)).ui (by unfold gr_pr; omega)).ul (by unfold gr_prl; omega)).ui (by unfold gr_pr; omega)).ui (by unfold gr_pr; omega)).ui (by unfold gr_pr; omega)).ui (by unfold gr_pr; omega)).ui (by unfold gr_pr; omega)
theorem gr_al_v {e o i : Nat} {cl sh : Int32} {id : Int64} (h0 : o = 0 → i ≠ 39 ∧ i ≠ 28) (h1 : o ≠ 16 ∧ o ≠ 17 ∧ o ≠ 20 ∧ o ≠ 21) (h2 : (o = 32 ∨ o = 34) → i ≠ f) : (gr_al t f k e cl sh id).1 o i = t.1 o i := by
  unfold gr_al gr_ent
  have u : ∀ (t : gr_t) (o2 i2 : Nat) (x : Int32), (o = o2 → i ≠ i2) → (gr_ui t o2 i2 x).1 o i = t.1 o i := fun t o2 i2 x z => by
    show (if o = o2 ∧ i = i2 then x else t.1 o i) = t.1 o i
    rw [if_neg (fun y => z y.1 y.2)]
  rw [u _ _ _ _ (fun z => h2 (Or.inr z)), u _ _ _ _ (fun z => (h0 z).2), u _ _ _ _ (fun z => absurd z h1.2.1), u _ _ _ _ (fun z => absurd z h1.1), u _ _ _ _ (fun z => h2 (Or.inl z))]
  show (gr_ui (gr_ui (gr_ui t 0 39 (nI (k + 1))) 20 k cl) 21 k sh).1 o i = _
  rw [u _ _ _ _ (fun z => absurd z h1.2.2.2), u _ _ _ _ (fun z => absurd z h1.2.2.1), u _ _ _ _ (fun z => (h0 z).1)]
theorem gr_al_k {e : Nat} {cl sh : Int32} {id : Int64} : ((gr_al t f k e cl sh id).1 20 k = cl ∧ (gr_al t f k e cl sh id).1 21 k = sh ∧ (gr_al t f k e cl sh id).2 23 k = id) ∧ (gr_al t f k e cl sh id).1 32 f = nI k ∧ (gr_al t f k e cl sh id).1 34 f = nI e ∧ (gr_al t f k e cl sh id).1 16 e = 0 ∧ (gr_al t f k e cl sh id).1 17 e = nI k ∧ (gr_al t f k e cl sh id).1 0 28 = nI (e + 1) ∧ (gr_al t f k e cl sh id).1 0 39 = nI (k + 1) := by
  unfold gr_al gr_ent
  simp [gr_ui, gr_ul]
/-- the local class that a name of one sign means -/
theorem gr_find {a n : Nat} (Cl : gr_C t K) (hs : n = 1 → gs_sb K a &&& 255 = gs_sb K a) (x : Int32) (hx : x = (if n = 1 then (gs_sb K a &&& 255) - 65 else (-1 : Int32))) : (x < 0 → gr_o (gs_find K a n) = -1) ∧ (¬ x < 0 → ¬ x < 6 → gr_o (gs_find K a n) = -1) ∧ (¬ x < 0 → x < 6 → x.toNatClampNeg < 6 ∧ x = nI x.toNatClampNeg ∧ (t.1 2 x.toNatClampNeg < 0 → gr_o (gs_find K a n) = -1) ∧ (¬ t.1 2 x.toNatClampNeg < 0 → gr_o (gs_find K a n) = x)) := by
  have e : gs_let K a n 65 6 = if x < 6 then x else -1 := by
    unfold gs_let
    by_cases h1 : n = 1
    · rw [if_pos h1] at hx ⊢
      rw [hs h1] at hx
      rw [hx]
    · rw [if_neg h1] at hx ⊢
      rw [hx]
      rfl
  have m1 : (-1 : Int32) < 0 := by decide
  unfold gs_find
  rw [e]
  refine ⟨fun h1 => ?_, fun h1 h2 => ?_, fun h1 h2 => ?_⟩
  · have h6 : x < 6 := Int32.lt_trans h1 (by decide)
    rw [if_pos h6]
    dsimp only
    rw [if_pos h1]
    rfl
  · rw [if_neg h2]
    rfl
  · rw [if_pos h2]
    dsimp only
    rw [if_neg h1]
    obtain ⟨i, hi, rfl⟩ := nI_of h1
    rw [nI_clamp hi]
    have i6 : i < 6 := (nI_ltI (b := 6) hi (by decide)).mp h2
    have k := Cl.kind i6
    refine ⟨i6, rfl, fun z => ?_, fun z => ?_⟩
    · rw [k.1.mp z]
      rfl
    · have : ¬ gs_cls K i = none := fun y => z (k.1.mpr y)
      cases ec : gs_cls K i with
      | none => exact absurd ec this
      | some C => rfl
end N9
