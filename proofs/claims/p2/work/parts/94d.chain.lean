/-! CHAINS OF CLASSES. -/
def gs_wf (K : gs_K) : Prop := ∀ (c : Nat) (C : gs_C), gs_cls K c = some C → c < 6 ∧ ∀ s, gs_sup C = some s → s < c ∧ (gs_cls K s).isSome = true
theorem gx_C.wf {E : Nat → Value} {h : gm_H} {x : Nat} {ca : Nat → Nat} {K : gs_K} {F : Nat → Prop} (q : gx_C E h x ca K F) : gs_wf K := by
  intro c C hC
  have hc : c < 6 := by
    rcases Nat.lt_or_ge c 6 with z | z
    · exact z
    · rw [q.1.2 c z] at hC; cases hC
  exact ⟨hc, ((q.2 c hc).2 C hC).2.2⟩
theorem gs_up_fuel {K : gs_K} (hw : gs_wf K) : ∀ (k : Nat) (o : Option Nat), (∀ c, o = some c → c < k) → gs_up K (k + 1) o = gs_up K k o
  | 0, none, _ => rfl
  | 0, some c, h => absurd (h c rfl) (by omega)
  | k + 1, none, _ => rfl
  | k + 1, some c, h => by
    show gs_up K (k + 1 + 1) (some c) = gs_up K (k + 1) (some c)
    cases hC : gs_cls K c with
    | none => unfold gs_up; rw [hC]
    | some C =>
      have e : ∀ j, gs_up K (j + 1) (some c) = (c, C) :: gs_up K j (gs_sup C) := fun j => by
        show (match gs_cls K c with
          | none => []
          | some C => (c, C) :: gs_up K j (gs_sup C)) = _
        rw [hC]
      rw [e, e, gs_up_fuel hw k (gs_sup C) (fun s hs => by have := ((hw c C hC).2 s hs).1; have := h c rfl; omega)]
theorem gs_up_more {K : gs_K} (hw : gs_wf K) (o : Option Nat) : ∀ (j k : Nat), (∀ c, o = some c → c < k) → gs_up K (k + j) o = gs_up K k o
  | 0, _, _ => rfl
  | j + 1, k, h => by
    rw [← Nat.add_assoc, gs_up_fuel hw (k + j) o (fun c hc => by have := h c hc; omega), gs_up_more hw o j k h]
theorem gs_chain_cons {K : gs_K} (hw : gs_wf K) {c : Nat} {C : gs_C} (hC : gs_cls K c = some C) : gs_chain K (some c) = (c, C) :: gs_chain K (gs_sup C) := by
  have e : gs_up K (5 + 1) (some c) = (c, C) :: gs_up K 5 (gs_sup C) := by
    show (match gs_cls K c with
      | none => []
      | some C => (c, C) :: gs_up K 5 (gs_sup C)) = _
    rw [hC]
  unfold gs_chain
  rw [show (6 : Nat) = 5 + 1 from rfl, e, gs_up_fuel hw 5 (gs_sup C) (fun s hs => by have := ((hw c C hC).2 s hs).1; have := (hw c C hC).1; omega)]
theorem gs_chain_none {K : gs_K} : gs_chain K none = [] := rfl
theorem gs_slots_cons {K : gs_K} (hw : gs_wf K) {c : Nat} {C : gs_C} (hC : gs_cls K c = some C) : gs_slots K (some c) = (gs_fs C).length + gs_first K C := by
  unfold gs_slots gs_first gs_slots
  rw [gs_chain_cons hw hC]
  simp
theorem gs_slot0_cons {K : gs_K} (hw : gs_wf K) {c : Nat} {C : gs_C} (hC : gs_cls K c = some C) : gs_slot0 K (some c) = gs_slot0 K (gs_sup C) ++ (gs_fs C).map (fun f => gs_v0 C f.2) := by
  unfold gs_slot0
  rw [gs_chain_cons hw hC]
  simp
theorem gs_slot0_len {K : gs_K} {o : Option Nat} : (gs_slot0 K o).length = gs_slots K o := by
  unfold gs_slot0 gs_slots
  simp only [List.length_flatten, List.map_map, List.map_reverse, List.sum_reverse]
  congr 1
  apply List.map_congr_left
  intro q _
  simp
theorem gs_inch_cons {K : gs_K} (hw : gs_wf K) {c : Nat} {C : gs_C} {o : Option Nat} (hC : gs_cls K c = some C) : gs_inch K o (some c) = ((some c == o) || gs_inch K o (gs_sup C)) := by
  unfold gs_inch
  rw [gs_chain_cons hw hC]
  rfl
/-- chains are short -/
theorem gs_slots_le {K : gs_K} (hw : gs_wf K) (h4 : ∀ c C, gs_cls K c = some C → (gs_fs C).length ≤ 4) : ∀ (k : Nat) (o : Option Nat), (∀ c, o = some c → c < k) → gs_slots K o ≤ 4 * k
  | k, none, _ => by show 0 ≤ 4 * k; omega
  | 0, some c, h => absurd (h c rfl) (by omega)
  | k + 1, some c, h => by
    cases hC : gs_cls K c with
    | none =>
      have : gs_slots K (some c) = 0 := by
        unfold gs_slots gs_chain
        rw [show (6 : Nat) = 5 + 1 from rfl]
        unfold gs_up
        rw [hC]
        rfl
      omega
    | some C =>
      have e1 := h4 c C hC
      have e2 := gs_slots_le hw h4 k (gs_sup C) (fun s hs => by have := ((hw c C hC).2 s hs).1; have := h c rfl; omega)
      rw [gs_slots_cons hw hC]
      unfold gs_first
      omega
theorem gs_cn_def {K : gs_K} {a n : Nat} : gs_find K a n = (if gs_let K a n 65 6 < 0 then none else if (gs_cls K (gs_let K a n 65 6).toNatClampNeg).isSome = true then some (gs_let K a n 65 6).toNatClampNeg else none) := rfl
