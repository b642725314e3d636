/-! WHAT IS GIVEN AT THE LAW'S ENTRY, 1: given cells, by their addresses. -/
def gm_g : List (Nat × gm_C) → Nat → Option gm_C
  | [], _ => none
  | (x, c) :: r, a => if x = a then some c else gm_g r a
theorem gm_g_mem : ∀ {G : List (Nat × gm_C)} {a : Nat} {c : gm_C}, gm_g G a = some c → (a, c) ∈ G
  | [], _, _, h => by cases h
  | (x, d) :: r, a, c, h => by
    unfold gm_g at h
    split at h
    case isTrue e => subst e; cases h; exact List.mem_cons_self
    case isFalse => exact List.mem_cons_of_mem _ (gm_g_mem h)
theorem gm_g_some : ∀ {G : List (Nat × gm_C)} {a : Nat} {c : gm_C}, (a, c) ∈ G → ∃ d, gm_g G a = some d
  | [], _, _, h => by cases h
  | (x, d) :: r, a, c, h => by
    unfold gm_g
    split
    · exact ⟨d, rfl⟩
    · rename_i hx
      rcases List.mem_cons.mp h with e | e
      · cases e; exact absurd rfl hx
      · exact gm_g_some e
theorem gm_g_at {G : List (Nat × gm_C)} {a : Nat} {c : gm_C} (hu : ∀ (b : Nat) (c1 c2 : gm_C), (b, c1) ∈ G → (b, c2) ∈ G → c1 = c2) (h : (a, c) ∈ G) : gm_g G a = some c := by
  obtain ⟨d, hd⟩ := gm_g_some h
  rw [hd, hu a d c (gm_g_mem hd) h]
/-- a given cell: an int array, a byte array, or a String -/
def gm_gv (c : gm_C) : Prop := c.2.length < 2 ^ 31 ∧ (c.1 = 300 ∨ c.1 = 302 ∨ (c.1 = 6 ∧ ∃ v : Nat, c.2 = [.ref v, .int 0]))
theorem gm_pre {s : State} {k : Nat} {vs ws : List Value} {cell : Cell} (h1 : gm_arr s k vs cell) (h2 : gm_arr s k ws cell) (l1 : vs.length < 2 ^ 31) (l2 : ws.length < 2 ^ 31) : vs = ws := by
  have hl : vs.length = ws.length := by
    have h3 : nI vs.length = nI ws.length := h1.2.2.1.2.symm.trans h2.2.2.1.2
    exact (nI_eq l1 l2).mp h3
  apply List.ext_getElem? fun j => ?_
  rcases Nat.lt_or_ge j vs.length with hj | hj
  · have e1 := h1.2.2.1.1 j _ (List.getElem?_eq_getElem hj)
    have e2 := h2.2.2.1.1 j _ (List.getElem?_eq_getElem (show j < ws.length by omega))
    rw [List.getElem?_eq_getElem hj, List.getElem?_eq_getElem (show j < ws.length by omega), ← e1, e2]
  · rw [List.getElem?_eq_none hj, List.getElem?_eq_none (by omega)]
theorem gm_fits_cell {s : State} (hf : heapFits s = true) {a i : Nat} {cell : Cell} {v : Value} (hc : s.heap[a]? = some cell) (hv : cell.slots[i]? = some v) : s.fitsSlot cell.cls cell.vm i v = true := by
  unfold heapFits at hf
  rw [Array.all_eq_true] at hf
  obtain ⟨ha, e⟩ := Array.getElem?_eq_some_iff.mp hc
  have h1 := hf a ha
  rw [e] at h1
  unfold cellFits at h1
  obtain ⟨hi, e2⟩ := Array.getElem?_eq_some_iff.mp hv
  simp at h1
  have h2 := h1 i hi
  rw [hv] at h2
  exact h2
/-- a String is no array of numbers -/
theorem gm_str_arr {s : State} (hf : heapFits s = true) {H0 : Heap} {a v : Nat} {cell : Cell} {ty : FieldType} (hty : ty = .int ∨ ty = .byte) (h1 : va_OF "java/lang/String" "value" "[B" (.ref v) a (gm_A H0) s s.heap) (hc : s.heap[a]? = some cell) (h2 : s.isArrayOf cell ty) : False := by
  obtain ⟨cf, k, i, f, cell2, r1, r2, r3, r4, r5, -⟩ := h1
  cases hc.symm.trans r3
  have h3 := gm_fits_cell hf hc r5
  obtain ⟨hobj, kk, hk, comp, hkind⟩ := h2
  unfold State.fitsSlot State.slotType? at h3
  cases hvm : cell.vm <;> rcases hty with rfl | rfl <;> first | exact absurd hvm (hobj _) | simp [hk, hkind, hvm, fits] at h3
theorem gm_uniq {D : va_G} {H0 : Heap} {s : State} (hf : heapFits s = true) {a : Nat} {c d : gm_C} (hc : gm_cr D H0 s a c s.heap) (hd : gm_cr D H0 s a d s.heap) (gc : gm_gv c) (gd : gm_gv d) : c = d := by
  obtain ⟨lc, kc⟩ := gc
  obtain ⟨ld, kd⟩ := gd
  obtain ⟨ck, cv⟩ := c
  obtain ⟨dk, dv⟩ := d
  dsimp only at lc kc ld kd
  have arr : ∀ {k : Nat} {vs : List Value}, gm_cr D H0 s a (k, vs) s.heap → (k = 300 ∨ k = 302) → ∃ cell : Cell, s.heap[a]? = some cell ∧ gm_arr s k vs cell := fun h z => h.2.2.2 (by show 100 ≤ _; omega)
  have str : ∀ {k : Nat} {vs : List Value}, gm_cr D H0 s a (k, vs) s.heap → k = 6 → (∃ v : Nat, vs = [.ref v, .int 0]) → ∃ v : Nat, vs = [.ref v, .int 0] ∧ va_OF "java/lang/String" "value" "[B" (.ref v) a (gm_A H0) s s.heap := by
    rintro k vs h rfl ⟨v, rfl⟩
    obtain ⟨⟨v0, v1, e, g0, -⟩, -⟩ := h.2.1 rfl
    cases e
    exact ⟨v, rfl, g0⟩
  have tyi : gm_at 300 = .int := rfl
  have tyb : gm_at 302 = .byte := rfl
  rcases kc with rfl | rfl | ⟨rfl, hcs⟩ <;> rcases kd with rfl | rfl | ⟨rfl, hds⟩
  · obtain ⟨cell, e1, e2⟩ := arr hc (Or.inl rfl)
    obtain ⟨cell2, e3, e4⟩ := arr hd (Or.inl rfl)
    cases e1.symm.trans e3
    rw [gm_pre e2 e4 lc ld]
  · obtain ⟨cell, e1, e2⟩ := arr hc (Or.inl rfl)
    obtain ⟨cell2, e3, e4⟩ := arr hd (Or.inr rfl)
    cases e1.symm.trans e3
    obtain ⟨-, k1, hk1, cm1, hkk1⟩ := e2.1
    obtain ⟨-, k2, hk2, cm2, hkk2⟩ := e4.1
    cases hk1.symm.trans hk2
    rw [tyi] at hkk1; rw [tyb] at hkk2
    cases hkk1.symm.trans hkk2
  · obtain ⟨cell, e1, e2⟩ := arr hc (Or.inl rfl)
    obtain ⟨v, -, g⟩ := str hd rfl hds
    exact (gm_str_arr hf (Or.inl tyi) g e1 e2.1).elim
  · obtain ⟨cell, e1, e2⟩ := arr hc (Or.inr rfl)
    obtain ⟨cell2, e3, e4⟩ := arr hd (Or.inl rfl)
    cases e1.symm.trans e3
    obtain ⟨-, k1, hk1, cm1, hkk1⟩ := e2.1
    obtain ⟨-, k2, hk2, cm2, hkk2⟩ := e4.1
    cases hk1.symm.trans hk2
    rw [tyb] at hkk1; rw [tyi] at hkk2
    cases hkk1.symm.trans hkk2
  · obtain ⟨cell, e1, e2⟩ := arr hc (Or.inr rfl)
    obtain ⟨cell2, e3, e4⟩ := arr hd (Or.inr rfl)
    cases e1.symm.trans e3
    rw [gm_pre e2 e4 lc ld]
  · obtain ⟨cell, e1, e2⟩ := arr hc (Or.inr rfl)
    obtain ⟨v, -, g⟩ := str hd rfl hds
    exact (gm_str_arr hf (Or.inr tyb) g e1 e2.1).elim
  · obtain ⟨cell, e1, e2⟩ := arr hd (Or.inl rfl)
    obtain ⟨v, -, g⟩ := str hc rfl hcs
    exact (gm_str_arr hf (Or.inl tyi) g e1 e2.1).elim
  · obtain ⟨cell, e1, e2⟩ := arr hd (Or.inr rfl)
    obtain ⟨v, -, g⟩ := str hc rfl hcs
    exact (gm_str_arr hf (Or.inr tyb) g e1 e2.1).elim
  · obtain ⟨v, rfl, g⟩ := str hc rfl hcs
    obtain ⟨w, rfl, g2⟩ := str hd rfl hds
    obtain ⟨cf, k, i, f, cell, r1, r2, r3, r4, r5, -⟩ := g
    obtain ⟨cf', k', i', f', cell', q1, q2, q3, q4, q5, -⟩ := g2
    cases r1.symm.trans q1
    cases r3.symm.trans q3
    cases r5.symm.trans q5
    rfl
/-- a heap of given cells alone -/
def gm_h0 (n : Nat) (G : List (Nat × gm_C)) : gm_H := (n, 0, gm_g G)
theorem gm_h0_HR {D : va_G} {s : State} {G : List (Nat × gm_C)} (h : ∀ q ∈ G, q.1 < s.heap.size ∧ gm_cr D s.heap s q.1 q.2 s.heap ∧ gm_gv q.2) : gm_HR D s.heap s (gm_h0 s.heap.size G) s.heap := by
  refine ⟨rfl, Nat.le_refl _, fun _ _ => rfl, fun a c hc => ?_⟩
  have hm : (a, c) ∈ G := gm_g_mem hc
  obtain ⟨h1, h2, h3⟩ := h _ hm
  refine ⟨h1, h2, fun z => ?_⟩
  rcases h3.2 with e | e | ⟨e, -⟩ <;> dsimp only at e <;> rw [e] at z <;> simp [gm_ko] at z
