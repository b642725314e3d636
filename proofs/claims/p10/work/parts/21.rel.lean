/-! THE PLAIN MACHINE, 5: what its heap says of the machine's heap; what is known at every entry. -/
def gm_gw : List Cond := lw_tbl.filter goodWord
theorem gm_gw_mem {w : Cond} {i : Nat} (h : tables_1[i]? = some w) (hg : goodWord w = true) : w ∈ gm_gw :=
  List.mem_filter.mpr ⟨List.mem_append_right _ (List.mem_of_getElem? h), hg⟩
set_option maxRecDepth 100000 in
theorem gm_flt_ok : ∀ q ∈ gm_flt, tables_1[q.2.2.2.2]? = some (Cond.fieldLink (gm_cn.getD q.1 "") q.2.1 (gm_T q.2.2.1 q.2.2.2.1).1 (gm_T q.2.2.1 q.2.2.2.1).2.1 (gm_T q.2.2.1 q.2.2.2.1).2.2.1) ∧ q.2.2.1 ≤ 6 ∧ q.2.2.2.1 < gm_N q.2.2.1 := by decide +kernel
set_option maxRecDepth 100000 in
theorem gm_lays_ok : ∀ ci, ci < 6 → ∀ w ∈ u_ws (gm_cn.getD ci "") (gm_T ci) (gm_N ci), w ∈ gm_gw := by decide +kernel
set_option maxRecDepth 100000 in
theorem gm_stt_ok : ∀ q ∈ gm_stt, tables_1[q.2.2.2.1]? = some (Cond.fieldLink (gm_cn.getD q.1 "") q.2.1 q.2.2.2.2.1 q.2.2.2.2.2.1 q.2.2.2.2.2.2) := by decide +kernel
set_option maxRecDepth 100000 in
theorem gm_ict_ok : ∀ q ∈ gm_ict, tables_1[q.2.2.2]? = some (Cond.constant (gm_cn.getD q.1 "") q.2.1 q.2.2.1) := by decide +kernel
set_option maxRecDepth 100000 in
theorem gm_lct_ok : ∀ q ∈ gm_lct, tables_1[q.2.2.2]? = some (Cond.constantLong (gm_cn.getD q.1 "") q.2.1 q.2.2.1) := by decide +kernel
theorem gm_tys_ok : ∀ ci, ci < 6 → ∀ k, k < gm_N ci → parseFieldDescriptor (gm_T ci k).2.2.1 = some (gm_ty ci k) := by decide +kernel
theorem gm_nms_ok : ∀ ci, ci < 6 → ∀ a, a < gm_N ci → ∀ b, b < gm_N ci → a ≠ b → (gm_T ci a).2.1 ≠ (gm_T ci b).2.1 := by decide +kernel
theorem gm_own_ok : ∀ ci, ci < 6 → ∀ k, k < gm_N ci → (gm_T ci k).1 = gm_cn.getD ci "" := by decide +kernel
theorem gm_cl_at : ∀ ci, ci < 6 → gm_cl[ci]? = some (gm_cn.getD ci "", gm_T ci, gm_N ci)
  | 0, _ => rfl
  | 1, _ => rfl
  | 2, _ => rfl
  | 3, _ => rfl
  | 4, _ => rfl
  | 5, _ => rfl
  | n + 6, h => absurd h (by omega)
theorem gm_look_mem {α : Type} : ∀ {T : List (Nat × Nat × α)} {c i : Nat} {x : α}, gm_look T c i = some x → (c, i, x) ∈ T
  | [], _, _, _, h => by cases h
  | (a, b, y) :: r, c, i, x, h => by
    unfold gm_look at h
    split at h
    case isTrue e =>
      obtain ⟨rfl, rfl⟩ := e
      cases h
      exact List.mem_cons_self
    case isFalse => exact List.mem_cons_of_mem _ (gm_look_mem h)
/-- the addresses that are ours -/
def gm_A (H0 : Heap) : Nat → Prop := fun q => H0.size ≤ q
def gm_arr (U : State) (k : Nat) (vs : List Value) (cell : Cell) : Prop := U.isArrayOf cell (gm_at k) ∧ cell.vm ≠ .unknown ∧ ((∀ (j : Nat) (v : Value), vs[j]? = some v → cell.slots[j]? = some v) ∧ cell.slots.size.toInt32 = nI vs.length) ∧ (gm_ko k < 3 → cell.vm = .none ∧ va_RA U cell.cls (gm_at k) ∧ cell.slots.toList = vs)
theorem gm_toL {cell : Cell} {vs : List Value} (h : cell.slots.toList = vs) : (∀ (j : Nat) (v : Value), vs[j]? = some v → cell.slots[j]? = some v) ∧ cell.slots.size.toInt32 = nI vs.length := by
  refine ⟨fun j v hv => by rw [← Array.getElem?_toList, h]; exact hv, ?_⟩
  rw [← h, Array.length_toList]; rfl
def gm_cr (D : va_G) (H0 : Heap) (U : State) (a : Nat) (c : gm_C) (H : Heap) : Prop :=
  (c.1 < 6 → va_at D gm_cl (a, .inr c) H ∧ c.2.length = gm_N c.1) ∧
  (c.1 = 6 → (∃ v0 v1 : Value, c.2 = [v0, v1] ∧ va_OF "java/lang/String" "value" "[B" v0 a (gm_A H0) U H ∧ va_OF "java/lang/String" "coder" "B" v1 a (gm_A H0) U H) ∧ va_O "java/lang/String" a (gm_A H0) U H) ∧
  (c.1 = 7 → ∃ cell : Cell, H[a]? = some cell ∧ cell.vm = .none ∧ U.vm.findClass "java/lang/IllegalStateException" = some cell.cls) ∧
  (100 ≤ c.1 → ∃ cell : Cell, H[a]? = some cell ∧ gm_arr U c.1 c.2 cell)
def gm_HR (D : va_G) (H0 : Heap) (U : State) (h : gm_H) (H : Heap) : Prop := H.size = h.1 ∧ H0.size ≤ h.1 ∧ (∀ q : Nat, q < H0.size → H[q]? = H0[q]?) ∧
  ∀ (a : Nat) (c : gm_C), gm_rd h a = some c → a < h.1 ∧ gm_cr D H0 U a c H ∧ (gm_ko c.1 < 3 → H0.size ≤ a)
theorem gm_arr.moved {u U : State} (hvm : u.vm.Alike U.vm) {k : Nat} {vs : List Value} {cell : Cell} (h : gm_arr u k vs cell) : gm_arr U k vs cell :=
  ⟨State.isArrayOf_alike hvm h.1, h.2.1, h.2.2.1, fun z => ⟨(h.2.2.2 z).1, (h.2.2.2 z).2.1.moved hvm, (h.2.2.2 z).2.2⟩⟩
theorem gm_cr.moved {D : va_G} {H0 : Heap} {u U : State} (hvm : u.vm.Alike U.vm) {a : Nat} {c : gm_C} {H : Heap} (h : gm_cr D H0 u a c H) : gm_cr D H0 U a c H := by
  refine ⟨h.1, fun z => ?_, fun z => ?_, fun z => ?_⟩
  · obtain ⟨⟨v0, v1, e, h1, h2⟩, h3⟩ := h.2.1 z
    exact ⟨⟨v0, v1, e, h1.moved hvm, h2.moved hvm⟩, h3.moved hvm⟩
  · obtain ⟨cell, h1, h2, h3⟩ := h.2.2.1 z
    exact ⟨cell, h1, h2, by rw [hvm.findClass]; exact h3⟩
  · obtain ⟨cell, h1, h2⟩ := h.2.2.2 z
    exact ⟨cell, h1, h2.moved hvm⟩
theorem gm_HR.moved {D : va_G} {H0 : Heap} {u U : State} (hvm : u.vm.Alike U.vm) {h : gm_H} {H : Heap} (hr : gm_HR D H0 u h H) : gm_HR D H0 U h H :=
  ⟨hr.1, hr.2.1, hr.2.2.1, fun a c hc => ⟨(hr.2.2.2 a c hc).1, (hr.2.2.2 a c hc).2.1.moved hvm, (hr.2.2.2 a c hc).2.2⟩⟩
/-- a cell that the heap's change leaves alone -/
theorem gm_cr.kept {D : va_G} {H0 : Heap} {U : State} {a : Nat} {c : gm_C} {H H1 : Heap} (h : gm_cr D H0 U a c H) (hq : H1[a]? = H[a]?) : gm_cr D H0 U a c H1 := by
  have hOF : ∀ {o n d : String} {v : Value}, va_OF o n d v a (gm_A H0) U H → va_OF o n d v a (gm_A H0) U H1 := by
    intro o n d v z
    obtain ⟨cf, k, i, f, cell, h1, h2, h3, h4⟩ := z
    exact ⟨cf, k, i, f, cell, h1, h2, by rw [hq]; exact h3, h4⟩
  refine ⟨fun z => ⟨(h.1 z).1.kept hq, (h.1 z).2⟩, fun z => ?_, fun z => ?_, fun z => ?_⟩
  · obtain ⟨⟨v0, v1, e, h1, h2⟩, cell, h3, h4⟩ := h.2.1 z
    exact ⟨⟨v0, v1, e, hOF h1, hOF h2⟩, cell, by rw [hq]; exact h3, h4⟩
  · obtain ⟨cell, h1, h2⟩ := h.2.2.1 z
    exact ⟨cell, by rw [hq]; exact h1, h2⟩
  · obtain ⟨cell, h1, h2⟩ := h.2.2.2 z
    exact ⟨cell, by rw [hq]; exact h1, h2⟩
/-- words that aren't of the good ones but stay true -/
def gm_xg : Cond → Bool
  | .declares _ => true
  | .castable _ _ => true
  | .methodLinkNest _ _ _ _ => true
  | _ => false
def gm_xw : List Cond := tables_1.filter gm_xg
theorem gm_xg_warm {w : Cond} {s U : State} (hg : gm_xg w = true) (hW : s.WarmedH U.vm) (h : va_Nw w s) : va_Nw w U := by
  cases w with
  | declares x => exact h.warmD hW
  | castable a b => exact h.warmC hW
  | methodLinkNest a i x b => exact h.warmM hW
  | _ => cases hg
/-- what is known at a method's entry -/
def gm_Cx (D : va_G) (H0 : Heap) (E : Nat → Value) (s : State) : Prop :=
  (∀ w ∈ gm_gw, ∀ a' : Array Value, w.before a' s = true) ∧ va_K D gm_cl [] s ∧
  (∀ q ∈ gm_stt, va_Z q.2.2.2.2.1 q.2.2.2.2.2.1 q.2.2.2.2.2.2 (E q.2.2.1) (gm_A H0) s H0) ∧
  (∀ q ∈ gm_sct, ∃ a : Nat, E q.2.2.1 = .ref a ∧ vk_R (gm_cn.getD q.1 "") q.2.1 q.2.2.2 a s) ∧
  vx_Zq Bundle.tN "UNASSIGNED_STACK" Bundle.steD (gm_A H0) s H0 ∧ vx_Zq Bundle.tN "SUPPRESSED_SENTINEL" Bundle.listD (gm_A H0) s H0 ∧
  (∀ w ∈ gm_xw, va_Nw w s) ∧ ∀ q ∈ gm_ant, va_AO q.2.2.2.1 s
theorem gm_Cx.moved {D : va_G} {H0 : Heap} {E : Nat → Value} {s U : State} (hW : s.WarmedH U.vm) (h : gm_Cx D H0 E s) : gm_Cx D H0 E U := by
  obtain ⟨h1, h2, h3, h4, h5, h6, h7, h8⟩ := h
  refine ⟨fun w hw a' => word_at hW (good_of_word (List.mem_filter.mp hw).2) (h1 w hw #[]), va_K.moved hW.alike h2, fun q hq => (h3 q hq).moved hW.alike, fun q hq => ?_, h5.moved hW.alike, h6.moved hW.alike, fun w hw => gm_xg_warm (List.mem_filter.mp hw).2 hW (h7 w hw), fun q hq => (h8 q hq).moved hW.alike⟩
  obtain ⟨a, e1, e2⟩ := h4 q hq
  exact ⟨a, e1, e2.warm hW⟩
