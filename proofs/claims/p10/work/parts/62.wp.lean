/-! THE PURE SIDE, 2b: what must hold for a run to end well (gm_W from a place on, gm_T of a call); a heap by its views. -/
def gm_W (E : Nat → Value) (d mi pc : Nat) (lv st : List Value) (h : gm_H) (Q : gm_R → gm_H → Prop) : Prop := ∃ (r : gm_R) (h' : gm_H), gm_Go E d mi pc lv st h (r, h') ∧ Q r h'
def gm_Ca (E : Nat → Value) (d mi : Nat) (as : List Value) (h : gm_H) (Q : gm_R → gm_H → Prop) : Prop := gm_W E d mi 0 (gm_en as (gm_mL mi)) [] h Q
section WP
variable {E : Nat → Value} {d mi pc : Nat} {lv st : List Value} {h : gm_H} {Q Qc : gm_R → gm_H → Prop}
theorem gm_W.mono {Q' : gm_R → gm_H → Prop} (w : gm_W E d mi pc lv st h Q) (k : ∀ r h', Q r h' → Q' r h') : gm_W E d mi pc lv st h Q' := by
  obtain ⟨r, h', a, b⟩ := w
  exact ⟨r, h', a, k r h' b⟩
theorem gm_Ca.mono {as : List Value} {Q' : gm_R → gm_H → Prop} (w : gm_Ca E d mi as h Q) (k : ∀ r h', Q r h' → Q' r h') : gm_Ca E d mi as h Q' := gm_W.mono w k
theorem gw_on {pc' : Nat} {lv' st' : List Value} {h' : gm_H} (hn : gm_next E mi pc lv st h = some (.inl (pc', lv', st', h'))) : gm_W E d mi pc lv st h Q ↔ gm_W E d mi pc' lv' st' h' Q := by
  unfold gm_W
  simp only [gm_go_on hn]
theorem gw_end {v : Option Value} (hn : gm_next E mi pc lv st h = some (.inr (.inr (.inl v)))) : gm_W E d mi pc lv st h Q ↔ Q (.inl v) h := by
  unfold gm_W
  simp only [gm_go_ret hn]
  constructor
  · rintro ⟨r, h', e, q⟩
    cases e
    exact q
  · intro q
    exact ⟨_, _, rfl, q⟩
theorem gw_ex {a : Nat} {h' : gm_H} (hn : gm_next E mi pc lv st h = some (.inr (.inr (.inr (a, h'))))) : gm_W E d mi pc lv st h Q ↔ Q (.inr a) h' := by
  unfold gm_W
  simp only [gm_go_thr hn]
  constructor
  · rintro ⟨r, h', e, q⟩
    cases e
    exact q
  · intro q
    exact ⟨_, _, rfl, q⟩
theorem gw_call {sd mi' : Nat} {as rest : List Value} {M M' : gm_M} (hn : gm_next E mi pc lv st h = some (.inr (.inl (sd, mi', as, rest)))) (hM : gm_mt[mi]? = some M) (hM' : gm_mt[mi']? = some M') (hh : gm_hd M.2.2.2.2.1 pc = none)
    (hd : 1 ≤ d) (hc : gm_Ca E (d - 1) mi' as h Qc) (kn : ∀ (v9 : Option Value) (h9 : gm_H), Qc (.inl v9) h9 → gm_W E d mi (pc + 3) lv (v9.toList ++ rest) h9 Q) (kx : ∀ (x9 : Nat) (h9 : gm_H), Qc (.inr x9) h9 → Q (.inr x9) h9) : gm_W E d mi pc lv st h Q := by
  obtain ⟨d, rfl⟩ : ∃ e, d = e + 1 := ⟨d - 1, by omega⟩
  obtain ⟨r, h1, g, q⟩ := hc
  cases r with
  | inl v =>
    obtain ⟨r2, h2, g2, q2⟩ := kn v h1 q
    exact ⟨r2, h2, gm_go_call hn hM hM' g g2, q2⟩
  | inr a => exact ⟨_, _, gm_go_callX hn hM hM' g hh, kx a h1 q⟩
theorem gw_callC {sd mi' t : Nat} {as rest : List Value} {M M' : gm_M} (hn : gm_next E mi pc lv st h = some (.inr (.inl (sd, mi', as, rest)))) (hM : gm_mt[mi]? = some M) (hM' : gm_mt[mi']? = some M') (hh : gm_hd M.2.2.2.2.1 pc = some t)
    (hd : 1 ≤ d) (hc : gm_Ca E (d - 1) mi' as h Qc) (kn : ∀ (v9 : Option Value) (h9 : gm_H), Qc (.inl v9) h9 → gm_W E d mi (pc + 3) lv (v9.toList ++ rest) h9 Q) (kx : ∀ (x9 : Nat) (h9 : gm_H), Qc (.inr x9) h9 → gm_W E d mi t lv [.ref x9] h9 Q) : gm_W E d mi pc lv st h Q := by
  obtain ⟨d, rfl⟩ : ∃ e, d = e + 1 := ⟨d - 1, by omega⟩
  obtain ⟨r, h1, g, q⟩ := hc
  cases r with
  | inl v =>
    obtain ⟨r2, h2, g2, q2⟩ := kn v h1 q
    exact ⟨r2, h2, gm_go_call hn hM hM' g g2, q2⟩
  | inr a =>
    obtain ⟨r2, h2, g2, q2⟩ := kx a h1 q
    exact ⟨r2, h2, gm_go_callC hn hM hM' g hh g2, q2⟩
end WP
/-- the kind of a cell (999: none, or not as long as its kind wants), its length, what stands at a place; a place set -/
def gm_kd (h : gm_H) (a : Nat) : Nat := match gm_rd h a with
  | some (k, vs) => if k < 6 ∧ vs.length ≠ gm_N k then 999 else k
  | none => 999
def gm_ln (h : gm_H) (a : Nat) : Nat := match gm_rd h a with
  | some (_, vs) => vs.length
  | none => 0
def gm_fv (h : gm_H) (a k : Nat) : Value := match gm_rd h a with
  | some (_, vs) => vs.getD k gm_u
  | none => gm_u
def gm_sf (h : gm_H) (a k : Nat) (v : Value) : gm_H := match gm_rd h a with
  | some (q, vs) => gm_wr h a (q, vs.set k v)
  | none => h
section VIEWS
variable {h : gm_H} {a b j k n : Nat} {v : Value} {c : gm_C}
theorem gm_rd_sf : gm_rd (gm_sf h a k v) b = if b = a then (gm_rd h a).map (fun c => (c.1, c.2.set k v)) else gm_rd h b := by
  unfold gm_sf
  cases e : gm_rd h a with
  | none =>
    dsimp only
    split
    · rename_i z; rw [z, e]; rfl
    · rfl
  | some c =>
    obtain ⟨q, vs⟩ := c
    dsimp only
    show (if b = a then some (q, vs.set k v) else h.2.2 b) = _
    split <;> rfl
theorem gm_rd_nw : gm_rd (gm_nw h c n) b = if b = h.1 then some c else gm_rd h b := rfl
theorem gm_sf_1 : (gm_sf h a k v).1 = h.1 := by
  unfold gm_sf
  split <;> rfl
theorem gm_sf_2 : (gm_sf h a k v).2.1 = h.2.1 := by
  unfold gm_sf
  split <;> rfl
theorem gm_nw_1 : (gm_nw h c n).1 = h.1 + 1 := rfl
theorem gm_nw_2 : (gm_nw h c n).2.1 = h.2.1 + n := rfl
theorem gm_kd_sf : gm_kd (gm_sf h a k v) b = gm_kd h b := by
  unfold gm_kd
  rw [gm_rd_sf]
  by_cases z : b = a
  · subst z
    rw [if_pos rfl]
    cases gm_rd h b with
    | none => rfl
    | some c => simp
  · rw [if_neg z]
theorem gm_ln_sf : gm_ln (gm_sf h a k v) b = gm_ln h b := by
  unfold gm_ln
  rw [gm_rd_sf]
  by_cases z : b = a
  · subst z
    rw [if_pos rfl]
    cases gm_rd h b with
    | none => rfl
    | some c => simp
  · rw [if_neg z]
theorem gm_fv_sf (hk : k < gm_ln h a) : gm_fv (gm_sf h a k v) a k = v := by
  unfold gm_fv
  rw [gm_rd_sf, if_pos rfl]
  unfold gm_ln at hk
  cases e : gm_rd h a with
  | none => rw [e] at hk; cases hk
  | some c =>
    rw [e] at hk
    dsimp only at hk
    simp [List.getD, hk]
theorem gm_fv_sfj (hj : j ≠ k) : gm_fv (gm_sf h a k v) b j = gm_fv h b j := by
  unfold gm_fv
  rw [gm_rd_sf]
  by_cases z : b = a
  · subst z
    rw [if_pos rfl]
    cases e : gm_rd h b with
    | none => rfl
    | some c => simp [List.getD, List.getElem?_set, Ne.symm hj]
  · rw [if_neg z]
theorem gm_fv_sfa (hb : b ≠ a) : gm_fv (gm_sf h a k v) b j = gm_fv h b j := by
  unfold gm_fv
  rw [gm_rd_sf, if_neg hb]
theorem gm_kd_nw (hb : b ≠ h.1) : gm_kd (gm_nw h c n) b = gm_kd h b := by unfold gm_kd; rw [gm_rd_nw, if_neg hb]
theorem gm_ln_nw (hb : b ≠ h.1) : gm_ln (gm_nw h c n) b = gm_ln h b := by unfold gm_ln; rw [gm_rd_nw, if_neg hb]
theorem gm_fv_nw (hb : b ≠ h.1) : gm_fv (gm_nw h c n) b j = gm_fv h b j := by unfold gm_fv; rw [gm_rd_nw, if_neg hb]
theorem gm_kd_nw1 : gm_kd (gm_nw h c n) h.1 = if c.1 < 6 ∧ c.2.length ≠ gm_N c.1 then 999 else c.1 := by unfold gm_kd; rw [gm_rd_nw, if_pos rfl]
theorem gm_ln_nw1 : gm_ln (gm_nw h c n) h.1 = c.2.length := by unfold gm_ln; rw [gm_rd_nw, if_pos rfl]
theorem gm_fv_nw1 : gm_fv (gm_nw h c n) h.1 j = c.2.getD j gm_u := by unfold gm_fv; rw [gm_rd_nw, if_pos rfl]
/-- what the kind says of the cell -/
theorem gm_kd_rd (hk : gm_kd h a = k) (h9 : k < 900) : ∃ vs, gm_rd h a = some (k, vs) ∧ gm_ln h a = vs.length ∧ (k < 6 → vs.length = gm_N k) ∧ ∀ j, gm_fv h a j = vs.getD j gm_u := by
  unfold gm_kd at hk
  cases e : gm_rd h a with
  | none => rw [e] at hk; simp at hk; omega
  | some c =>
    obtain ⟨q, vs⟩ := c
    rw [e] at hk
    dsimp only at hk
    split at hk
    · omega
    · rename_i hz
      subst hk
      refine ⟨vs, rfl, by unfold gm_ln; rw [e], fun h6 => ?_, fun j => by unfold gm_fv; rw [e]⟩
      by_cases hh : vs.length = gm_N q
      · exact hh
      · exact absurd ⟨h6, hh⟩ hz
theorem gm_kd_ln (hk : gm_kd h a = k) (h6 : k < 6) : gm_ln h a = gm_N k := by
  obtain ⟨vs, -, h2, h3, -⟩ := gm_kd_rd hk (by omega)
  rw [h2, h3 h6]
end VIEWS
theorem gm_k_int {x : Int32} : gm_k (.int x) = .int x := rfl
theorem gm_k_ref {x : Nat} : gm_k (.ref x) = .ref x := rfl
theorem gm_k_null : gm_k .null = .null := rfl
theorem gm_k_u : gm_k gm_u = gm_u := rfl
theorem gm_k_long {x : Int64} : gm_k (.long x) = gm_u := rfl
