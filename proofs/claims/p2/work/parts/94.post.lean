/-! WHAT A METHOD OF A READ LEAVES BEHIND. G: addresses that it may change beside its own cells. -/
def gx_le (s s' : gs_S) : Prop := (gs_hp s).length ≤ (gs_hp s').length ∧ (gs_hs s).length ≤ (gs_hs s').length
/-- nothing that stood before has changed -/
def gx_mv (h h' : gm_H) (x : Nat) (G : Nat → Prop) (s : gs_S) : Prop := gx_ag h h' x G ∧ (∀ c, gm_fv h' (x + 1) c = gm_fv h (x + 1) c) ∧ gm_fv h' x 11 = gm_fv h x 11 ∧ (∀ i, i < (gs_hp s).length → gm_fv h' (x + 3) i = gm_fv h (x + 3) i) ∧ ∀ i, i < (gs_hs s).length → gm_fv h' (x + 5) i = gm_fv h (x + 5) i ∧ gm_fv h' (x + 6) i = gm_fv h (x + 6) i
/-- after a fault -/
def gx_E (h : gm_H) (x : Nat) (K : gs_K) (f : Int32) : Prop := gx_A h x ∧ gx_B h x K ∧ gm_fv h x 12 = .int f
/-- what was made is paid by bytes that were passed -/
def gx_co (h h' : gm_H) (s s' : gs_S) : Prop := h'.1 + gs_pl s ≤ h.1 + gs_pl s' ∧ h'.2.1 + 8 * gs_pl s ≤ h.2.1 + 8 * gs_pl s'
def gx_cx (h h' : gm_H) (K : gs_K) (s : gs_S) : Prop := h'.1 + gs_pl s ≤ h.1 + gs_n K + 3 ∧ h'.2.1 + 8 * gs_pl s ≤ h.2.1 + 8 * gs_n K + 60
def gx_P {α : Type} (E : Nat → Value) (h : gm_H) (x : Nat) (ca : Nat → Nat) (K : gs_K) (F G : Nat → Prop) (s : gs_S) (val : α → gm_H → Option Value → Prop) (res : Except Int32 (α × gs_S)) : gm_R → gm_H → Prop
  | .inl v, h' => ∃ (a : α) (s' : gs_S), res = .ok (a, s') ∧ val a h' v ∧ gx_R E h' x ca K F s' ∧ gx_mv h h' x G s ∧ gx_le s s' ∧ gx_co h h' s s'
  | .inr _, h' => ∃ f : Int32, res = .error f ∧ gx_E h' x K f ∧ gx_mv h h' x G s ∧ gx_cx h h' K s
theorem i32_10 : ((1 : Int32) = 0) = False := eq_false (by decide)
theorem gm_cmp1 : gm_cmp 1 = 12 := rfl
theorem gm_cmp3 : gm_cmp 3 = 10 := rfl
theorem gm_cmp4 : gm_cmp 4 = 11 := rfl
/-- nothing made -/
def gx_nal (h h' : gm_H) : Prop := h'.1 = h.1 ∧ h'.2.1 = h.2.1
theorem gx_nal.refl {h : gm_H} : gx_nal h h := ⟨rfl, rfl⟩
theorem gx_nal.trans {h h1 h' : gm_H} (p : gx_nal h h1) (q : gx_nal h1 h') : gx_nal h h' := ⟨q.1.trans p.1, q.2.trans p.2⟩
theorem gx_nal.sf {h h1 : gm_H} {a k : Nat} {v : Value} (p : gx_nal h h1) : gx_nal h (gm_sf h1 a k v) := ⟨gm_sf_1.trans p.1, gm_sf_2.trans p.2⟩
section POST
variable {E : Nat → Value} {h h' h1 : gm_H} {x a b j k n : Nat} {ca : Nat → Nat} {K : gs_K} {F G G1 : Nat → Prop} {s s' s1 : gs_S} {v : Value} {α β : Type} {val : β → gm_H → Option Value → Prop} {va1 : α → gm_H → Option Value → Prop}
theorem gs_b_ok {m : gs_M α} {f : α → gs_M β} {a : α} (e : m s = .ok (a, s1)) : gs_b m f s = f a s1 := by unfold gs_b; rw [e]
theorem gs_b_er {m : gs_M α} {f : α → gs_M β} {c : Int32} (e : m s = .error c) : gs_b m f s = .error c := by unfold gs_b; rw [e]
theorem gs_b_cg {m m' : gs_M α} {f : α → gs_M β} (e : m s = m' s1) : gs_b m f s = gs_b m' f s1 := by unfold gs_b; rw [e]
theorem gx_le.refl : gx_le s s := ⟨Nat.le_refl _, Nat.le_refl _⟩
theorem gx_le.trans (p : gx_le s s1) (q : gx_le s1 s') : gx_le s s' := ⟨Nat.le_trans p.1 q.1, Nat.le_trans p.2 q.2⟩
theorem gx_ag.refl : gx_ag h h x G := ⟨Nat.le_refl _, fun _ _ => rfl⟩
theorem gx_ag.wk (p : gx_ag h h' x G) (hg : ∀ a, G a → h.1 ≤ a ∨ G1 a) : gx_ag h h' x G1 := ⟨p.1, fun a o => p.2 a ⟨o.1, o.2.1, fun z => by
  rcases hg a z with q | q
  · have := o.2.1; omega
  · exact o.2.2 q⟩⟩
theorem gx_mv.refl : gx_mv h h x G s := ⟨gx_ag.refl, fun _ => rfl, rfl, fun _ _ => rfl, fun _ _ => ⟨rfl, rfl⟩⟩
theorem gx_mv.wk (p : gx_mv h h' x G s) (hg : ∀ a, G a → h.1 ≤ a ∨ G1 a) : gx_mv h h' x G1 s := ⟨p.1.wk hg, p.2⟩
theorem gx_mv.trans (p : gx_mv h h1 x G s) (q : gx_mv h1 h' x G1 s1) (le : gx_le s s1) (hg : ∀ a, G1 a → h.1 ≤ a ∨ G a) : gx_mv h h' x G s := by
  refine ⟨⟨Nat.le_trans p.1.1 q.1.1, fun a o => ?_⟩, fun c => (q.2.1 c).trans (p.2.1 c), q.2.2.1.trans p.2.2.1, fun i hi => (q.2.2.2.1 i (Nat.lt_of_lt_of_le hi le.1)).trans (p.2.2.2.1 i hi), fun i hi => ?_⟩
  · refine (q.1.2 a ⟨o.1, Nat.lt_of_lt_of_le o.2.1 p.1.1, fun z => ?_⟩).trans (p.1.2 a o)
    rcases hg a z with w | w
    · have := o.2.1; omega
    · exact o.2.2 w
  · have q5 := q.2.2.2.2 i (Nat.lt_of_lt_of_le hi le.2)
    have p5 := p.2.2.2.2 i hi
    exact ⟨q5.1.trans p5.1, q5.2.trans p5.2⟩
theorem gx_co.refl : gx_co h h s s := ⟨Nat.le_refl _, Nat.le_refl _⟩
theorem gx_co.trans (p : gx_co h h1 s s1) (q : gx_co h1 h' s1 s') : gx_co h h' s s' := ⟨by have := p.1; have := q.1; omega, by have := p.2; have := q.2; omega⟩
theorem gx_co.tx (p : gx_co h h1 s s1) (q : gx_cx h1 h' K s1) : gx_cx h h' K s := ⟨by have := p.1; have := q.1; omega, by have := p.2; have := q.2; omega⟩
/-- the rest of the way, told from further on -/
theorem gx_P.reb {res : Except Int32 (β × gs_S)} {r : gm_R} (w : gx_P E h1 x ca K F G1 s1 val res r h') (mv : gx_mv h h1 x G s) (le : gx_le s s1) (co : gx_co h h1 s s1) (hg : ∀ a, G1 a → h.1 ≤ a ∨ G a) : gx_P E h x ca K F G s val res r h' := by
  cases r with
  | inl v =>
    obtain ⟨a, s', e, p1, p2, p3, p4, p5⟩ := w
    exact ⟨a, s', e, p1, p2, mv.trans p3 le hg, le.trans p4, co.trans p5⟩
  | inr v =>
    obtain ⟨f, e, p1, p2, p3⟩ := w
    exact ⟨f, e, p1, mv.trans p2 le hg, co.tx p3⟩
theorem gx_P.bnd {m : gs_M α} {f : α → gs_M β} {a : α} {r : gm_R} (w : gx_P E h1 x ca K F G s1 val (f a s1) r h') (e : m s = .ok (a, s1)) (mv : gx_mv h h1 x G s) (le : gx_le s s1) (co : gx_co h h1 s s1) : gx_P E h x ca K F G s val (gs_b m f s) r h' := by
  rw [gs_b_ok e]
  exact w.reb mv le co (fun _ z => Or.inr z)
theorem gx_P.ber {m : gs_M α} {f : α → gs_M β} {a : Nat} (w : gx_P E h x ca K F G s va1 (m s) (.inr a) h') : gx_P E h x ca K F G s val (gs_b m f s) (.inr a) h' := by
  obtain ⟨c, e, p1, p2, p3⟩ := w
  exact ⟨c, gs_b_er e, p1, p2, p3⟩
theorem gx_P.wk {res : Except Int32 (β × gs_S)} {r : gm_R} (w : gx_P E h x ca K F G s val res r h') (hg : ∀ a, G a → h.1 ≤ a ∨ G1 a) : gx_P E h x ca K F G1 s val res r h' := by
  cases r with
  | inl v =>
    obtain ⟨a, s', e, p1, p2, p3, p4, p5⟩ := w
    exact ⟨a, s', e, p1, p2, p3.wk hg, p4, p5⟩
  | inr v =>
    obtain ⟨f, e, p1, p2, p3⟩ := w
    exact ⟨f, e, p1, p2.wk hg, p3⟩
/-- so far -/
def gx_st (h : gm_H) (s : gs_S) (x : Nat) (G : Nat → Prop) (h1 : gm_H) (s1 : gs_S) : Prop := gx_mv h h1 x G s ∧ gx_le s s1 ∧ gx_co h h1 s s1
theorem gx_st.trans {h2 : gm_H} {s2 : gs_S} (p : gx_st h s x G h1 s1) (mv : gx_mv h1 h2 x G1 s1) (le : gx_le s1 s2) (co : gx_co h1 h2 s1 s2) (hg : ∀ a, G1 a → h.1 ≤ a ∨ G a) : gx_st h s x G h2 s2 := ⟨p.1.trans mv p.2.1 hg, p.2.1.trans le, p.2.2.trans co⟩
theorem gx_P.frm {res : Except Int32 (β × gs_S)} {r : gm_R} (w : gx_P E h1 x ca K F G s1 val res r h') (p : gx_st h s x G h1 s1) : gx_P E h x ca K F G s val res r h' := w.reb p.1 p.2.1 p.2.2 (fun _ z => Or.inr z)
/-- a field of its own -/
theorem gx_mv.fld (hk : k ≠ 11) : gx_mv h (gm_sf h x k v) x G s := ⟨gx_ag.sf (gx_ok.no (by omega)), fun c => gm_fv_sfa (by omega), gm_fv_sfj (Ne.symm hk), fun i _ => gm_fv_sfa (by omega), fun i _ => ⟨gm_fv_sfa (by omega), gm_fv_sfa (by omega)⟩⟩
/-- the handles' own two counters -/
theorem gx_mv.cnt : gx_mv h (gm_sf h (x + 4) k v) x G s := ⟨gx_ag.sf (gx_ok.no (by omega)), fun c => gm_fv_sfa (by omega), gm_fv_sfa (by omega), fun i _ => gm_fv_sfa (by omega), fun i _ => ⟨gm_fv_sfa (by omega), gm_fv_sfa (by omega)⟩⟩
theorem gx_mv.obj (hk : (gs_hs s).length ≤ k) : gx_mv h (gm_sf h (x + 5) k v) x G s := ⟨gx_ag.sf (gx_ok.no (by omega)), fun c => gm_fv_sfa (by omega), gm_fv_sfa (by omega), fun i _ => gm_fv_sfa (by omega), fun i hi => ⟨gm_fv_sfj (by omega), gm_fv_sfa (by omega)⟩⟩
theorem gx_mv.dsc (hk : (gs_hs s).length ≤ k) : gx_mv h (gm_sf h (x + 6) k v) x G s := ⟨gx_ag.sf (gx_ok.no (by omega)), fun c => gm_fv_sfa (by omega), gm_fv_sfa (by omega), fun i _ => gm_fv_sfa (by omega), fun i hi => ⟨gm_fv_sfa (by omega), gm_fv_sfj (by omega)⟩⟩
theorem gx_mv.thg (hk : (gs_hp s).length ≤ k) : gx_mv h (gm_sf h (x + 3) k v) x G s := ⟨gx_ag.sf (gx_ok.no (by omega)), fun c => gm_fv_sfa (by omega), gm_fv_sfa (by omega), fun i _ => gm_fv_sfj (by omega), fun i hi => ⟨gm_fv_sfa (by omega), gm_fv_sfa (by omega)⟩⟩
theorem gx_mv.new {c : gm_C} (hx : x + 6 < h.1) : gx_mv h (gm_nw h c n) x G s := ⟨gx_ag.nw, fun c => gm_fv_nw (by omega), gm_fv_nw (by omega), fun i _ => gm_fv_nw (by omega), fun i hi => ⟨gm_fv_nw (by omega), gm_fv_nw (by omega)⟩⟩
/-- a cell that may change -/
theorem gx_mv.oth (ha : a < x ∨ x + 6 < a) (hG : h.1 ≤ a ∨ G a) : gx_mv h (gm_sf h a k v) x G s := ⟨gx_ag.sf (fun o => by
  rcases hG with z | z
  · have := o.2.1; omega
  · exact o.2.2 z), fun c => gm_fv_sfa (by omega), gm_fv_sfa (by omega), fun i _ => gm_fv_sfa (by omega), fun i _ => ⟨gm_fv_sfa (by omega), gm_fv_sfa (by omega)⟩⟩
/-- one step, then others, over the same first state -/
theorem gx_mv.tr (p : gx_mv h h1 x G s) (q : gx_mv h1 h' x G s) : gx_mv h h' x G s := p.trans q gx_le.refl (fun _ z => Or.inr z)
theorem gx_st.sf (p : gx_st h s x G h1 s1) (hb : h.1 ≤ b ∨ G b) (hx : b < x ∨ x + 6 < b) : gx_st h s x G (gm_sf h1 b k v) s1 := by
  refine p.trans (G1 := fun c => c = b) (gx_mv.oth hx (Or.inr rfl)) gx_le.refl ⟨by simp only [gm_sf_1]; exact Nat.le_refl _, by simp only [gm_sf_2]; exact Nat.le_refl _⟩ (fun c z => ?_)
  subst z
  exact hb
/-- a fault goes on -/
theorem gx_P.er {F1 : Nat → Prop} {a : Nat} {res : Except Int32 (α × gs_S)} {res' : Except Int32 (β × gs_S)} (w : gx_P E h1 x ca K F1 G1 s1 va1 res (.inr a) h') (hr : ∀ f, res = .error f → res' = .error f) (p : gx_st h s x G h1 s1) (hg : ∀ a, G1 a → h.1 ≤ a ∨ G a) : gx_P E h x ca K F G s val res' (.inr a) h' := by
  obtain ⟨f, e, p1, p2, p3⟩ := w
  exact ⟨f, hr f e, p1, p.1.trans p2 p.2.1 hg, p.2.2.tx p3⟩
theorem gx_R.top (q : gx_R E h x ca K F s) : x + 6 < h.1 := q.1.2.2.2.2.2.2.2.2.2.2.2.2.2.2.2.2.2.2
theorem gx_R.err {f : Int32} {c : gm_C} (q : gx_R E h x ca K F s) : gx_E (gm_nw (gm_sf h x 12 (.int f)) c n) x K f := by
  have r := (q.raise (f := f)).new (c := c) (n := n)
  refine ⟨r.1, r.2.1, ?_⟩
  have := q.top
  rw [gm_fv_nw (by rw [gm_sf_1]; omega)]
  exact gm_fv_sf (by rw [q.len.1]; decide)
end POST
