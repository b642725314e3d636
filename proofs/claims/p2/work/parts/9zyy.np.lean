/-! THE REFERENCE, 52: an object's data. -/
/-- the object under way -/
def gr_OO (K : gs_K) (t : gr_t) (s : gs_S) (o at_ ca : Nat) : Prop := (∃ w, (gs_hp s)[o]? = some w ∧ w.1 = 0 ∧ w.2.1 = some ca ∧ w.2.2.1.length = gs_slots K (some ca)) ∧ t.1 13 o = nI at_
/-- what is left of the beginning -/
def gr_BB (t0 : gr_t) (s0 : gs_S) (us0 nd0 f us nd : Nat) (t : gr_t) (s : gs_S) : Prop := (us0 ≤ us ∧ nd0 ≤ nd) ∧ gr_fr f t0 t ∧ (gr_eh (gs_size s0 + 1) t0 t ∧ gs_size s0 < gs_size s ∧ ∃ hv : Int32, gs_hs s0 ++ [(hv, [])] <+: gs_hs s) ∧ gr_kp (gs_hp s0).length us0 nd0 t0 t ∧ gs_ap s0 s
/-- the frame of the data -/
def gr_DF (t : gr_t) (f dp o r j : Nat) (leaf st : Int32) : Prop := t.1 28 f = 3 ∧ t.1 29 f = st ∧ t.1 30 f = nI dp ∧ t.1 31 f = nI o ∧ t.1 32 f = leaf ∧ t.1 33 f = nI r ∧ t.1 34 f = nI j
def gr_DI (K : gs_K) (X : Nat → Prop) (c f o at_ ca dp : Nat) (leaf : Int32) (L : List gs_L) (t0 : gr_t) (s0 : gs_S) (us0 nd0 r j : Nat) (st : Int32) (s : gs_S) (t : gr_t) : Prop := ∃ us nd, (gr_Y X c us nd t K s ∧ t.1 0 8 = 0 ∧ t.1 0 47 = nI (f + 1)) ∧ gr_DF t f dp o r j leaf st ∧ gr_chn (gr_NX X nd) t K L leaf ∧ gr_OO K t s o at_ ca ∧ gr_BB t0 s0 us0 nd0 f us nd t s ∧ 14 * gs_size s ≤ 14 * (70 - dp) + gs_pl s ∧ 14 * f + 28 ≤ 42 * dp + gs_pl s
def gr_E {α : Type} (t0 : gr_t) (s0 : gs_S) (us0 nd0 : Nat) (res : Except Int32 (α × gs_S)) (Pk : α → gs_S → gr_t → Prop) (t' : gr_t) : Prop := match res with
  | .ok q => Pk q.1 q.2 t'
  | .error e => gr_F (gs_hp s0).length us0 nd0 t0 e t'
section NP
variable {X N : Nat → Prop} {E : Nat → Value} {d m f n p dp c us nd k e o r j cnt hb ub nb B pp at_ ca us0 nd0 : Nat} {h : gm_H} {t t' t0 t1 : gr_t} {K : gs_K} {s s' s'' s0 : gs_S} {rc : gs_M Int32} {P : gr_t → Prop} {l : gs_L} {L : List gs_L} {Q : gm_R → gm_H → Prop} {leaf st : Int32} {cc : Option Nat}
theorem gr_E.seq {α β : Type} {m1 : gs_M α} {k : α → gs_M β} {Pk : α → gs_S → gr_t → Prop} {Pk' : β → gs_S → gr_t → Prop} (x : gr_E t0 s0 us0 nd0 (m1 s) Pk t') (go : ∀ a s1, m1 s = .ok (a, s1) → Pk a s1 t' → gr_Rn E d h m (gr_E t0 s0 us0 nd0 (k a s1) Pk') t') : gr_Rn E d h m (gr_E t0 s0 us0 nd0 (gs_b m1 k s) Pk') t' := by
  cases er : m1 s with
  | error e =>
    rw [er] at x
    rw [gs_b_er er]
    exact .done x
  | ok q =>
    rw [er] at x
    rw [gs_b_ok (a := q.1) (s1 := q.2) er]
    exact go q.1 q.2 er x
theorem gr_E.er {α : Type} {res : Except Int32 (α × gs_S)} {Pk : α → gs_S → gr_t → Prop} {e : Int32} (hr : res = .error e) (x : gr_F (gs_hp s0).length us0 nd0 t0 e t') : gr_E t0 s0 us0 nd0 res Pk t' := by
  subst hr; exact x
theorem gr_E.ok {α : Type} {res : Except Int32 (α × gs_S)} {Pk : α → gs_S → gr_t → Prop} {a : α} {s1 : gs_S} (hr : res = .ok (a, s1)) (x : Pk a s1 t') : gr_E t0 s0 us0 nd0 res Pk t' := by
  subst hr; exact x
theorem gr_Y.us4 (Y : gr_Y X c us nd t K s) : us ≤ 2800 := by have := Y.ub; have := Y.pn; have := Y.n7; omega
/-- what the object's cells say -/
theorem gr_OO.to (Y : gr_Y X c us nd t K s) (O : gr_OO K t s o at_ ca) (ha : at_ < 2 ^ 31) : o < 720 ∧ o < (gs_hp s).length ∧ t.1 11 o = gr_o (some ca) ∧ at_ + gs_slots K (some ca) ≤ us ∧ at_ + gs_slots K (some ca) ≤ 4000 := by
  obtain ⟨⟨w, w1, w2, w3, w4⟩, h13⟩ := O
  have ol := (List.getElem?_eq_some_iff.mp w1).1
  have hb := Y.hb
  have pn := Y.pn
  have n7 := Y.n7
  have u4 := Y.us4
  obtain ⟨-, -, o3, -, -, -, -, -, o9⟩ := Y.pp.2 o w w1
  unfold gr_ov at o9
  rw [if_neg (by rw [w2]; decide), if_neg (by rw [w2]; decide)] at o9
  obtain ⟨y, y1, y2, -⟩ := o9
  have : y = at_ := (nI_eq (by omega) ha).mp (y1.symm.trans h13)
  rw [w4] at y2
  exact ⟨by omega, ol, by rw [o3, w3], by omega, by omega⟩
/-- an assignment -/
theorem gr_asg.to {q : Int32 × Int32} {v : Int64} (Y : gr_Y X c us nd t K s) (O : gr_OO K t s o at_ ca) (ha : at_ < 2 ^ 31) (g : gr_asg t K s at_ l (some ca) q v t1) : (∃ s1, gs_wrt K (gs_tg K l (some ca)) o q v s = .ok ((), s1) ∧ gr_Y X c us nd t1 K s1 ∧ gr_OO K t1 s1 o at_ ca ∧ t1.1 = t.1 ∧ (∀ x i, (x ≠ 15 ∨ i < at_) → t1.2 x i = t.2 x i) ∧ s1.1 = s.1 ∧ s1.2.2 = s.2.2 ∧ ∀ pre : List gs_O, pre <+: gs_hp s → pre.length ≤ o → pre <+: gs_hp s1) ∨ (gs_wrt K (gs_tg K l (some ca)) o q v s = .error (-6) ∧ t1.1 0 8 = -6 ∧ (∀ x i, ¬ (x = 0 ∧ i = 8) → t1.1 x i = t.1 x i) ∧ ∀ x i, (x ≠ 15 ∨ i < at_) → t1.2 x i = t.2 x i) := by
  obtain ⟨⟨w, w1, w2, w3, w4⟩, h13⟩ := id O
  have ul2 : ∀ (t2 : gr_t) (i : Nat) x i2, (x ≠ 15 ∨ i2 < at_) → (gr_ul t2 15 (at_ + i) v).2 x i2 = t2.2 x i2 := fun t2 i x i2 z => by
    show (if x = 15 ∧ i2 = at_ + i then v else t2.2 x i2) = _
    rw [if_neg (by omega)]
  rcases g with ⟨y1, rfl⟩ | ⟨i, y1, y2, ⟨y3, rfl⟩ | ⟨y3, rfl⟩⟩
  · refine Or.inl ⟨s, by unfold gs_wrt; rw [y1], Y, O, rfl, fun _ _ _ => rfl, rfl, rfl, fun pre h1 _ => h1⟩
  · refine Or.inl ⟨_, by unfold gs_wrt; rw [y1]; exact if_neg y3, Y.val w1 (Or.inl w2) h13 ha (by rw [w4]; exact y2), ⟨⟨(w.1, w.2.1, w.2.2.1.set i v, w.2.2.2), by rw [show gs_hp (s.1, (gs_hp s).modify o (fun ob => (ob.1, ob.2.1, ob.2.2.1.set i v, ob.2.2.2)), s.2.2) = (gs_hp s).modify o (fun ob => (ob.1, ob.2.1, ob.2.2.1.set i v, ob.2.2.2)) from rfl, List.getElem?_modify, w1]; simp, w2, w3, by show (w.2.2.1.set i v).length = _; rw [List.length_set]; exact w4⟩, h13⟩, rfl, ul2 t i, rfl, rfl, fun pre h1 h2 => gs_pre_mod h1 h2⟩
  · refine Or.inr ⟨by unfold gs_wrt; rw [y1]; exact if_pos y3, (show (gr_ui t 0 8 (-6)).1 0 8 = -6 from gr_ui_eq), fun x i2 z => ?_, fun x i2 z => ?_⟩
    · show (gr_ui t 0 8 (-6)).1 x i2 = _
      by_cases e : x = 0
      · rw [gr_ui_ni (fun y => z ⟨e, y⟩)]
      · rw [gr_ui_no e]
    · rw [ul2 (gr_ui t 0 8 (-6)) i x i2 z]
      rfl
end NP
