/-! THE REFERENCE, 31: what a read leaves; null, a reference, a text. -/
/-- only added to -/
def gs_ap (s s' : gs_S) : Prop := gs_hp s <+: gs_hp s' ∧ gs_hs s <+: gs_hs s' ∧ gs_f1 s' = gs_f1 s ∧ gs_pl s ≤ gs_pl s'
/-- what handles told, below e -/
def gr_eh (e : Nat) (t t' : gr_t) : Prop := ∀ i, i < e → t'.1 17 i = t.1 17 i
def gr_F (hb ub nb : Nat) (t : gr_t) (e : Int32) (t' : gr_t) : Prop := t'.1 0 8 = e ∧ e ≠ 0 ∧ gr_kp hb ub nb t t'
def gr_O {α : Type} (K : gs_K) (X : Nat → Prop) (c us nd f g : Nat) (t : gr_t) (s : gs_S) (val : α → gs_S → Nat → gr_t → Prop) (res : Except Int32 (α × gs_S)) (t' : gr_t) : Prop := match res with
  | .ok q => ∃ us' nd', (us ≤ us' ∧ nd ≤ nd') ∧ gr_Y X c us' nd' t' K q.2 ∧ (t'.1 0 8 = 0 ∧ t'.1 0 47 = nI g) ∧ gr_fr f t t' ∧ gr_eh (gs_size s) t t' ∧ gr_kp (gs_hp s).length us nd t t' ∧ gs_ap s q.2 ∧ val q.1 q.2 nd' t'
  | .error e => gr_F (gs_hp s).length us nd t e t'
def gr_V (dp : Nat) (s : gs_S) (v : Int32) (s' : gs_S) (_ : Nat) (t' : gr_t) : Prop := t'.1 0 9 = v ∧ (v = -2 ∨ ∃ x, x < (gs_hp s').length ∧ v = nI x) ∧ 14 * gs_size s' ≤ 14 * (70 - dp) + gs_pl s' ∧ gs_pl s < gs_pl s'
/-- a read at a depth, from its fresh frame on -/
def gr_RC (E : Nat → Value) (d : Nat) (h : gm_H) (m : Nat) (K : gs_K) (dp : Nat) (rc : gs_M Int32) : Prop := ∀ (X : Nat → Prop) (c us nd f : Nat) (t : gr_t) (s : gs_S), gr_Y X c us nd t K s → t.1 0 8 = 0 → t.1 0 47 = nI (f + 1) → (t.1 28 f = 1 ∧ t.1 29 f = 0 ∧ t.1 30 f = nI dp) → 14 * f + 42 ≤ 42 * dp + gs_pl s → (dp = 1 → gs_pl s < gs_n K → gs_sb K (gs_pl s) &&& 255 ≠ 121) → gr_Rn E d h m (gr_O K X c us nd f f t s (gr_V dp s) (rc s)) t
section N4
variable {X X' : Nat → Prop} {E : Nat → Value} {d m f g dp c us nd : Nat} {h : gm_H} {t t' : gr_t} {K : gs_K} {s s' s'' : gs_S} {rc : gs_M Int32}
theorem gr_eh.refl {e : Nat} : gr_eh e t t := fun _ _ => rfl
theorem gr_eh.trans {e : Nat} {t'' : gr_t} (a : gr_eh e t t') (b : gr_eh e t' t'') : gr_eh e t t'' := fun i hi => (b i hi).trans (a i hi)
theorem gr_eh.wk {e e' : Nat} (a : gr_eh e t t') (h : e' ≤ e) : gr_eh e' t t' := fun i hi => a i (by omega)
theorem gr_eh.ui {e o i : Nat} {x : Int32} (a : gr_eh e t t') (h : o ≠ 17 ∨ e ≤ i) : gr_eh e t (gr_ui t' o i x) := by
  intro j hj
  show (if 17 = o ∧ j = i then x else t'.1 17 j) = _
  rw [if_neg (by omega)]
  exact a j hj
theorem gr_eh.ul {e o i : Nat} {x : Int64} (a : gr_eh e t t') : gr_eh e t (gr_ul t' o i x) := a
theorem gr_hm.eh {e : Nat} (a : gr_hm t t') : gr_eh e t t' := fun i _ => a.1 17 i (by decide) (fun z => absurd z (by decide))
theorem gs_ap.refl : gs_ap s s := ⟨List.prefix_refl _, List.prefix_refl _, rfl, Nat.le_refl _⟩
theorem gs_ap.trans (a : gs_ap s s') (b : gs_ap s' s'') : gs_ap s s'' := ⟨a.1.trans b.1, a.2.1.trans b.2.1, b.2.2.1.trans a.2.2.1, Nat.le_trans a.2.2.2 b.2.2.2⟩
theorem gs_ap.p {k : Nat} (h : gs_pl s ≤ k) : gs_ap s (gs_p k s) := ⟨List.prefix_refl _, List.prefix_refl _, rfl, h⟩
theorem gs_ap.size (a : gs_ap s s') : gs_size s ≤ gs_size s' := by
  have := a.2.1.length_le
  have := a.2.2.1
  unfold gs_size
  omega
theorem gs_ap.len (a : gs_ap s s') : (gs_hp s).length ≤ (gs_hp s').length := a.1.length_le
theorem gr_O.er {α : Type} {val : α → gs_S → Nat → gr_t → Prop} {res : Except Int32 (α × gs_S)} {e : Int32} (hr : res = .error e) (q : gr_F (gs_hp s).length us nd t e t') : gr_O K X c us nd f g t s val res t' := by
  subst hr; exact q
theorem gr_O.ok {α : Type} {val : α → gs_S → Nat → gr_t → Prop} {res : Except Int32 (α × gs_S)} {a : α} {s1 : gs_S} {us' nd' : Nat} (hr : res = .ok (a, s1)) (h1 : us ≤ us' ∧ nd ≤ nd') (Y : gr_Y X c us' nd' t' K s1) (h2 : t'.1 0 8 = 0 ∧ t'.1 0 47 = nI g) (h3 : gr_fr f t t') (h6 : gr_eh (gs_size s) t t') (h4 : gr_kp (gs_hp s).length us nd t t') (h5 : gs_ap s s1) (v : val a s1 nd' t') : gr_O K X c us nd f g t s val res t' := by
  subst hr; exact ⟨us', nd', h1, Y, h2, h3, h6, h4, h5, v⟩
/-- a fault in a fresh cell or none, the place anywhere -/
theorem gr_er.F {hb ub nb : Nat} {e : Int32} (x : gr_er t t' e) : gr_F hb ub nb t e t' := by
  obtain ⟨x0, p, -, rfl⟩ := x
  exact ⟨gr_ui_eq, x0, (gr_kp.refl.ui (by unfold gr_pr; omega)).ui (by unfold gr_pr; omega)⟩
theorem gr_F.ui {hb ub nb : Nat} {e : Int32} (he : e ≠ 0) (k : gr_kp hb ub nb t t') : gr_F hb ub nb t e (gr_ui t' 0 8 e) := ⟨gr_ui_eq, he, k.ui (by unfold gr_pr; omega)⟩
theorem gr_F.from {hb ub nb hb' ub' nb' : Nat} {e : Int32} {t'' : gr_t} (x : gr_F hb' ub' nb' t' e t'') (k : gr_kp hb ub nb t t') (h1 : hb ≤ hb') (h2 : ub ≤ ub') (h3 : nb ≤ nb') : gr_F hb ub nb t e t'' := ⟨x.1, x.2.1, k.trans (x.2.2.wk h1 h2 h3)⟩
/-- what stands behind a part of the way, told from its beginning -/
theorem gr_O.from {α : Type} {val : α → gs_S → Nat → gr_t → Prop} {res : Except Int32 (α × gs_S)} {t1 : gr_t} {s1 : gs_S} {us1 nd1 f1 : Nat} (x : gr_O K X c us1 nd1 f1 g t1 s1 val res t') (h1 : us ≤ us1 ∧ nd ≤ nd1) (h3 : gr_fr f t t1) (hf : f ≤ f1) (h6 : gr_eh (gs_size s) t t1) (h4 : gr_kp (gs_hp s).length us nd t t1) (h5 : gs_ap s s1) : gr_O K X c us nd f g t s val res t' := by
  cases res with
  | ok q =>
    obtain ⟨us', nd', g1, Y, g2, g3, g6, g4, g5, v⟩ := x
    exact ⟨us', nd', ⟨by omega, by omega⟩, Y, g2, h3.trans (g3.wk hf), h6.trans (g6.wk h5.size), h4.trans (g4.wk h5.len h1.1 h1.2), h5.trans g5, v⟩
  | error e => exact gr_F.from x h4 h5.len h1.1 h1.2
/-- one part of the way, then another -/
theorem gr_O.seq {α β : Type} {m1 : gs_M α} {k : α → gs_M β} {val : α → gs_S → Nat → gr_t → Prop} {val' : β → gs_S → Nat → gr_t → Prop} {c' : Nat} {h : gm_H} {g' f1 : Nat} (x : gr_O K X c us nd f1 g t s val (m1 s) t')
    (go : ∀ (a : α) (s1 : gs_S) (us1 nd1 : Nat), m1 s = .ok (a, s1) → us ≤ us1 ∧ nd ≤ nd1 → gr_Y X c us1 nd1 t' K s1 → t'.1 0 8 = 0 → t'.1 0 47 = nI g → gr_fr f1 t t' → gr_eh (gs_size s) t t' → gr_kp (gs_hp s).length us nd t t' → gs_ap s s1 → val a s1 nd1 t' → gr_Rn E d h m (gr_O K X' c' us nd f g' t s val' (k a s1)) t') : gr_Rn E d h m (gr_O K X' c' us nd f g' t s val' (gs_b m1 k s)) t' := by
  cases er : m1 s with
  | error e =>
    rw [er] at x
    exact .done (gr_O.er (gs_b_er er) x)
  | ok q =>
    rw [er] at x
    obtain ⟨us', nd', g1, Y, g2, g3, g6, g4, g5, v⟩ := x
    rw [gs_b_ok (a := q.1) (s1 := q.2) er]
    exact go q.1 q.2 us' nd' er g1 Y g2.1 g2.2 g3 g6 g4 g5 v
/-- .. told from further back -/
theorem gr_O.seqF {α β : Type} {m1 : gs_M α} {k : α → gs_M β} {val : α → gs_S → Nat → gr_t → Prop} {val' : β → gs_S → Nat → gr_t → Prop} {c' : Nat} {h : gm_H} {g' f1 us0 nd0 : Nat} {t0 : gr_t} {s0 : gs_S} (x : gr_O K X c us nd f1 g t s val (m1 s) t') (h4 : gr_kp (gs_hp s0).length us0 nd0 t0 t) (h5 : (gs_hp s0).length ≤ (gs_hp s).length) (hu : us0 ≤ us) (hn : nd0 ≤ nd)
    (go : ∀ (a : α) (s1 : gs_S) (us1 nd1 : Nat), m1 s = .ok (a, s1) → us ≤ us1 ∧ nd ≤ nd1 → gr_Y X c us1 nd1 t' K s1 → t'.1 0 8 = 0 → t'.1 0 47 = nI g → gr_fr f1 t t' → gr_eh (gs_size s) t t' → gr_kp (gs_hp s).length us nd t t' → gs_ap s s1 → val a s1 nd1 t' → gr_Rn E d h m (gr_O K X' c' us0 nd0 f g' t0 s0 val' (k a s1)) t') : gr_Rn E d h m (gr_O K X' c' us0 nd0 f g' t0 s0 val' (gs_b m1 k s)) t' := by
  cases er : m1 s with
  | error e =>
    rw [er] at x
    exact .done (gr_O.er (gs_b_er er) (gr_F.from x h4 h5 hu hn))
  | ok q =>
    rw [er] at x
    obtain ⟨us', nd', g1, Y, g2, g3, g6, g4, g5, v⟩ := x
    rw [gs_b_ok (a := q.1) (s1 := q.2) er]
    exact go q.1 q.2 us' nd' er g1 Y g2.1 g2.2 g3 g6 g4 g5 v
theorem gr_Y.n7 (Y : gr_Y X c us nd t K s) : gs_n K ≤ 700 := Y.B.2.1
theorem gr_O.mono {α : Type} {val val' : α → gs_S → Nat → gr_t → Prop} {res : Except Int32 (α × gs_S)} (x : gr_O K X c us nd f g t s val res t') (k : ∀ a s1 nd1, val a s1 nd1 t' → val' a s1 nd1 t') : gr_O K X c us nd f g t s val' res t' := by
  cases res with
  | ok q =>
    obtain ⟨us', nd', g1, Y, g2, g3, g6, g4, g5, v⟩ := x
    exact ⟨us', nd', g1, Y, g2, g3, g6, g4, g5, k _ _ _ v⟩
  | error e => exact x
theorem gr_O.credit {α : Type} {val val' : α → gs_S → Nat → gr_t → Prop} {res : Except Int32 (α × gs_S)} {c' : Nat} (x : gr_O K X c us nd f g t s val res t') (hc : c' ≤ c) (k : ∀ a s1 us1 nd1, gr_Y X c us1 nd1 t' K s1 → val a s1 nd1 t' → val' a s1 nd1 t') : gr_O K X c' us nd f g t s val' res t' := by
  cases res with
  | ok q =>
    obtain ⟨us', nd', g1, Y, g2, g3, g6, g4, g5, v⟩ := x
    exact ⟨us', nd', g1, Y.wk hc, g2, g3, g6, g4, g5, k _ _ _ _ Y v⟩
  | error e => exact x
theorem gr_give8 {v : Int32} (h8 : t.1 0 8 = 0) (h47 : t.1 0 47 = nI (f + 1)) : ((gr_give t v).1 0 8 = 0 ∧ (gr_give t v).1 0 47 = nI f) ∧ (gr_give t v).1 0 9 = v := by
  unfold gr_give
  refine ⟨⟨?_, ?_⟩, ?_⟩
  · rw [gr_ui_ni (by decide), gr_ui_ni (by decide)]; exact h8
  · rw [gr_ui_eq, h47]; exact nI_sub (b := 1) (by omega)
  · rw [gr_ui_ni (by decide), gr_ui_eq]
/-- the frame gives: all else as before -/
theorem gr_O.give {α : Type} {val : α → gs_S → Nat → gr_t → Prop} {res : Except Int32 (α × gs_S)} {a : α} {s1 : gs_S} {t1 : gr_t} {us' nd' : Nat} {v : Int32} (hr : res = .ok (a, s1)) (h1 : us ≤ us' ∧ nd ≤ nd') (Y : gr_Y X c us' nd' t1 K s1) (h8 : t1.1 0 8 = 0) (h47 : t1.1 0 47 = nI (f + 1)) (h3 : gr_fr f t t1) (h6 : gr_eh (gs_size s) t t1) (h4 : gr_kp (gs_hp s).length us nd t t1) (h5 : gs_ap s s1) (w : val a s1 nd' (gr_give t1 v)) : gr_O K X c us nd f f t s val res (gr_give t1 v) :=
  gr_O.ok hr h1 (Y.hm gr_hm.refl.give) (gr_give8 h8 h47).1 h3.give (h6.trans gr_hm.refl.give.eh) (h4.trans gr_hm.refl.give.kp) h5 w
theorem gs_bp {b : UInt8} (h : ¬ b.toInt8.toInt32 ≤ 0) : b.toInt8.toInt32 &&& 255 = b.toInt8.toInt32 := by
  have : ∀ b : Fin 256, ¬ (UInt8.ofNat b.val).toInt8.toInt32 ≤ 0 → (UInt8.ofNat b.val).toInt8.toInt32 &&& 255 = (UInt8.ofNat b.val).toInt8.toInt32 := by decide +kernel
  have q := this ⟨b.toNat, b.toNat_lt⟩
  simp only [UInt8.ofNat_toNat] at q
  exact q h
theorem gs_sgn_pos : ∀ (k : Nat) {s s1 : gs_S} {u : Unit}, gs_sgn K k s = .ok (u, s1) → ∀ j, j < k → ¬ gs_sb K (gs_pl s + j) ≤ 0
  | 0, _, _, _, _, j, hj => absurd hj (Nat.not_lt_zero j)
  | k + 1, s, s1, u, e, j, hj => by
    unfold gs_sgn at e
    by_cases c1 : gs_n K ≤ gs_pl s
    · rw [if_pos c1] at e; cases e
    · rw [if_neg c1] at e
      by_cases c2 : gs_sb K (gs_pl s) ≤ 0
      · rw [if_pos c2] at e; cases e
      · rw [if_neg c2] at e
        cases j with
        | zero => exact c2
        | succ j =>
          have q := gs_sgn_pos k e j (by omega)
          have z : gs_pl (gs_p (gs_pl s + 1) s) + j = gs_pl s + (j + 1) := by show gs_pl s + 1 + j = _; omega
          rw [z] at q
          exact q
theorem gs_utf_pos {a : Nat} {s1 : gs_S} (w : gs_utf K s = .ok (a, s1)) (hp : gs_pl s ≤ gs_n K) : ∀ j, a ≤ j → j < gs_pl s1 → gs_sb K j &&& 255 = gs_sb K j := by
  intro j h1 h2
  obtain ⟨e1, e2, e3, e4⟩ := gs_utf_ok w hp
  unfold gs_utf at w
  cases q1 : gs_nxt K 2 s with
  | error f => rw [gs_b_er q1] at w; cases w
  | ok v =>
    rw [gs_b_ok (a := v.1) (s1 := v.2) q1] at w
    rw [gs_b_ok (m := gs_g) (a := v.2) (s1 := v.2) rfl] at w
    cases q2 : gs_sgn K v.1.toInt32.toNatClampNeg v.2 with
    | error f => rw [gs_b_er q2] at w; cases w
    | ok u =>
      rw [gs_b_ok (a := u.1) (s1 := u.2) q2] at w
      cases w
      have g := (gs_sgn_ok _ (u := u.1) (s1 := u.2) q2).1
      have p := gs_sgn_pos _ (u := u.1) (s1 := u.2) q2 (j - gs_pl v.2)
      have l2 : gs_pl u.2 = gs_pl v.2 + v.1.toInt32.toNatClampNeg := by rw [g]; rfl
      have z : gs_pl v.2 + (j - gs_pl v.2) = j := by omega
      rw [z] at p
      exact gs_bp (p (by omega))
end N4
