/-! THE REFERENCE, 28: a read under way. -/
/-- how the reference reads -/
def gs_kor (K : gs_K) : Prop := gs_rst K = true ∧ gs_fill K = -2 ∧ K.1.2.2.1 ≤ 20
/-- what a read must not touch: cells below these counts, and all that it never writes -/
def gr_pr (hb nb o i : Nat) : Prop := (o = 0 ∧ (i ≤ 5 ∨ i = 7)) ∨ (1 ≤ o ∧ o ≤ 9) ∨ o = 18 ∨ o = 19 ∨ (10 ≤ o ∧ o ≤ 14 ∧ i < hb) ∨ (20 ≤ o ∧ o ≤ 24 ∧ i < nb) ∨ (o = 27 ∧ i < nb) ∨ ((o = 25 ∨ o = 26) ∧ i < 8 * nb)
def gr_prl (ub nb o i : Nat) : Prop := o ≤ 14 ∨ (o = 15 ∧ i < ub) ∨ (o = 23 ∧ i < nb)
def gr_kp (hb ub nb : Nat) (t t' : gr_t) : Prop := (∀ o i, gr_pr hb nb o i → t'.1 o i = t.1 o i) ∧ ∀ o i, gr_prl ub nb o i → t'.2 o i = t.2 o i
/-- frames below n -/
def gr_fr (n : Nat) (t t' : gr_t) : Prop := ∀ o i, 28 ≤ o → o ≤ 34 → i < n → t'.1 o i = t.1 o i
/-- only frames, fault, ret, top differ -/
def gr_hm (t t' : gr_t) : Prop := (∀ o i, o < 28 → (o = 0 → i ≠ 8 ∧ i ≠ 9 ∧ i ≠ 47) → t'.1 o i = t.1 o i) ∧ t'.2 = t.2
section N1
variable {N N' X : Nat → Prop} {t t' t'' : gr_t} {hb ub nb hb' ub' nb' n n' c c' us nd p k i j e : Nat} {K : gs_K} {s s' : gs_S} {o : Nat}
theorem gr_kp.refl : gr_kp hb ub nb t t := ⟨fun _ _ _ => rfl, fun _ _ _ => rfl⟩
theorem gr_kp.trans (a : gr_kp hb ub nb t t') (b : gr_kp hb ub nb t' t'') : gr_kp hb ub nb t t'' := ⟨fun o i h => (b.1 o i h).trans (a.1 o i h), fun o i h => (b.2 o i h).trans (a.2 o i h)⟩
theorem gr_kp.wk (a : gr_kp hb ub nb t t') (h1 : hb' ≤ hb) (h2 : ub' ≤ ub) (h3 : nb' ≤ nb) : gr_kp hb' ub' nb' t t' := ⟨fun o i h => a.1 o i (by unfold gr_pr at h ⊢; omega), fun o i h => a.2 o i (by unfold gr_prl at h ⊢; omega)⟩
theorem gr_kp.ui {x : Int32} (a : gr_kp hb ub nb t t') (h : ¬ gr_pr hb nb o i) : gr_kp hb ub nb t (gr_ui t' o i x) := by
  refine ⟨fun o2 i2 h2 => ?_, a.2⟩
  show (if o2 = o ∧ i2 = i then x else t'.1 o2 i2) = _
  rw [if_neg (fun z => h (by rw [← z.1, ← z.2]; exact h2))]
  exact a.1 o2 i2 h2
theorem gr_kp.ul {x : Int64} (a : gr_kp hb ub nb t t') (h : ¬ gr_prl ub nb o i) : gr_kp hb ub nb t (gr_ul t' o i x) := by
  refine ⟨a.1, fun o2 i2 h2 => ?_⟩
  show (if o2 = o ∧ i2 = i then x else t'.2 o2 i2) = _
  rw [if_neg (fun z => h (by rw [← z.1, ← z.2]; exact h2))]
  exact a.2 o2 i2 h2
theorem gr_fr.refl : gr_fr n t t := fun _ _ _ _ _ => rfl
theorem gr_fr.trans (a : gr_fr n t t') (b : gr_fr n t' t'') : gr_fr n t t'' := fun o i h1 h2 h3 => (b o i h1 h2 h3).trans (a o i h1 h2 h3)
theorem gr_fr.wk (a : gr_fr n t t') (h : n' ≤ n) : gr_fr n' t t' := fun o i h1 h2 h3 => a o i h1 h2 (by omega)
theorem gr_fr.ui {x : Int32} (a : gr_fr n t t') (h : o < 28 ∨ 34 < o ∨ n ≤ i) : gr_fr n t (gr_ui t' o i x) := by
  intro o2 i2 h1 h2 h3
  show (if o2 = o ∧ i2 = i then x else t'.1 o2 i2) = _
  rw [if_neg (by omega)]
  exact a o2 i2 h1 h2 h3
theorem gr_fr.ul {x : Int64} (a : gr_fr n t t') : gr_fr n t (gr_ul t' o i x) := a
theorem gr_hm.refl : gr_hm t t := ⟨fun _ _ _ _ => rfl, rfl⟩
theorem gr_hm.trans (a : gr_hm t t') (b : gr_hm t' t'') : gr_hm t t'' := ⟨fun o i h1 h2 => (b.1 o i h1 h2).trans (a.1 o i h1 h2), b.2.trans a.2⟩
theorem gr_hm.ui {x : Int32} (a : gr_hm t t') (h : 28 ≤ o ∨ (o = 0 ∧ (i = 8 ∨ i = 9 ∨ i = 47))) : gr_hm t (gr_ui t' o i x) := by
  refine ⟨fun o2 i2 h1 h2 => ?_, a.2⟩
  show (if o2 = o ∧ i2 = i then x else t'.1 o2 i2) = _
  rw [if_neg (by omega)]
  exact a.1 o2 i2 h1 h2
theorem gr_hm.kp (a : gr_hm t t') : gr_kp hb ub nb t t' := ⟨fun o i h => a.1 o i (by unfold gr_pr at h; omega) (fun z => by unfold gr_pr at h; omega), fun o i h => by rw [a.2]⟩
/-- pushing, giving -/
theorem gr_hm.push {k d a b : Int32} (q : gr_hm t t') : gr_hm t (gr_push t' p k d a b) := by
  unfold gr_push
  exact (((((((q.ui (by omega)).ui (by omega)).ui (by omega)).ui (by omega)).ui (by omega)).ui (by omega)).ui (by omega)).ui (by omega)
theorem gr_hm.give {v : Int32} (q : gr_hm t t') : gr_hm t (gr_give t' v) := by
  unfold gr_give
  exact (q.ui (by omega)).ui (by omega)
theorem gr_fr.push {k d a b : Int32} (q : gr_fr n t t') (h : n ≤ p) : gr_fr n t (gr_push t' p k d a b) := by
  unfold gr_push
  exact (((((((q.ui (by omega)).ui (by omega)).ui (by omega)).ui (by omega)).ui (by omega)).ui (by omega)).ui (by omega)).ui (by omega)
theorem gr_fr.give {v : Int32} (q : gr_fr n t t') : gr_fr n t (gr_give t' v) := by
  unfold gr_give
  exact (q.ui (by omega)).ui (by omega)
end N1
/-- a handle; its descriptors lie below nd -/
def gr_enn (N : Nat → Prop) (t : gr_t) (K : gs_K) (i : Nat) (q : Int32 × List gs_L) : Prop :=
  (t.1 16 i = 0 ∧ q = (-1, [])) ∨ (t.1 16 i = 1 ∧ q.1 = -1 ∧ q.2 ≠ [] ∧ gr_chn N t K q.2 (t.1 17 i)) ∨ (t.1 16 i = 2 ∧ q.2 = [] ∧ ¬ q.1 < 0 ∧ t.1 17 i = q.1) ∨ (t.1 16 i = 3 ∧ q = (-2, []))
def gr_hh (N : Nat → Prop) (t : gr_t) (K : gs_K) (s : gs_S) : Prop := t.1 0 28 = nI (gs_size s) ∧ gs_size s ≤ 130 ∧ gs_f1 s ≤ (gs_hs s).length ∧ ∀ (i : Nat) (q : Int32 × List gs_L), i < gs_size s → (gs_hs s)[gs_f1 s + i]? = some q → gr_enn N t K i q
def gr_pp (us : Nat) (t : gr_t) (K : gs_K) (hp : List gs_O) : Prop := t.1 0 23 = nI hp.length ∧ ∀ (i : Nat) (o : gs_O), hp[i]? = some o → gr_ob t K us i o
/-- the rows that may stand in a chain: those but of descriptors under way -/
def gr_NX (X : Nat → Prop) (nd : Nat) : Nat → Prop := fun k => k < nd ∧ ¬ X k
/-- under way, with a credit of c bytes; X: descriptors under way -/
def gr_Y (X : Nat → Prop) (c us nd : Nat) (t : gr_t) (K : gs_K) (s : gs_S) : Prop := (gr_lm t K) ∧ (gr_B t K) ∧ (gr_C t K) ∧ (gs_wf K) ∧ (gs_ndK K) ∧ (t.1 0 6 = nI (gs_pl s)) ∧ (gs_pl s ≤ gs_n K) ∧ (gr_pp us t K (gs_hp s)) ∧ (gr_hh (gr_NX X nd) t K s) ∧ (∀ k, X k → k < nd) ∧ (t.1 0 25 = nI us) ∧ (us + 4 * c ≤ 4 * gs_pl s) ∧ (t.1 0 39 = nI nd) ∧ (11 * nd ≤ gs_pl s) ∧ (gr_dj t (gs_hp s)) ∧ (gs_hin s) ∧ (gs_lok s) ∧ (3 * (gs_hp s).length + c ≤ gs_pl s) ∧ (3 * (gs_hs s).length + c ≤ gs_pl s)
theorem gr_Y.mk {X : Nat → Prop} {c us nd : Nat} {t : gr_t} {K : gs_K} {s : gs_S} (lm : gr_lm t K) (B : gr_B t K) (C : gr_C t K) (wf : gs_wf K) (ndK : gs_ndK K) (pl : t.1 0 6 = nI (gs_pl s)) (pn : gs_pl s ≤ gs_n K) (pp : gr_pp us t K (gs_hp s)) (hh : gr_hh (gr_NX X nd) t K s) (xb : ∀ k, X k → k < nd) (u : t.1 0 25 = nI us) (ub : us + 4 * c ≤ 4 * gs_pl s) (n : t.1 0 39 = nI nd) (nb : 11 * nd ≤ gs_pl s) (dj : gr_dj t (gs_hp s)) (hin : gs_hin s) (lok : gs_lok s) (hb : 3 * (gs_hp s).length + c ≤ gs_pl s) (eb : 3 * (gs_hs s).length + c ≤ gs_pl s) : gr_Y X c us nd t K s := ⟨lm, B, C, wf, ndK, pl, pn, pp, hh, xb, u, ub, n, nb, dj, hin, lok, hb, eb⟩
theorem gr_Y.lm {X : Nat → Prop} {c us nd : Nat} {t : gr_t} {K : gs_K} {s : gs_S} (h : gr_Y X c us nd t K s) : gr_lm t K := h.1
theorem gr_Y.B {X : Nat → Prop} {c us nd : Nat} {t : gr_t} {K : gs_K} {s : gs_S} (h : gr_Y X c us nd t K s) : gr_B t K := h.2.1
theorem gr_Y.C {X : Nat → Prop} {c us nd : Nat} {t : gr_t} {K : gs_K} {s : gs_S} (h : gr_Y X c us nd t K s) : gr_C t K := h.2.2.1
theorem gr_Y.wf {X : Nat → Prop} {c us nd : Nat} {t : gr_t} {K : gs_K} {s : gs_S} (h : gr_Y X c us nd t K s) : gs_wf K := h.2.2.2.1
theorem gr_Y.ndK {X : Nat → Prop} {c us nd : Nat} {t : gr_t} {K : gs_K} {s : gs_S} (h : gr_Y X c us nd t K s) : gs_ndK K := h.2.2.2.2.1
theorem gr_Y.pl {X : Nat → Prop} {c us nd : Nat} {t : gr_t} {K : gs_K} {s : gs_S} (h : gr_Y X c us nd t K s) : t.1 0 6 = nI (gs_pl s) := h.2.2.2.2.2.1
theorem gr_Y.pn {X : Nat → Prop} {c us nd : Nat} {t : gr_t} {K : gs_K} {s : gs_S} (h : gr_Y X c us nd t K s) : gs_pl s ≤ gs_n K := h.2.2.2.2.2.2.1
theorem gr_Y.pp {X : Nat → Prop} {c us nd : Nat} {t : gr_t} {K : gs_K} {s : gs_S} (h : gr_Y X c us nd t K s) : gr_pp us t K (gs_hp s) := h.2.2.2.2.2.2.2.1
theorem gr_Y.hh {X : Nat → Prop} {c us nd : Nat} {t : gr_t} {K : gs_K} {s : gs_S} (h : gr_Y X c us nd t K s) : gr_hh (gr_NX X nd) t K s := h.2.2.2.2.2.2.2.2.1
theorem gr_Y.xb {X : Nat → Prop} {c us nd : Nat} {t : gr_t} {K : gs_K} {s : gs_S} (h : gr_Y X c us nd t K s) : ∀ k, X k → k < nd := h.2.2.2.2.2.2.2.2.2.1
theorem gr_Y.u {X : Nat → Prop} {c us nd : Nat} {t : gr_t} {K : gs_K} {s : gs_S} (h : gr_Y X c us nd t K s) : t.1 0 25 = nI us := h.2.2.2.2.2.2.2.2.2.2.1
theorem gr_Y.ub {X : Nat → Prop} {c us nd : Nat} {t : gr_t} {K : gs_K} {s : gs_S} (h : gr_Y X c us nd t K s) : us + 4 * c ≤ 4 * gs_pl s := h.2.2.2.2.2.2.2.2.2.2.2.1
theorem gr_Y.n {X : Nat → Prop} {c us nd : Nat} {t : gr_t} {K : gs_K} {s : gs_S} (h : gr_Y X c us nd t K s) : t.1 0 39 = nI nd := h.2.2.2.2.2.2.2.2.2.2.2.2.1
theorem gr_Y.nb {X : Nat → Prop} {c us nd : Nat} {t : gr_t} {K : gs_K} {s : gs_S} (h : gr_Y X c us nd t K s) : 11 * nd ≤ gs_pl s := h.2.2.2.2.2.2.2.2.2.2.2.2.2.1
theorem gr_Y.dj {X : Nat → Prop} {c us nd : Nat} {t : gr_t} {K : gs_K} {s : gs_S} (h : gr_Y X c us nd t K s) : gr_dj t (gs_hp s) := h.2.2.2.2.2.2.2.2.2.2.2.2.2.2.1
theorem gr_Y.hin {X : Nat → Prop} {c us nd : Nat} {t : gr_t} {K : gs_K} {s : gs_S} (h : gr_Y X c us nd t K s) : gs_hin s := h.2.2.2.2.2.2.2.2.2.2.2.2.2.2.2.1
theorem gr_Y.lok {X : Nat → Prop} {c us nd : Nat} {t : gr_t} {K : gs_K} {s : gs_S} (h : gr_Y X c us nd t K s) : gs_lok s := h.2.2.2.2.2.2.2.2.2.2.2.2.2.2.2.2.1
theorem gr_Y.hb {X : Nat → Prop} {c us nd : Nat} {t : gr_t} {K : gs_K} {s : gs_S} (h : gr_Y X c us nd t K s) : 3 * (gs_hp s).length + c ≤ gs_pl s := h.2.2.2.2.2.2.2.2.2.2.2.2.2.2.2.2.2.1
theorem gr_Y.eb {X : Nat → Prop} {c us nd : Nat} {t : gr_t} {K : gs_K} {s : gs_S} (h : gr_Y X c us nd t K s) : 3 * (gs_hs s).length + c ≤ gs_pl s := h.2.2.2.2.2.2.2.2.2.2.2.2.2.2.2.2.2.2
section N1b
variable {N N' X : Nat → Prop} {t t' t'' : gr_t} {hb ub nb hb' ub' nb' n n' c c' us nd p k i j e : Nat} {K : gs_K} {s s' : gs_S} {o : Nat}
theorem gr_enn.en (hn : ∀ k, N k → k < 130) {q : Int32 × List gs_L} (h : gr_enn N t K i q) : gr_en t K i q := by
  rcases h with h | ⟨a, b, c, d⟩ | h | h
  · exact Or.inl h
  · exact Or.inr (Or.inl ⟨a, b, c, d.ch hn⟩)
  · exact Or.inr (Or.inr (Or.inl h))
  · exact Or.inr (Or.inr (Or.inr h))
theorem gr_Y.hs (Y : gr_Y X c us nd t K s) : gr_hs t K s := by
  have h1 := Y.nb
  have h2 := Y.pn
  have h3 := Y.B.2.1
  exact ⟨Y.hh.1, Y.hh.2.1, Y.hh.2.2.1, fun i q hi hq => (Y.hh.2.2.2 i q hi hq).en (fun k hk => by have := hk.1; omega)⟩
theorem gr_Y.hp (Y : gr_Y X c us nd t K s) : gr_hp t K (gs_hp s) := by
  have h0 := Y.ub
  have h1 := Y.hb
  have h2 := Y.pn
  have h3 := Y.B.2.1
  exact ⟨us, Y.u, by omega, Y.pp.1, by omega, Y.pp.2⟩
theorem gr_chn.up (hn : ∀ k, N k → N' k) : ∀ (L : List gs_L) (i : Int32), gr_chn N t K L i → gr_chn N' t K L i
  | [], _, c => c
  | l :: L, i, ⟨k, k0, k1, k2, k3⟩ => ⟨k, k0, hn k k1, k2, gr_chn.up hn L _ k3⟩
theorem gr_Y.toX {lf : Int32} (Y : gr_Y X 0 us nd t K s) (h7 : t.1 0 7 = lf) : gr_X t K s lf := by
  refine ⟨Y.lm, Y.B, Y.C, ⟨Y.wf, Y.ndK⟩, ⟨Y.pl, Y.pn⟩, h7, Y.hp, Y.hs, ⟨us, nd, Y.u, by have := Y.ub; omega, Y.n, Y.nb, ⟨fun i q hi hq hne => ?_, Y.dj, Y.hin, Y.lok⟩⟩, by have := Y.hb; omega, by have := Y.eb; omega⟩
  rcases Y.hh.2.2.2 i q hi hq with z | z | z | z
  · rw [z.2] at hne; exact absurd rfl hne
  · exact z.2.2.2.up (fun k hk => hk.1)
  · exact absurd z.2.1 hne
  · rw [z.2] at hne; exact absurd rfl hne
theorem gr_X.Y {lf : Int32} (X : gr_X t K s lf) : ∃ us nd, gr_Y (fun _ => False) 0 us nd t K s := by
  obtain ⟨L, B, C, W, P, l7, ⟨us', u1, u2, u3, u4, u5⟩, Hs, ⟨us, nd, n1, n2, n3, n4, Z1, Z2, Z3, Z4⟩, N1, N2⟩ := X
  have b7 := B.2.1
  have p7 := P.2
  have e : us' = us := (nI_eq (by omega) (by omega)).mp (u1.symm.trans n1)
  subst e
  refine ⟨us', nd, L, B, C, W.1, W.2, P.1, P.2, ⟨u3, u5⟩, ⟨Hs.1, Hs.2.1, Hs.2.2.1, fun i q hi hq => ?_⟩, fun k hk => hk.elim, n1, by omega, n3, n4, Z2, Z3, Z4, by omega, by omega⟩
  rcases Hs.2.2.2 i q hi hq with z | z | z | z
  · exact Or.inl z
  · exact Or.inr (Or.inl ⟨z.1, z.2.1, z.2.2.1, (Z1 i q hi hq z.2.2.1).up (fun k hk => ⟨hk, fun y => y⟩)⟩)
  · exact Or.inr (Or.inr (Or.inl z))
  · exact Or.inr (Or.inr (Or.inr z))
theorem gr_Y.wk (Y : gr_Y X c us nd t K s) (h : c' ≤ c) : gr_Y X c' us nd t K s := gr_Y.mk (lm := Y.lm) (B := Y.B) (C := Y.C) (wf := Y.wf) (ndK := Y.ndK) (pl := Y.pl) (pn := Y.pn) (pp := Y.pp) (hh := Y.hh) (xb := Y.xb) (u := Y.u) (ub := by have := Y.ub; omega) (n := Y.n) (nb := Y.nb) (dj := Y.dj) (hin := Y.hin) (lok := Y.lok) (hb := by have := Y.hb; omega) (eb := by have := Y.eb; omega)
/-- descriptors below nd are the same -/
theorem gr_dl.kp {l : gs_L} (q : gr_kp hb ub nb t t') (hk : k < nb) (D : gr_dl t K k l) : gr_dl t' K k l := by
  obtain ⟨a, b, c, e, f, g, i, j⟩ := D
  refine ⟨by rw [q.1 _ _ (by unfold gr_pr; omega)]; exact a, ⟨by rw [q.1 _ _ (by unfold gr_pr; omega)]; exact b.1, b.2⟩, by rw [q.1 _ _ (by unfold gr_pr; omega)]; exact c, by rw [q.2 _ _ (by unfold gr_prl; omega)]; exact e, by rw [q.1 _ _ (by unfold gr_pr; omega)]; exact f, g, i, fun n p hp => ?_⟩
  have := (List.getElem?_eq_some_iff.mp hp).1
  rw [q.1 _ _ (by unfold gr_pr; omega), q.1 _ _ (by unfold gr_pr; omega)]
  exact j n p hp
theorem gr_chn.kp (q : gr_kp hb ub nb t t') (hn : ∀ k, N k → k < nb) : ∀ (L : List gs_L) (i : Int32), gr_chn N t K L i → gr_chn N t' K L i
  | [], _, c => c
  | l :: L, i, ⟨k, k0, k1, k2, k3⟩ => ⟨k, k0, k1, ⟨k2.1.kp q (hn k k1), k2.2⟩, by rw [q.1 _ _ (by have := hn k k1; unfold gr_pr; omega)]; exact gr_chn.kp q hn L _ k3⟩
theorem gr_enn.kp {q : Int32 × List gs_L} (k : gr_kp hb ub nb t t') (hn : ∀ k, N k → k < nb) (hle : ∀ k, N k → N' k) (e16 : t'.1 16 i = t.1 16 i) (e17 : t'.1 17 i = t.1 17 i) (h : gr_enn N t K i q) : gr_enn N' t' K i q := by
  unfold gr_enn
  rw [e16, e17]
  rcases h with h | ⟨a, b, c, d⟩ | h | h
  · exact Or.inl h
  · exact Or.inr (Or.inl ⟨a, b, c, (d.kp k hn).up hle⟩)
  · exact Or.inr (Or.inr (Or.inl h))
  · exact Or.inr (Or.inr (Or.inr h))
/-- classes, limits, bytes are the same -/
theorem gr_kp.lm (q : gr_kp hb ub nb t t') (L : gr_lm t K) : gr_lm t' K := by
  obtain ⟨a, b, c, d⟩ := L
  exact ⟨by rw [q.1 _ _ (by unfold gr_pr; omega)]; exact a, by rw [q.1 _ _ (by unfold gr_pr; omega)]; exact b, by rw [q.1 _ _ (by unfold gr_pr; omega)]; exact c, by rw [q.1 _ _ (by unfold gr_pr; omega)]; exact d⟩
theorem gr_kp.gB (q : gr_kp hb ub nb t t') (B : gr_B t K) : gr_B t' K := ⟨by rw [q.1 _ _ (by unfold gr_pr; omega)]; exact B.1, B.2.1, fun i hi => by rw [q.1 _ _ (by unfold gr_pr; omega)]; exact B.2.2 i hi⟩
theorem gr_kp.gC (q : gr_kp hb ub nb t t') (C : gr_C t K) : gr_C t' K := by
  intro c hc
  have z := C c hc
  rw [q.1 _ _ (by unfold gr_pr; omega), q.1 _ _ (by unfold gr_pr; omega), q.1 _ _ (by unfold gr_pr; omega), q.1 _ _ (by unfold gr_pr; omega)]
  cases e : gs_cls K c with
  | none => rw [e] at z; exact z
  | some D =>
    rw [e] at z
    obtain ⟨q1, q2, q3, q4, q5, q6, q7, q8, q9⟩ := z
    refine ⟨q1, q2, by rw [q.1 _ _ (by unfold gr_pr; omega)]; exact q3, by rw [q.2 _ _ (by unfold gr_prl; omega)]; exact q4, q5, q6, q7, q8, fun j p hp => ?_⟩
    rw [q.1 _ _ (by unfold gr_pr; omega), q.1 _ _ (by unfold gr_pr; omega)]
    exact q9 j p hp
/-- an object below hb, its values below ub -/
theorem gr_ob.kp {w : gs_O} (q : gr_kp hb ub nb t t') (hi : i < hb) (hu : us ≤ ub) (hle : us ≤ n) (O : gr_ob t K us i w) : gr_ob t' K n i w := by
  obtain ⟨a, b, c, e, f, g, i1, j, k⟩ := O
  refine ⟨by rw [q.1 _ _ (by unfold gr_pr; omega)]; exact a, b, by rw [q.1 _ _ (by unfold gr_pr; omega)]; exact c, e, by rw [q.1 _ _ (by unfold gr_pr; omega)]; exact f, by rw [q.1 _ _ (by unfold gr_pr; omega)]; exact g, i1, j, ?_⟩
  unfold gr_ov at k ⊢
  rw [q.1 _ _ (by unfold gr_pr; omega)]
  by_cases s1 : w.1 = 1
  · rw [if_pos s1] at k ⊢; exact k
  · rw [if_neg s1] at k ⊢
    by_cases s2 : w.1 = 2
    · rw [if_pos s2] at k ⊢; exact k
    · rw [if_neg s2] at k ⊢
      obtain ⟨y, y1, y2, y3⟩ := k
      refine ⟨y, y1, by omega, fun n v hv => ?_⟩
      have := (List.getElem?_eq_some_iff.mp hv).1
      rw [q.2 _ _ (by unfold gr_prl; omega)]
      exact y3 n v hv
theorem gr_dj.kp {hp : List gs_O} (q : gr_kp hb ub nb t t') (hl : hp.length ≤ hb) (D : gr_dj t hp) : gr_dj t' hp := by
  intro i j oi oj hij hi hj si sj
  have l1 := (List.getElem?_eq_some_iff.mp hi).1
  have l2 := (List.getElem?_eq_some_iff.mp hj).1
  rw [q.1 _ _ (by unfold gr_pr; omega), q.1 _ _ (by unfold gr_pr; omega)]
  exact D i j oi oj hij hi hj si sj
/-- all of it, from the protected cells and the counters; handles' own two rows too -/
theorem gr_Y.kp (Y : gr_Y X c us nd t K s) (q : gr_kp (gs_hp s).length us nd t t') (h6 : t'.1 0 6 = nI p) (hp : gs_pl s ≤ p) (hpn : p ≤ gs_n K) (hc : c' + gs_pl s ≤ c + p) (h23 : t'.1 0 23 = t.1 0 23) (h25 : t'.1 0 25 = t.1 0 25) (h28 : t'.1 0 28 = t.1 0 28) (h39 : t'.1 0 39 = t.1 0 39) (e : ∀ i, i < gs_size s → t'.1 16 i = t.1 16 i ∧ t'.1 17 i = t.1 17 i) : gr_Y X c' us nd t' K (gs_p p s) :=
  gr_Y.mk
    (lm := q.lm Y.lm)
    (B := q.gB Y.B)
    (C := q.gC Y.C)
    (wf := Y.wf)
    (ndK := Y.ndK)
    (pl := h6)
    (pn := hpn)
    (pp := ⟨h23.trans Y.pp.1, fun i o ho => (Y.pp.2 i o ho).kp q (List.getElem?_eq_some_iff.mp ho).1 (Nat.le_refl _) (Nat.le_refl _)⟩)
    (hh := ⟨h28.trans Y.hh.1, Y.hh.2.1, Y.hh.2.2.1, fun i w hi hw => (Y.hh.2.2.2 i w hi hw).kp q (fun k hk => hk.1) (fun k hk => hk) (e i hi).1 (e i hi).2⟩)
    (xb := Y.xb)
    (u := h25.trans Y.u)
    (ub := by have := Y.ub; show us + 4 * c' ≤ 4 * p; omega)
    (n := h39.trans Y.n)
    (nb := by have := Y.nb; show 11 * nd ≤ p; omega)
    (dj := Y.dj.kp q (Nat.le_refl _))
    (hin := Y.hin)
    (lok := Y.lok)
    (hb := by have := Y.hb; show 3 * (gs_hp s).length + c' ≤ p; omega)
    (eb := by have := Y.eb; show 3 * (gs_hs s).length + c' ≤ p; omega)
theorem gr_Y.hm (Y : gr_Y X c us nd t K s) (q : gr_hm t t') : gr_Y X c us nd t' K s := by
  have z : ∀ i, i ≠ 8 → i ≠ 9 → i ≠ 47 → t'.1 0 i = t.1 0 i := fun i a b d => q.1 0 i (by decide) (fun _ => ⟨a, b, d⟩)
  exact Y.kp q.kp ((z 6 (by decide) (by decide) (by decide)).trans Y.pl) (Nat.le_refl _) Y.pn (Nat.le_refl _) (z _ (by decide) (by decide) (by decide)) (z _ (by decide) (by decide) (by decide)) (z _ (by decide) (by decide) (by decide)) (z _ (by decide) (by decide) (by decide)) (fun i _ => ⟨q.1 _ _ (by decide) (fun z => absurd z (by decide)), q.1 _ _ (by decide) (fun z => absurd z (by decide))⟩)
/-- bytes passed -/
theorem gr_Y.place (Y : gr_Y X c us nd t K s) (hk : gs_pl s + k ≤ gs_n K) : gr_Y X (c + k) us nd (gr_ui t 0 6 (nI (gs_pl s + k))) K (gs_p (gs_pl s + k) s) := by
  have z : ∀ i, i ≠ 6 → (gr_ui t 0 6 (nI (gs_pl s + k))).1 0 i = t.1 0 i := fun i hi => gr_ui_ni hi
  exact Y.kp (gr_kp.refl.ui (by unfold gr_pr; omega)) gr_ui_eq (by omega) hk (by omega) (z _ (by decide)) (z _ (by decide)) (z _ (by decide)) (z _ (by decide)) (fun i _ => ⟨gr_ui_no (by decide), gr_ui_no (by decide)⟩)
theorem gr_Y.to {s1 : gs_S} (Y : gr_Y X c us nd t K s) (hs : s1.2 = s.2) (hp : gs_pl s + k ≤ gs_pl s1) (hk : gs_pl s1 ≤ gs_n K) : gr_Y X (c + k) us nd (gr_ui t 0 6 (nI (gs_pl s1))) K s1 := by
  obtain ⟨j, hj⟩ : ∃ j, gs_pl s1 = gs_pl s + j := ⟨gs_pl s1 - gs_pl s, by omega⟩
  have e : s1 = gs_p (gs_pl s + j) s := by
    obtain ⟨a, b⟩ := s1
    obtain ⟨a2, b2⟩ := s
    cases hs
    cases hj
    rfl
  rw [hj, e]
  exact (Y.place (by omega)).wk (by omega)
end N1b
