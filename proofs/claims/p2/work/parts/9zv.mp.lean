/-! THE REFERENCE, 24: what stays where only scalars change; the relation. -/
section MP
variable {E : Nat → Value} {d m : Nat} {h : gm_H} {t t' : gr_t} {K : gs_K} {s : gs_S} {lf : Int32}
/-- the arrays are the same -/
def gr_sm (t t' : gr_t) : Prop := t'.2 = t.2 ∧ ∀ o i, o ≠ 0 → t'.1 o i = t.1 o i
theorem gr_ke.sm (k : gr_ke t t') : gr_sm t t' := ⟨k.1, fun o i ho => k.2 o i (fun z => absurd z ho)⟩
theorem gr_ke2.sm (k : gr_ke2 t t') : gr_sm t t' := ⟨k.1, fun o i ho => k.2 o i (fun z => absurd z ho)⟩
/-- bytes are added, classes stay -/
def gs_kk (K K' : gs_K) : Prop := gs_n K ≤ gs_n K' ∧ (∀ i, i < gs_n K → gs_by K' i = gs_by K i) ∧ ∀ c, (gs_cls K c).isSome = true → (gs_cls K' c).isSome = true
theorem gs_kk.refl : gs_kk K K := ⟨Nat.le_refl _, fun _ _ => rfl, fun _ x => x⟩
theorem gs_kk.sb {K' : gs_K} {i : Nat} (k : gs_kk K K') (hi : i < gs_n K) : gs_sb K' i = gs_sb K i := by unfold gs_sb; rw [k.2.1 i hi]
theorem gs_kk.num {K' : gs_K} (k : gs_kk K K') : ∀ (a n : Nat), a + n ≤ gs_n K → gs_num K' a n = gs_num K a n
  | _, 0, _ => rfl
  | a, n + 1, h => by
    show gs_num K' a n <<< 8 ||| gs_ub K' (a + n) = gs_num K a n <<< 8 ||| gs_ub K (a + n)
    unfold gs_ub
    rw [gs_kk.num k a n (by omega), k.sb (by omega)]
theorem gs_kk.spelt {K' : gs_K} (k : gs_kk K K') {a n : Nat} {T : List Int32} (h : a + n ≤ gs_n K) : gs_spelt K' a n T = gs_spelt K a n T := by
  unfold gs_spelt
  congr 1
  rw [Bool.eq_iff_iff, List.all_eq_true, List.all_eq_true]
  constructor
  · intro z i hi
    have := List.mem_range.mp hi
    rw [← k.sb (by omega)]
    exact z i hi
  · intro z i hi
    have := List.mem_range.mp hi
    rw [k.sb (by omega)]
    exact z i hi
/-- the arrays of heap, handles and descriptors are the same -/
def gr_s2 (t t' : gr_t) : Prop := (∀ o i, (10 ≤ o ∧ o < 28 ∧ o ≠ 18 ∧ o ≠ 19) → t'.2 o i = t.2 o i) ∧ ∀ o i, (10 ≤ o ∧ o < 28 ∧ o ≠ 18 ∧ o ≠ 19) → t'.1 o i = t.1 o i
theorem gr_sm.s2 (x : gr_sm t t') : gr_s2 t t' := ⟨fun o i _ => by rw [x.1], fun o i h => x.2 o i (by omega)⟩
theorem gr_dl.sm {K' : gs_K} {k : Nat} {l : gs_L} (kk : gs_kk K K') (D : gr_dl t K k l) (x : gr_s2 t t') : gr_dl t' K' k l := by
  obtain ⟨a, b, c, e, f, g, i, j⟩ := D
  have es : gr_shape K' l = gr_shape K l := by unfold gr_shape; rw [kk.spelt b.2, kk.spelt b.2]
  refine ⟨by rw [x.2 _ _ (by decide)]; exact a, ⟨by rw [x.2 _ _ (by decide), es]; exact b.1, by have := kk.1; omega⟩, by rw [x.2 _ _ (by decide)]; exact c, by rw [x.1 _ _ (by decide)]; exact e, by rw [x.2 _ _ (by decide)]; exact f, g, fun c hc => ⟨(i c hc).1, kk.2.2 c (i c hc).2⟩, fun n q hq => ?_⟩
  rw [x.2 _ _ (by decide), x.2 _ _ (by decide)]
  exact j n q hq
theorem gr_ch.sm {K' : gs_K} (kk : gs_kk K K') (x : gr_s2 t t') : ∀ (L : List gs_L) (i : Int32), gr_ch t K L i → gr_ch t' K' L i
  | [], _, c => c
  | l :: L, i, ⟨k, k0, k1, k2, k3⟩ => ⟨k, k0, k1, k2.sm kk x, by rw [x.2 _ _ (by decide)]; exact gr_ch.sm kk x L _ k3⟩
theorem gr_en.sm {K' : gs_K} {i : Nat} {q : Int32 × List gs_L} (kk : gs_kk K K') (x : gr_s2 t t') (e : gr_en t K i q) : gr_en t' K' i q := by
  unfold gr_en
  rw [x.2 _ _ (by decide), x.2 _ _ (by decide)]
  rcases e with e | ⟨a, b, c, e⟩ | e | e
  · exact Or.inl e
  · exact Or.inr (Or.inl ⟨a, b, c, gr_ch.sm kk x _ _ e⟩)
  · exact Or.inr (Or.inr (Or.inl e))
  · exact Or.inr (Or.inr (Or.inr e))
theorem gr_hs.sm {K' : gs_K} (kk : gs_kk K K') (x : gr_s2 t t') (h28 : t'.1 0 28 = t.1 0 28) {s' : gs_S} (hs : s'.2.2 = s.2.2) (H : gr_hs t K s) : gr_hs t' K' s' := by
  obtain ⟨a, b, c, e⟩ := H
  have z1 : gs_size s' = gs_size s := by unfold gs_size gs_hs gs_f1; rw [hs]
  have z2 : gs_hs s' = gs_hs s := by unfold gs_hs; rw [hs]
  have z3 : gs_f1 s' = gs_f1 s := by unfold gs_f1; rw [hs]
  refine ⟨by rw [h28, z1]; exact a, by rw [z1]; exact b, by rw [z2, z3]; exact c, fun i q hi hq => ?_⟩
  rw [z1] at hi
  rw [z2, z3] at hq
  exact (e i q hi hq).sm kk x
theorem gr_ob.sm {K' : gs_K} {us i : Nat} {o : gs_O} (kk : gs_kk K K') (x : gr_s2 t t') (O : gr_ob t K us i o) : gr_ob t' K' us i o := by
  obtain ⟨a, b, c, e, f, g, i1, j, k⟩ := O
  have k1 := kk.1
  refine ⟨by rw [x.2 _ _ (by decide)]; exact a, b, by rw [x.2 _ _ (by decide)]; exact c, e, by rw [x.2 _ _ (by decide)]; exact f, by rw [x.2 _ _ (by decide)]; exact g, i1, j, ?_⟩
  unfold gr_ov at k ⊢
  rw [x.2 _ _ (by decide)]
  by_cases s1 : o.1 = 1
  · rw [if_pos s1] at k ⊢
    obtain ⟨w, w1, w2, w3⟩ := k
    refine ⟨w, w1, by omega, fun n v hv => ?_⟩
    have := (List.getElem?_eq_some_iff.mp hv).1
    rw [kk.sb (by omega)]
    exact w3 n v hv
  · rw [if_neg s1] at k ⊢
    by_cases s2 : o.1 = 2
    · rw [if_pos s2] at k ⊢
      obtain ⟨w, w1, w2, w3⟩ := k
      refine ⟨w, w1, by omega, fun n v hv => ?_⟩
      have := (List.getElem?_eq_some_iff.mp hv).1
      rw [kk.num _ _ (by omega)]
      exact w3 n v hv
    · rw [if_neg s2] at k ⊢
      obtain ⟨w, w1, w2, w3⟩ := k
      refine ⟨w, w1, w2, fun n v hv => ?_⟩
      rw [x.1 _ _ (by decide)]
      exact w3 n v hv
theorem gr_hp.sm {K' : gs_K} {hp : List gs_O} (kk : gs_kk K K') (x : gr_s2 t t') (h25 : t'.1 0 25 = t.1 0 25) (h23 : t'.1 0 23 = t.1 0 23) (H : gr_hp t K hp) : gr_hp t' K' hp := by
  obtain ⟨us, a, b, c, e, f⟩ := H
  exact ⟨us, by rw [h25]; exact a, b, by rw [h23]; exact c, e, fun i o ho => (f i o ho).sm kk x⟩
/-- a descriptor's types -/
def gs_tys (l : gs_L) : Prop := ∀ (j : Nat) (q : Int32 × Int32), (gs_df l)[j]? = some q → ∃ ty, ty < 8 ∧ q.2 = nI ty
/-- a descriptor and those above it, all below nd -/
def gr_chn (N : Nat → Prop) (t : gr_t) (K : gs_K) : List gs_L → Int32 → Prop
  | [], i => i = -2
  | l :: L, i => ∃ k, i = nI k ∧ N k ∧ (gr_dl t K k l ∧ gs_tys l) ∧ gr_chn N t K L (t.1 27 k)
theorem gr_chn.ch {N : Nat → Prop} (hn : ∀ k, N k → k < 130) : ∀ (L : List gs_L) (i : Int32), gr_chn N t K L i → gr_ch t K L i
  | [], _, c => c
  | l :: L, i, ⟨k, k0, k1, k2, k3⟩ => ⟨k, k0, hn k k1, k2.1, gr_chn.ch hn L _ k3⟩
theorem gr_chn.sm {K' : gs_K} {N : Nat → Prop} (kk : gs_kk K K') (x : gr_s2 t t') : ∀ (L : List gs_L) (i : Int32), gr_chn N t K L i → gr_chn N t' K' L i
  | [], _, c => c
  | l :: L, i, ⟨k, k0, k1, k2, k3⟩ => ⟨k, k0, k1, ⟨k2.1.sm kk x, k2.2⟩, by rw [x.2 _ _ (by decide)]; exact gr_chn.sm kk x L _ k3⟩
/-- the handles' descriptors lie below nd -/
def gr_hn (nd : Nat) (t : gr_t) (K : gs_K) (s : gs_S) : Prop := ∀ (i : Nat) (q : Int32 × List gs_L), i < gs_size s → (gs_hs s)[gs_f1 s + i]? = some q → q.2 ≠ [] → gr_chn (fun k => k < nd) t K q.2 (t.1 17 i)
/-- values of one object end before those of the next -/
def gr_dj (t : gr_t) (hp : List gs_O) : Prop := ∀ (i j : Nat) (oi oj : gs_O), i < j → hp[i]? = some oi → hp[j]? = some oj → (oi.1 = 0 ∨ oi.1 = 3) → (oj.1 = 0 ∨ oj.1 = 3) → ∃ a b, t.1 13 i = nI a ∧ t.1 13 j = nI b ∧ a + oi.2.2.1.length ≤ b ∧ b ≤ 4000
/-- a handle's object is there; a chain is no longer than there are descriptors -/
def gs_hin (s : gs_S) : Prop := ∀ (i : Nat) (q : Int32 × List gs_L), (gs_hs s)[i]? = some q → ¬ q.1 < 0 → ∃ x, x < (gs_hp s).length ∧ q.1 = nI x
def gs_lok (s : gs_S) : Prop := ∀ (i : Nat) (q : Int32 × List gs_L), (gs_hs s)[i]? = some q → q.2.length ≤ gs_dn s
def gr_Z (nd : Nat) (t : gr_t) (K : gs_K) (s : gs_S) : Prop := gr_hn nd t K s ∧ gr_dj t (gs_hp s) ∧ gs_hin s ∧ gs_lok s
theorem gr_Z.sm {K' : gs_K} {nd : Nat} {s' : gs_S} (kk : gs_kk K K') (x : gr_s2 t t') (hs : s'.2 = s.2) (Z : gr_Z nd t K s) : gr_Z nd t' K' s' := by
  obtain ⟨a, b, c, e⟩ := Z
  have z1 : gs_size s' = gs_size s := by unfold gs_size gs_hs gs_f1; rw [hs]
  have z2 : gs_hs s' = gs_hs s := by unfold gs_hs; rw [hs]
  have z3 : gs_f1 s' = gs_f1 s := by unfold gs_f1; rw [hs]
  have z4 : gs_hp s' = gs_hp s := by unfold gs_hp; rw [hs]
  refine ⟨fun i q hi hq hn => ?_, ?_, ?_, ?_⟩
  · rw [z1] at hi
    rw [z2, z3] at hq
    rw [x.2 _ _ (by decide)]
    exact (a i q hi hq hn).sm kk x
  · rw [z4]
    intro i j oi oj hij hi hj si sj
    rw [x.2 _ _ (by decide), x.2 _ _ (by decide)]
    exact b i j oi oj hij hi hj si sj
  · unfold gs_hin; rw [z2, z4]; exact c
  · unfold gs_lok gs_dn; rw [z2]; exact e
theorem gr_Z.nil {nd p : Nat} : gr_Z nd t K (p, [], [], 0) := ⟨fun i q hi => absurd hi (Nat.not_lt_zero i), fun i j oi oj _ hi => by simp [gs_hp] at hi, fun i q hq => by simp [gs_hs] at hq, fun i q hq => by simp [gs_hs] at hq⟩
/-- the reference stands for (K, s), with the lasting fault -/
def gr_X (t : gr_t) (K : gs_K) (s : gs_S) (lf : Int32) : Prop := gr_lm t K ∧ gr_B t K ∧ gr_C t K ∧ (gs_wf K ∧ gs_ndK K) ∧ (t.1 0 6 = nI (gs_pl s) ∧ gs_pl s ≤ gs_n K) ∧ t.1 0 7 = lf ∧ gr_hp t K (gs_hp s) ∧ gr_hs t K s ∧
  (∃ us nd, t.1 0 25 = nI us ∧ us ≤ 4 * gs_pl s ∧ t.1 0 39 = nI nd ∧ 11 * nd ≤ gs_pl s ∧ gr_Z nd t K s) ∧ 3 * (gs_hp s).length ≤ gs_pl s ∧ 3 * (gs_hs s).length ≤ gs_pl s
theorem gr_X.of {s' : gs_S} {lf' : Int32} (X : gr_X t K s lf) (k : gr_ke t t') (hs : s'.2 = s.2) (h6 : t'.1 0 6 = nI (gs_pl s')) (h7 : t'.1 0 7 = lf') (hp : gs_pl s ≤ gs_pl s') (hn : gs_pl s' ≤ gs_n K) : gr_X t' K s' lf' := by
  obtain ⟨L, B, C, W, P, l7, Hp, Hs, ⟨us, nd, n1, n2, n3, n4, n5⟩, N1, N2⟩ := X
  have e := k.sm
  have z : ∀ i, i ≠ 6 → i ≠ 7 → i ≠ 8 → t'.1 0 i = t.1 0 i := fun i a b c => k.2 0 i (fun _ => ⟨a, b, c⟩)
  have h1 : gs_hp s' = gs_hp s := by unfold gs_hp; rw [hs]
  have h2 : gs_hs s' = gs_hs s := by unfold gs_hs; rw [hs]
  refine ⟨⟨?_, ?_, ?_, ?_⟩, ⟨?_, B.2.1, ?_⟩, C.of e.2 e.1, W, ⟨h6, hn⟩, h7, ?_, Hs.sm gs_kk.refl e.s2 (z 28 (by decide) (by decide) (by decide)) (by rw [hs]), ⟨us, nd, ?_, by omega, ?_, by omega, n5.sm gs_kk.refl e.s2 hs⟩, by rw [h1]; omega, by rw [h2]; omega⟩
  · rw [z _ (by decide) (by decide) (by decide)]; exact L.1
  · rw [z _ (by decide) (by decide) (by decide)]; exact L.2.1
  · rw [z _ (by decide) (by decide) (by decide)]; exact L.2.2.1
  · rw [z _ (by decide) (by decide) (by decide)]; exact L.2.2.2
  · rw [z _ (by decide) (by decide) (by decide)]; exact B.1
  · intro i hi; rw [e.2 _ _ (by decide)]; exact B.2.2 i hi
  · rw [h1]; exact Hp.sm gs_kk.refl e.s2 (z 25 (by decide) (by decide) (by decide)) (z 23 (by decide) (by decide) (by decide))
  · rw [z _ (by decide) (by decide) (by decide)]; exact n1
  · rw [z _ (by decide) (by decide) (by decide)]; exact n3
theorem M_object {v w : Int32} (hd : 1 ≤ d) (X : gr_X t K s lf) : gm_Ca E d 48 [.ref m, .int v, .int w] (gr_H h m t) (gx_v (some (.int (gs_object s v w))) (gr_H h m t)) := m_object hd X.2.2.2.2.2.2.1
theorem M_value {v w : Int32} (hd : 1 ≤ d) (X : gr_X t K s lf) : gm_Ca E d 49 [.ref m, .int v, .int w] (gr_H h m t) (gx_v (some (.long (gs_value s v w))) (gr_H h m t)) := m_value hd X.2.1 X.2.2.2.2.2.2.1
theorem gs_blk_pl {q : Int32 × gs_S} (e : gs_blk K s = .ok q) (hp : gs_pl s ≤ gs_n K) : q.2.2 = s.2 ∧ gs_pl s ≤ gs_pl q.2 ∧ gs_pl q.2 ≤ gs_n K := by
  unfold gs_blk gs_b at e
  cases e1 : gs_u1 K s with
  | error f => rw [e1] at e; cases e
  | ok a =>
    rw [e1] at e
    dsimp only at e
    have a1 : a.2 = gs_p (gs_pl s + 1) s ∧ gs_pl s + 1 ≤ gs_n K := by
      unfold gs_u1 gs_b at e1
      cases e2 : gs_nxt K 1 s with
      | error f => rw [e2] at e1; cases e1
      | ok b =>
        rw [e2] at e1
        cases e1
        obtain ⟨b1, b2⟩ := gs_nxt_eq (v := b.1) (s1 := b.2) e2
        refine ⟨b2, ?_⟩
        have := gs_nxt_ok (v := b.1) (s1 := b.2) e2
        omega
    have g : ∀ k, ∀ b : Int64 × gs_S, gs_nxt K k a.2 = .ok b → b.2.2 = s.2 ∧ gs_pl s ≤ gs_pl b.2 ∧ gs_pl b.2 ≤ gs_n K := by
      intro k b hb
      obtain ⟨b1, b2⟩ := gs_nxt_eq (v := b.1) (s1 := b.2) hb
      have := gs_nxt_ok (v := b.1) (s1 := b.2) hb
      rw [a1.1] at b2 this
      have z : gs_pl (gs_p (gs_pl s + 1) s) = gs_pl s + 1 := rfl
      rw [z] at b2 this
      rw [b2]
      refine ⟨rfl, ?_, ?_⟩
      · show gs_pl s ≤ gs_pl s + 1 + k; omega
      · show gs_pl s + 1 + k ≤ gs_n K; omega
    have fin : ∀ b : Int32 × gs_S, (b.2.2 = s.2 ∧ gs_pl s ≤ gs_pl b.2 ∧ gs_pl b.2 ≤ gs_n K) → (if b.1 < 0 then (.error (-4) : Except Int32 (Int32 × gs_S)) else if gs_n K - gs_pl b.2 < b.1.toNatClampNeg then .error (-3) else .ok (b.1, gs_p (gs_pl b.2 + b.1.toNatClampNeg) b.2)) = .ok q → q.2.2 = s.2 ∧ gs_pl s ≤ gs_pl q.2 ∧ gs_pl q.2 ≤ gs_n K := by
      intro b hb z
      by_cases c1 : b.1 < 0
      · rw [if_pos c1] at z; cases z
      · rw [if_neg c1] at z
        by_cases c2 : gs_n K - gs_pl b.2 < b.1.toNatClampNeg
        · rw [if_pos c2] at z; cases z
        · rw [if_neg c2] at z
          cases z
          refine ⟨hb.1, ?_, ?_⟩
          · show gs_pl s ≤ gs_pl b.2 + b.1.toNatClampNeg; omega
          · show gs_pl b.2 + b.1.toNatClampNeg ≤ gs_n K; omega
    by_cases c : a.1 = 119
    · rw [if_pos c] at e
      unfold gs_u1 gs_b at e
      cases e3 : gs_nxt K 1 a.2 with
      | error f => rw [e3] at e; cases e
      | ok b => rw [e3] at e; exact fin (b.1.toInt32, b.2) (g 1 b e3) e
    · rw [if_neg c] at e
      unfold gs_u4 gs_b at e
      cases e3 : gs_nxt K 4 a.2 with
      | error f => rw [e3] at e; cases e
      | ok b => rw [e3] at e; exact fin (b.1.toInt32, b.2) (g 4 b e3) e
theorem M_passBlock (hd : 4 ≤ d) (X : gr_X t K s lf) : gm_Ca E d 47 [.ref m] (gr_H h m t) (fun r h' => r = .inl (some (.int (gs_pass K s lf).1)) ∧ ∃ t', h' = gr_H h m t' ∧ gr_X t' K (gs_pass K s lf).2.1 (gs_pass K s lf).2.2) := by
  refine gm_Ca.mono (m_passBlock (lf := lf) hd X.2.1 X.2.2.2.2.1.1 X.2.2.2.2.1.2 X.2.2.2.2.2.1) (fun r h' q => ?_)
  obtain ⟨q1, t', q2, q3, q4, q5⟩ := q
  refine ⟨q1, t', q2, ?_⟩
  have hp := X.2.2.2.2.1.2
  have g : (gs_pass K s lf).2.1.2 = s.2 ∧ gs_pl s ≤ gs_pl (gs_pass K s lf).2.1 ∧ gs_pl (gs_pass K s lf).2.1 ≤ gs_n K := by
    unfold gs_pass
    split
    · exact ⟨rfl, Nat.le_refl _, hp⟩
    · split
      · exact ⟨rfl, Nat.le_refl _, hp⟩
      · cases e : gs_blk K s with
        | ok w => exact gs_blk_pl e hp
        | error f => exact ⟨rfl, Nat.le_refl _, hp⟩
  exact X.of q3 g.1 q4 q5 g.2.1 g.2.2
theorem M_begin (hd : 3 ≤ d) (X : gr_X t K s lf) : gm_Ca E d 14 [.ref m] (gr_H h m t) (fun r h' => r = .inl (some (.int (gs_begin K).1)) ∧ ∃ t', h' = gr_H h m t' ∧ gr_X t' K ((gs_begin K).2.1, [], [], 0) (gs_begin K).2.2) := by
  refine gm_Ca.mono (m_begin hd X.2.1) (fun r h' q => ?_)
  obtain ⟨q1, t', q2, k, e0, q4, q5⟩ := q
  refine ⟨q1, t', q2, ?_⟩
  obtain ⟨L, B, C, W, P, l7, Hp, Hs, ⟨us, nd, n1, n2, n3, n4, n5⟩, N1, N2⟩ := X
  have e := k.sm
  have z : ∀ i, i ≤ 5 → t'.1 0 i = t.1 0 i := fun i a => k.2 0 i (fun _ => by omega)
  have hb : (gs_begin K).2.1 ≤ gs_n K := by
    unfold gs_begin
    split
    · exact Nat.zero_le _
    · split
      · exact Nat.zero_le _
      · show 4 ≤ gs_n K; omega
  refine ⟨⟨?_, ?_, ?_, ?_⟩, ⟨?_, B.2.1, ?_⟩, C.of e.2 e.1, W, ⟨q4, hb⟩, q5, ⟨0, e0.2.1, Nat.zero_le _, e0.1, Nat.zero_le _, fun i o ho => by simp [gs_hp] at ho⟩, ⟨e0.2.2.1, Nat.zero_le _, Nat.zero_le _, fun i q hi => absurd hi (Nat.not_lt_zero i)⟩, ⟨0, 0, e0.2.1, Nat.zero_le _, e0.2.2.2, Nat.zero_le _, gr_Z.nil⟩, Nat.zero_le _, Nat.zero_le _⟩
  · rw [z _ (by decide)]; exact L.1
  · rw [z _ (by decide)]; exact L.2.1
  · rw [z _ (by decide)]; exact L.2.2.1
  · rw [z _ (by decide)]; exact L.2.2.2
  · rw [z _ (by decide)]; exact B.1
  · intro i hi; rw [e.2 _ _ (by decide)]; exact B.2.2 i hi
theorem M_count {w : Int32} (X : gr_X t K s lf) : gm_Ca E d 50 [.ref m, .int w] (gr_H h m t) (gx_v (some (.int (gs_count K s lf w))) (gr_H h m t)) := by
  obtain ⟨L, B, C, W, P, l7, ⟨us, u1, u2, u3, u4, u5⟩, Hs, -⟩ := X
  have q := m_count (E := E) (d := d) (m := m) (h := h) (t := t) (w := w)
  rw [P.1, Hs.1, u3, l7, B.1] at q
  exact q
end MP
