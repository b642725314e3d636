/-! THE CLASS, 17: the data of an instance. -/
section Y8
variable {E : Nat → Value} {d x d0 dp : Nat} {h : gm_H} {ca : Nat → Nat} {K : gs_K} {F G : Nat → Prop} {s : gs_S} {rc : gs_M Int32}
/-- the instance o at t: of class c, as long as its slots -/
def gx_in (h : gm_H) (x : Nat) (K : gs_K) (s : gs_S) (o t c : Nat) : Prop := gm_fv h (x + 3) o = .ref t ∧ ∃ ob, (gs_hp s)[o]? = some ob ∧ ob.2.1 = some c ∧ ob.2.2.1.length = gs_slots K (some c)
theorem gx_in.mv {h1 : gm_H} {s1 : gs_S} {o t c : Nat} {G1 : Nat → Prop} (p : gx_in h x K s o t c) (R : gx_R E h x ca K F s) (R1 : gx_R E h1 x ca K F s1) (mv : gx_mv h h1 x G1 s) (le : gx_le s s1) (h1G : ¬ G1 t ∧ ¬ G1 (t + 1)) (hcs : (gs_cls K c).isSome = true) : gx_in h1 x K s1 o t c := by
  obtain ⟨p1, ob, p2, p3, p4⟩ := p
  have ho := (List.getElem?_eq_some_iff.mp p2).1
  have ho1 : o < (gs_hp s1).length := Nat.lt_of_lt_of_le ho le.1
  have f1 : gm_fv h1 (x + 3) o = .ref t := (mv.2.2.2.1 o ho).trans p1
  obtain ⟨t', e, o1, o2, q⟩ := R.thing p2
  rw [p1] at e
  cases e
  obtain ⟨-, -, q1⟩ := R1.hand ho1 f1
  have r0 : gm_rd h1 t = gm_rd h t := mv.1.2 t ⟨o1.1, o1.2.1, h1G.1⟩
  have r1 : gm_rd h1 (t + 1) = gm_rd h (t + 1) := mv.1.2 _ ⟨o2.1, o2.2.1, h1G.2⟩
  refine ⟨f1, _, List.getElem?_eq_getElem ho1, ?_, ?_⟩
  · have e1 := q1.2.2.1
    rw [gv_fv r0, q.2.2.1, p3] at e1
    cases hw : (gs_hp s1)[o].2.1 with
    | none => rw [hw] at e1; cases e1
    | some c' =>
      rw [hw] at e1
      have e1 : Value.ref (ca c) = .ref (ca c') := e1
      injection e1 with e1
      obtain ⟨C, hC⟩ := Option.isSome_iff_exists.mp hcs
      obtain ⟨C', hC'⟩ := Option.isSome_iff_exists.mp (R1.2.2.2.2.2.2.1 o _ c' (List.getElem?_eq_getElem ho1) hw)
      rw [R1.2.2.1.inj hC hC' e1]
  · have e1 := q1.2.2.2.2.2.2.2.1
    rw [gv_ln r1, q.2.2.2.2.2.2.2.1, p4] at e1
    exact e1.symm
theorem gm_k_ow {u : Option Nat} : gm_k (gx_ow ca u) = gx_ow ca u := by cases u <;> rfl
theorem gs_inch_slots {c c' : Nat} {Cc : gs_C} (hw : gs_wf K) : ∀ (m : Nat) (u : Option Nat), (∀ q, u = some q → q < m ∧ (gs_cls K q).isSome = true) → gs_inch K (some c) u = true → gs_cls K c = some Cc → gs_first K Cc + (gs_fs Cc).length ≤ gs_slots K u
  | _, none, _, h, _ => by cases h
  | 0, some q, hu, _, _ => absurd (hu q rfl).1 (by omega)
  | m + 1, some q, hu, h, hC => by
    obtain ⟨h1, h2⟩ := hu q rfl
    obtain ⟨Q, hQ⟩ := Option.isSome_iff_exists.mp h2
    rw [gs_inch_cons hw hQ] at h
    rw [gs_slots_cons hw hQ]
    by_cases e : q = c
    · subst e
      rw [hQ] at hC
      cases hC
      omega
    · have e2 : (some q == some c) = false := by simp [e]
      rw [e2, Bool.false_or] at h
      have := gs_inch_slots (c' := c') hw m (gs_sup Q) (fun r hr => ⟨by have := ((hw q Q hQ).2 r hr).1; omega, ((hw q Q hQ).2 r hr).2⟩) h hC
      unfold gs_first at this ⊢
      omega
theorem gs_sloti_of {Cc : gs_C} {q : Int32 × Int32} {tg : Option Nat} (e : tg.bind (gs_cls K) = some Cc) (hn : (gs_fs Cc).length ≤ 4) (hf : gs_first K Cc ≤ 24) : (gs_slot K tg q = none ∧ gs_sloti K Cc q.1 q.2 = -1) ∨ ∃ j, gs_slot K tg q = some j ∧ gs_sloti K Cc q.1 q.2 = nI j ∧ j < gs_first K Cc + (gs_fs Cc).length := by
  unfold gs_slot gs_sloti
  rw [e]
  dsimp only
  cases e2 : gs_ix (gs_fs Cc) q.1 with
  | none => exact Or.inl ⟨rfl, rfl⟩
  | some j =>
    have := gs_ix_lt e2
    dsimp only
    by_cases ht : ((gs_fs Cc).getD j (0, 0)).2 = q.2
    · rw [if_pos ht, if_pos ht]
      exact Or.inr ⟨_, rfl, rfl, by omega⟩
    · rw [if_neg ht, if_neg ht]
      exact Or.inl ⟨rfl, rfl⟩
theorem x_readData {o t c a : Nat} {Cc : gs_C} {l : gs_L} {L : List gs_L} (C : gx_RC E x ca K d0 (dp + 1) rc) (hK : gs_kok K) (hdp : dp < 1000) (hd : d0 + 2 ≤ d) (hd6 : 6 ≤ d) (R : gx_R E h x ca K F s) (hF : ∀ a, F a → a < h.1) (I : gx_in h x K s o t c) (hC : gs_cls K c = some Cc) (ds : gx_ds h x ca K F (l :: L) (.ref a)) (hG : G t ∧ G (t + 1)) (hGa : ∀ b, G b → b = t ∨ b = t + 1) :
    gm_Ca E d 92 [.ref x, .ref a, .ref t, .int (nI dp)] h (gx_P E h x ca K F G s (fun _ h' v => v = none ∧ ∀ s', gs_data K rc (some c) o l s = .ok ((), s') → gx_in h' x K s' o t c) (gs_data K rc (some c) o l s)) := by
  have hcs : (gs_cls K c).isSome = true := by rw [hC]; rfl
  have hw := R.2.2.1.wf
  have I' := I
  obtain ⟨i1, ob, i2, i3, i4⟩ := I'
  obtain ⟨t', et, ok1, ok2, q⟩ := R.thing i2
  rw [i1] at et
  cases et
  obtain ⟨q1, q2, q3, q4, q5, q6, q7, q8, q9, q10⟩ := q
  rw [i3] at q3
  have q3 : gm_fv h t 1 = .ref (ca c) := q3
  have ds' := ds
  obtain ⟨a', u, w, ea, o1, o2, o3, d1, d2, d3, d4, d5, d6, d7, d8, d9, d10, d11, d12, d13, d14, d15, d16, d17, d18, d19⟩ := ds'
  cases ea
  obtain ⟨-, -, -, kc, -⟩ := R.2.2.1.at hC
  have hns : ∀ b, (b = a ∨ b = u ∨ b = w) → ¬ (b = t ∨ b = t + 1) := by
    intro b hb z
    rcases hb with rfl | rfl | rfl <;> rcases z with rfl | rfl <;> omega
  show gm_W E d 92 0 [.ref x, .ref a, .ref t, .int (nI dp), gm_u, gm_u, gm_u, gm_u, gm_u, gm_u] [] h _
  simp only [r92_0, r92_0n, r92_1, r92_4, r92_4n, r92_5, r92_11, r92_14, r92_14n, r92_15, r92_18, r92_21, r92_22, r92_22n, r92_24, r92_25, r92_27, r92_29, r92_29n, r92_30, r92_33, r92_36, r92_36n, r92_37, r92_40, r92_42, r92_43, r92_45, r92_47, r92_49, r92_52, r92_52n, r92_53, r92_58, r92_61, r92_61n, r92_62, r92_63, r92_64, r92_68, r92_69, r92_71, r92_71n, r92_73n, r92_73, r92_76, r92_77, r92_80, r92_80n, r92_82, r92_82n, r92_83, r92_86, r92_88, r92_89, r92_94, r92_96, r92_98, r92_101, r92_103, r92_105, r92_108, r92_108n, r92_109, r92_111, r92_115, r92_118, r92_118n, r92_119, r92_124, r92_124a, r92_124n, r92_125, r92_125n, r92_126, r92_129, r92_131, r92_133, r92_134, r92_137, r92_140, r92_140n, r92_141, r92_145, r92_148, r92_148n, r92_150n, r92_150, r92_153, r92_153n, r92_155, r92_158, r92_159, r92_162, r92_162n, r92_163, r92_163n, r92_167, r92_167n, r92_168, r92_172, i32_10, reduceIte, gm_cmp1, gm_cmp3, gm_cmp4, gm_kd_sf, gm_ln_sf, gm_sf_1, gm_sf_2, gm_nw_1, gm_nw_2, gm_k_int, gm_k_ref, gm_k_null, gm_k_u, gm_k_long, and_true, true_and, true_or, or_true, or_false, false_or, and_self, or_self, if_true, if_false, List.map_nil, List.map_cons, List.sum_nil, List.sum_cons, Nat.zero_le, Option.toList_some, Option.toList_none, List.cons_append, List.nil_append, ne_eq, not_false_eq_true, not_true_eq_false, nI_1, nI_add, Value.category, Nat.reduceAdd, Nat.reduceMod, Nat.reduceLeDiff, Nat.reduceLT, Nat.reduceEqDiff, Nat.reducePow, Nat.le_refl, Nat.add_left_cancel_iff, Nat.add_eq_left, Nat.left_eq_add, Nat.add_zero, q1, q3, d1, d10]
  have eno : (gm_en1 [.ref (ca c), gx_ow ca (gs_own l)]).length ≤ 3 := by
    cases gs_own l <;> simp [gx_ow, gm_en1]
  refine c92_8 (by simp) eno kc (by omega) (x_chainHas R.2.2.1 hC (fun c' e => (d17 c' e).2)) (gx_kn ?_) gx_kx
  obtain ⟨res, hres⟩ : ∃ res, res = gs_data K rc (some c) o l s := ⟨_, rfl⟩
  rw [← hres]
  unfold gs_data at hres
  obtain ⟨tg, htg⟩ : ∃ tg, tg = (if gs_inch K (gs_own l) (some c) = true then gs_own l else none) := ⟨_, rfl⟩
  rw [← htg] at hres
  -- the target: a class of the chain, or none
  have htgs : tg = none ∨ ∃ c' C', tg = some c' ∧ gs_cls K c' = some C' ∧ gs_first K C' + (gs_fs C').length ≤ gs_slots K (some c) := by
    by_cases hi : gs_inch K (gs_own l) (some c) = true
    · rw [if_pos hi] at htg
      cases how : gs_own l with
      | none => rw [how] at htg; exact Or.inl htg
      | some c' =>
        rw [how] at htg hi
        obtain ⟨C', hC'⟩ := Option.isSome_iff_exists.mp (d17 c' how).2
        exact Or.inr ⟨c', C', htg, hC', gs_inch_slots (c' := c') hw 6 (some c) (fun q e => by cases e; exact ⟨(hw c Cc hC).1, hcs⟩) hi hC'⟩
    · rw [if_neg hi] at htg; exact Or.inl htg
  have main : gm_W E d 92 27 [.ref x, .ref a, .ref t, .int (nI dp), gx_ow ca tg, .int (nI 0), gm_u, gm_u, gm_u, gm_u] [] h (gx_P E h x ca K F G s (fun _ h' v => v = none ∧ ∀ s', res = .ok ((), s') → gx_in h' x K s' o t c) res) := by
    have hG1 : ∀ b, (fun _ : Nat => False) b → h.1 ≤ b ∨ G b := fun _ z => z.elim
    -- behind the fields
    have last : ∀ (sk : gs_S) (hk : gm_H) (w5 w6 w7 w8 w9 : Value), gx_R E hk x ca K F sk → (∀ a, F a → a < hk.1) → gx_in hk x K sk o t c → gx_ds hk x ca K F (l :: L) (.ref a) → gx_st h s x G hk sk → res = (if gs_fl l &&& 1 = 0 then gs_r () else gs_b (if (tg.bind (gs_cls K)).any (fun C => gs_kind C == 2) = true then gs_extra K o else gs_r ()) fun _ => gs_rest K rc 701) sk →
        gm_W E d 92 140 [.ref x, .ref a, .ref t, .int (nI dp), gx_ow ca tg, w5, w6, w7, w8, w9] [] hk (gx_P E h x ca K F G s (fun _ h' v => v = none ∧ ∀ s', res = .ok ((), s') → gx_in h' x K s' o t c) res) := by
      intro sk hk w5 w6 w7 w8 w9 Rk hFk Ik dk stk hr
      obtain ⟨a', _, _, ea, -, -, -, k1, -, -, -, f3, -⟩ := dk
      cases ea
      simp only [r92_0, r92_0n, r92_1, r92_4, r92_4n, r92_5, r92_11, r92_14, r92_14n, r92_15, r92_18, r92_21, r92_22, r92_22n, r92_24, r92_25, r92_27, r92_29, r92_29n, r92_30, r92_33, r92_36, r92_36n, r92_37, r92_40, r92_42, r92_43, r92_45, r92_47, r92_49, r92_52, r92_52n, r92_53, r92_58, r92_61, r92_61n, r92_62, r92_63, r92_64, r92_68, r92_69, r92_71, r92_71n, r92_73n, r92_73, r92_76, r92_77, r92_80, r92_80n, r92_82, r92_82n, r92_83, r92_86, r92_88, r92_89, r92_94, r92_96, r92_98, r92_101, r92_103, r92_105, r92_108, r92_108n, r92_109, r92_111, r92_115, r92_118, r92_118n, r92_119, r92_124, r92_124a, r92_124n, r92_125, r92_125n, r92_126, r92_129, r92_131, r92_133, r92_134, r92_137, r92_140, r92_140n, r92_141, r92_145, r92_148, r92_148n, r92_150n, r92_150, r92_153, r92_153n, r92_155, r92_158, r92_159, r92_162, r92_162n, r92_163, r92_163n, r92_167, r92_167n, r92_168, r92_172, i32_10, reduceIte, gm_cmp1, gm_cmp3, gm_cmp4, gm_kd_sf, gm_ln_sf, gm_sf_1, gm_sf_2, gm_nw_1, gm_nw_2, gm_k_int, gm_k_ref, gm_k_null, gm_k_u, gm_k_long, and_true, true_and, true_or, or_true, or_false, false_or, and_self, or_self, if_true, if_false, List.map_nil, List.map_cons, List.sum_nil, List.sum_cons, Nat.zero_le, Option.toList_some, Option.toList_none, List.cons_append, List.nil_append, ne_eq, not_false_eq_true, not_true_eq_false, nI_1, nI_add, Value.category, Nat.reduceAdd, Nat.reduceMod, Nat.reduceLeDiff, Nat.reduceLT, Nat.reduceEqDiff, Nat.reducePow, Nat.le_refl, Nat.add_left_cancel_iff, Nat.add_eq_left, Nat.left_eq_add, Nat.add_zero]
      refine c92_142 (by simp) k1 (by omega) (x_has k1 f3) (gx_kn ?_) gx_kx
      by_cases g1 : gs_fl l &&& 1 = 0
      · rw [if_pos g1] at hr
        simp only [r92_0, r92_0n, r92_1, r92_4, r92_4n, r92_5, r92_11, r92_14, r92_14n, r92_15, r92_18, r92_21, r92_22, r92_22n, r92_24, r92_25, r92_27, r92_29, r92_29n, r92_30, r92_33, r92_36, r92_36n, r92_37, r92_40, r92_42, r92_43, r92_45, r92_47, r92_49, r92_52, r92_52n, r92_53, r92_58, r92_61, r92_61n, r92_62, r92_63, r92_64, r92_68, r92_69, r92_71, r92_71n, r92_73n, r92_73, r92_76, r92_77, r92_80, r92_80n, r92_82, r92_82n, r92_83, r92_86, r92_88, r92_89, r92_94, r92_96, r92_98, r92_101, r92_103, r92_105, r92_108, r92_108n, r92_109, r92_111, r92_115, r92_118, r92_118n, r92_119, r92_124, r92_124a, r92_124n, r92_125, r92_125n, r92_126, r92_129, r92_131, r92_133, r92_134, r92_137, r92_140, r92_140n, r92_141, r92_145, r92_148, r92_148n, r92_150n, r92_150, r92_153, r92_153n, r92_155, r92_158, r92_159, r92_162, r92_162n, r92_163, r92_163n, r92_167, r92_167n, r92_168, r92_172, i32_10, reduceIte, gm_cmp1, gm_cmp3, gm_cmp4, gm_kd_sf, gm_ln_sf, gm_sf_1, gm_sf_2, gm_nw_1, gm_nw_2, gm_k_int, gm_k_ref, gm_k_null, gm_k_u, gm_k_long, and_true, true_and, true_or, or_true, or_false, false_or, and_self, or_self, if_true, if_false, List.map_nil, List.map_cons, List.sum_nil, List.sum_cons, Nat.zero_le, Option.toList_some, Option.toList_none, List.cons_append, List.nil_append, ne_eq, not_false_eq_true, not_true_eq_false, nI_1, nI_add, Value.category, Nat.reduceAdd, Nat.reduceMod, Nat.reduceLeDiff, Nat.reduceLT, Nat.reduceEqDiff, Nat.reducePow, Nat.le_refl, Nat.add_left_cancel_iff, Nat.add_eq_left, Nat.left_eq_add, Nat.add_zero, g1]
        rw [hr]
        exact ⟨(), sk, rfl, ⟨rfl, fun s' e => by cases e; exact Ik⟩, Rk, stk.1, stk.2.1, stk.2.2⟩
      rw [if_neg g1] at hr
      have rest : ∀ (s2 : gs_S) (h2 : gm_H), gx_R E h2 x ca K F s2 → (∀ a, F a → a < h2.1) → gx_in h2 x K s2 o t c → gx_st h s x G h2 s2 → res = gs_rest K rc 701 s2 → gm_W E d 92 167 [.ref x, .ref a, .ref t, .int (nI dp), gx_ow ca tg, w5, w6, w7, w8, w9] [] h2 (gx_P E h x ca K F G s (fun _ h' v => v = none ∧ ∀ s', res = .ok ((), s') → gx_in h' x K s' o t c) res) := by
        intro s2 h2 R2 hF2 I2 st2 hr2
        simp only [r92_0, r92_0n, r92_1, r92_4, r92_4n, r92_5, r92_11, r92_14, r92_14n, r92_15, r92_18, r92_21, r92_22, r92_22n, r92_24, r92_25, r92_27, r92_29, r92_29n, r92_30, r92_33, r92_36, r92_36n, r92_37, r92_40, r92_42, r92_43, r92_45, r92_47, r92_49, r92_52, r92_52n, r92_53, r92_58, r92_61, r92_61n, r92_62, r92_63, r92_64, r92_68, r92_69, r92_71, r92_71n, r92_73n, r92_73, r92_76, r92_77, r92_80, r92_80n, r92_82, r92_82n, r92_83, r92_86, r92_88, r92_89, r92_94, r92_96, r92_98, r92_101, r92_103, r92_105, r92_108, r92_108n, r92_109, r92_111, r92_115, r92_118, r92_118n, r92_119, r92_124, r92_124a, r92_124n, r92_125, r92_125n, r92_126, r92_129, r92_131, r92_133, r92_134, r92_137, r92_140, r92_140n, r92_141, r92_145, r92_148, r92_148n, r92_150n, r92_150, r92_153, r92_153n, r92_155, r92_158, r92_159, r92_162, r92_162n, r92_163, r92_163n, r92_167, r92_167n, r92_168, r92_172, i32_10, reduceIte, gm_cmp1, gm_cmp3, gm_cmp4, gm_kd_sf, gm_ln_sf, gm_sf_1, gm_sf_2, gm_nw_1, gm_nw_2, gm_k_int, gm_k_ref, gm_k_null, gm_k_u, gm_k_long, and_true, true_and, true_or, or_true, or_false, false_or, and_self, or_self, if_true, if_false, List.map_nil, List.map_cons, List.sum_nil, List.sum_cons, Nat.zero_le, Option.toList_some, Option.toList_none, List.cons_append, List.nil_append, ne_eq, not_false_eq_true, not_true_eq_false, nI_1, nI_add, Value.category, Nat.reduceAdd, Nat.reduceMod, Nat.reduceLeDiff, Nat.reduceLT, Nat.reduceEqDiff, Nat.reducePow, Nat.le_refl, Nat.add_left_cancel_iff, Nat.add_eq_left, Nat.left_eq_add, Nat.add_zero]
        refine c92_169 (by simp) R2.1.1 (by omega) (x_passRest (G := fun _ => False) C hK.1 hdp (by omega) (by omega) R2 hF2) (fun v h3 q => ?_) (fun _ _ q => q.er (fun f e => by rw [hr2]; exact e) st2 hG1)
        obtain ⟨_, s3, e3, rfl, R3, mv3, le3, co3⟩ := q
        have st3 := st2.trans mv3 le3 co3 hG1
        simp only [r92_0, r92_0n, r92_1, r92_4, r92_4n, r92_5, r92_11, r92_14, r92_14n, r92_15, r92_18, r92_21, r92_22, r92_22n, r92_24, r92_25, r92_27, r92_29, r92_29n, r92_30, r92_33, r92_36, r92_36n, r92_37, r92_40, r92_42, r92_43, r92_45, r92_47, r92_49, r92_52, r92_52n, r92_53, r92_58, r92_61, r92_61n, r92_62, r92_63, r92_64, r92_68, r92_69, r92_71, r92_71n, r92_73n, r92_73, r92_76, r92_77, r92_80, r92_80n, r92_82, r92_82n, r92_83, r92_86, r92_88, r92_89, r92_94, r92_96, r92_98, r92_101, r92_103, r92_105, r92_108, r92_108n, r92_109, r92_111, r92_115, r92_118, r92_118n, r92_119, r92_124, r92_124a, r92_124n, r92_125, r92_125n, r92_126, r92_129, r92_131, r92_133, r92_134, r92_137, r92_140, r92_140n, r92_141, r92_145, r92_148, r92_148n, r92_150n, r92_150, r92_153, r92_153n, r92_155, r92_158, r92_159, r92_162, r92_162n, r92_163, r92_163n, r92_167, r92_167n, r92_168, r92_172, i32_10, reduceIte, gm_cmp1, gm_cmp3, gm_cmp4, gm_kd_sf, gm_ln_sf, gm_sf_1, gm_sf_2, gm_nw_1, gm_nw_2, gm_k_int, gm_k_ref, gm_k_null, gm_k_u, gm_k_long, and_true, true_and, true_or, or_true, or_false, false_or, and_self, or_self, if_true, if_false, List.map_nil, List.map_cons, List.sum_nil, List.sum_cons, Nat.zero_le, Option.toList_some, Option.toList_none, List.cons_append, List.nil_append, ne_eq, not_false_eq_true, not_true_eq_false, nI_1, nI_add, Value.category, Nat.reduceAdd, Nat.reduceMod, Nat.reduceLeDiff, Nat.reduceLT, Nat.reduceEqDiff, Nat.reducePow, Nat.le_refl, Nat.add_left_cancel_iff, Nat.add_eq_left, Nat.left_eq_add, Nat.add_zero]
        rw [hr2]
        exact ⟨(), s3, e3, ⟨rfl, fun s' e => by rw [e3] at e; cases e; exact I2.mv R2 R3 mv3 le3 ⟨fun z => z, fun z => z⟩ hcs⟩, R3, st3.1, st3.2.1, st3.2.2⟩
      rcases htgs with e0 | ⟨c', C', e0, hC', hle⟩
      · have rst := rest sk hk Rk hFk Ik stk (by rw [hr, e0]; rfl)
        rw [e0] at rst ⊢
        simp only [r92_0, r92_0n, r92_1, r92_4, r92_4n, r92_5, r92_11, r92_14, r92_14n, r92_15, r92_18, r92_21, r92_22, r92_22n, r92_24, r92_25, r92_27, r92_29, r92_29n, r92_30, r92_33, r92_36, r92_36n, r92_37, r92_40, r92_42, r92_43, r92_45, r92_47, r92_49, r92_52, r92_52n, r92_53, r92_58, r92_61, r92_61n, r92_62, r92_63, r92_64, r92_68, r92_69, r92_71, r92_71n, r92_73n, r92_73, r92_76, r92_77, r92_80, r92_80n, r92_82, r92_82n, r92_83, r92_86, r92_88, r92_89, r92_94, r92_96, r92_98, r92_101, r92_103, r92_105, r92_108, r92_108n, r92_109, r92_111, r92_115, r92_118, r92_118n, r92_119, r92_124, r92_124a, r92_124n, r92_125, r92_125n, r92_126, r92_129, r92_131, r92_133, r92_134, r92_137, r92_140, r92_140n, r92_141, r92_145, r92_148, r92_148n, r92_150n, r92_150, r92_153, r92_153n, r92_155, r92_158, r92_159, r92_162, r92_162n, r92_163, r92_163n, r92_168, r92_172, i32_10, reduceIte, gm_cmp1, gm_cmp3, gm_cmp4, gm_kd_sf, gm_ln_sf, gm_sf_1, gm_sf_2, gm_nw_1, gm_nw_2, gm_k_int, gm_k_ref, gm_k_null, gm_k_u, gm_k_long, and_true, true_and, true_or, or_true, or_false, false_or, and_self, or_self, if_true, if_false, List.map_nil, List.map_cons, List.sum_nil, List.sum_cons, Nat.zero_le, Option.toList_some, Option.toList_none, List.cons_append, List.nil_append, ne_eq, not_false_eq_true, not_true_eq_false, nI_1, nI_add, Value.category, Nat.reduceAdd, Nat.reduceMod, Nat.reduceLeDiff, Nat.reduceLT, Nat.reduceEqDiff, Nat.reducePow, Nat.le_refl, Nat.add_left_cancel_iff, Nat.add_eq_left, Nat.left_eq_add, Nat.add_zero, g1, gx_ow] at rst ⊢
        exact rst
      · obtain ⟨-, -, -, kc', -, fk', -⟩ := Rk.2.2.1.at hC'
        by_cases k2 : gs_kind C' = 2
        · have hr' : res = gs_b (gs_extra K o) (fun _ => gs_rest K rc 701) sk := by
            rw [hr, e0]
            simp [hC', k2]
          have Ik' := Ik
          obtain ⟨j1, obk, j2, j3, j4⟩ := Ik'
          rw [e0]
          have rest' := rest
          rw [e0] at rest'
          simp only [r92_0, r92_0n, r92_1, r92_4, r92_4n, r92_5, r92_11, r92_14, r92_14n, r92_15, r92_18, r92_21, r92_22, r92_22n, r92_24, r92_25, r92_27, r92_29, r92_29n, r92_30, r92_33, r92_36, r92_36n, r92_37, r92_40, r92_42, r92_43, r92_45, r92_47, r92_49, r92_52, r92_52n, r92_53, r92_58, r92_61, r92_61n, r92_62, r92_63, r92_64, r92_68, r92_69, r92_71, r92_71n, r92_73n, r92_73, r92_76, r92_77, r92_80, r92_80n, r92_82, r92_82n, r92_83, r92_86, r92_88, r92_89, r92_94, r92_96, r92_98, r92_101, r92_103, r92_105, r92_108, r92_108n, r92_109, r92_111, r92_115, r92_118, r92_118n, r92_119, r92_124, r92_124a, r92_124n, r92_125, r92_125n, r92_126, r92_129, r92_131, r92_133, r92_134, r92_137, r92_140, r92_140n, r92_141, r92_145, r92_148, r92_148n, r92_150n, r92_150, r92_153, r92_153n, r92_155, r92_158, r92_159, r92_162, r92_162n, r92_163, r92_163n, r92_168, r92_172, i32_10, reduceIte, gm_cmp1, gm_cmp3, gm_cmp4, gm_kd_sf, gm_ln_sf, gm_sf_1, gm_sf_2, gm_nw_1, gm_nw_2, gm_k_int, gm_k_ref, gm_k_null, gm_k_u, gm_k_long, and_true, true_and, true_or, or_true, or_false, false_or, and_self, or_self, if_true, if_false, List.map_nil, List.map_cons, List.sum_nil, List.sum_cons, Nat.zero_le, Option.toList_some, Option.toList_none, List.cons_append, List.nil_append, ne_eq, not_false_eq_true, not_true_eq_false, nI_1, nI_add, Value.category, Nat.reduceAdd, Nat.reduceMod, Nat.reduceLeDiff, Nat.reduceLT, Nat.reduceEqDiff, Nat.reducePow, Nat.le_refl, Nat.add_left_cancel_iff, Nat.add_eq_left, Nat.left_eq_add, Nat.add_zero, g1, gx_ow, kc', fk', k2] at rest' ⊢
          refine c92_164 (by simp) (by simp [gm_en1]) Rk.1.1 (by omega) (x_takeExtra (G := G) (by omega) Rk j2 j1 hG.1) (fun v h2 q => ?_) (fun _ _ q => q.er (fun f e => by rw [hr']; exact gs_b_er e) stk (fun _ z => Or.inr z))
          obtain ⟨_, s2, e2, ⟨rfl, na2⟩, R2, mv2, le2, co2⟩ := q
          rw [gs_b_ok e2] at hr'
          have I2 : gx_in h2 x K s2 o t c := by
            refine ⟨(mv2.2.2.2.1 o (List.getElem?_eq_some_iff.mp j2).1).trans j1, ?_⟩
            unfold gs_extra at e2
            split at e2
            · cases e2; exact ⟨obk, j2, j3, j4⟩
            · split at e2
              · cases e2; exact ⟨obk, j2, j3, j4⟩
              · split at e2
                · cases e2; exact ⟨obk, j2, j3, j4⟩
                · cases e2
                  refine ⟨_, by rw [gs_hp]; simp only [List.getElem?_modify, j2]; rfl, ?_, ?_⟩
                  · simp [j3]
                  · simp [j4]
          exact rest' s2 h2 R2 (fun b z => by have := hFk b z; have := mv2.1.1; omega) I2 (stk.trans mv2 le2 co2 (fun _ z => Or.inr z)) hr'
        · have rst := rest sk hk Rk hFk Ik stk (by rw [hr, e0]; simp [hC', k2]; rfl)
          rw [e0] at rst ⊢
          simp only [r92_0, r92_0n, r92_1, r92_4, r92_4n, r92_5, r92_11, r92_14, r92_14n, r92_15, r92_18, r92_21, r92_22, r92_22n, r92_24, r92_25, r92_27, r92_29, r92_29n, r92_30, r92_33, r92_36, r92_36n, r92_37, r92_40, r92_42, r92_43, r92_45, r92_47, r92_49, r92_52, r92_52n, r92_53, r92_58, r92_61, r92_61n, r92_62, r92_63, r92_64, r92_68, r92_69, r92_71, r92_71n, r92_73n, r92_73, r92_76, r92_77, r92_80, r92_80n, r92_82, r92_82n, r92_83, r92_86, r92_88, r92_89, r92_94, r92_96, r92_98, r92_101, r92_103, r92_105, r92_108, r92_108n, r92_109, r92_111, r92_115, r92_118, r92_118n, r92_119, r92_124, r92_124a, r92_124n, r92_125, r92_125n, r92_126, r92_129, r92_131, r92_133, r92_134, r92_137, r92_140, r92_140n, r92_141, r92_145, r92_148, r92_148n, r92_150n, r92_150, r92_153, r92_153n, r92_155, r92_158, r92_159, r92_162, r92_162n, r92_163, r92_163n, r92_168, r92_172, i32_10, reduceIte, gm_cmp1, gm_cmp3, gm_cmp4, gm_kd_sf, gm_ln_sf, gm_sf_1, gm_sf_2, gm_nw_1, gm_nw_2, gm_k_int, gm_k_ref, gm_k_null, gm_k_u, gm_k_long, and_true, true_and, true_or, or_true, or_false, false_or, and_self, or_self, if_true, if_false, List.map_nil, List.map_cons, List.sum_nil, List.sum_cons, Nat.zero_le, Option.toList_some, Option.toList_none, List.cons_append, List.nil_append, ne_eq, not_false_eq_true, not_true_eq_false, nI_1, nI_add, Value.category, Nat.reduceAdd, Nat.reduceMod, Nat.reduceLeDiff, Nat.reduceLT, Nat.reduceEqDiff, Nat.reducePow, Nat.le_refl, Nat.add_left_cancel_iff, Nat.add_eq_left, Nat.left_eq_add, Nat.add_zero, g1, gx_ow, kc', fk', k2] at rst ⊢
          exact rst
    obtain ⟨RST, hRST⟩ : ∃ RST : gs_M Unit, RST = (if gs_fl l &&& 1 = 0 then gs_r () else gs_b (if (tg.bind (gs_cls K)).any (fun C => gs_kind C == 2) = true then gs_extra K o else gs_r ()) fun _ => gs_rest K rc 701) := ⟨_, rfl⟩
    rw [← hRST] at last
    rw [← hRST] at hres
    have loop : ∀ (m k : Nat) (sk : gs_S) (hk : gm_H) (w6 w7 w8 w9 : Value), k + m = (gs_df l).length → gx_R E hk x ca K F sk → (∀ a, F a → a < hk.1) → gx_in hk x K sk o t c → gx_ds hk x ca K F (l :: L) (.ref a) → gx_st h s x G hk sk → res = gs_b (gs_vals K rc tg o ((gs_df l).drop k)) (fun _ => RST) sk →
        gm_W E d 92 27 [.ref x, .ref a, .ref t, .int (nI dp), gx_ow ca tg, .int (nI k), w6, w7, w8, w9] [] hk (gx_P E h x ca K F G s (fun _ h' v => v = none ∧ ∀ s', res = .ok ((), s') → gx_in h' x K s' o t c) res) := by
      intro m
      induction m with
      | zero =>
        intro k sk hk w6 w7 w8 w9 hkm Rk hFk Ik dk stk hr
        have hkm : k = (gs_df l).length := by omega
        subst hkm
        have la := last sk hk (.int (nI (gs_df l).length)) w6 w7 w8 w9 Rk hFk Ik dk stk (by rw [hr, List.drop_length]; rfl)
        obtain ⟨a', _, _, ea, -, -, -, k1, -, -, -, -, f4, -, -, -, -, -, -, -, -, l8, -⟩ := dk
        cases ea
        simp only [r92_0, r92_0n, r92_1, r92_4, r92_4n, r92_5, r92_11, r92_14, r92_14n, r92_15, r92_18, r92_21, r92_22, r92_22n, r92_24, r92_25, r92_27, r92_29, r92_29n, r92_30, r92_33, r92_36, r92_36n, r92_37, r92_40, r92_42, r92_43, r92_45, r92_47, r92_49, r92_52, r92_52n, r92_53, r92_58, r92_61, r92_61n, r92_62, r92_63, r92_64, r92_68, r92_69, r92_71, r92_71n, r92_73n, r92_73, r92_76, r92_77, r92_80, r92_80n, r92_82, r92_82n, r92_83, r92_86, r92_88, r92_89, r92_94, r92_96, r92_98, r92_101, r92_103, r92_105, r92_108, r92_108n, r92_109, r92_111, r92_115, r92_118, r92_118n, r92_119, r92_124, r92_124a, r92_124n, r92_125, r92_125n, r92_126, r92_129, r92_131, r92_133, r92_134, r92_137, r92_141, r92_145, r92_148, r92_148n, r92_150n, r92_150, r92_153, r92_153n, r92_155, r92_158, r92_159, r92_162, r92_162n, r92_163, r92_163n, r92_167, r92_167n, r92_168, r92_172, i32_10, reduceIte, gm_cmp1, gm_cmp3, gm_cmp4, gm_kd_sf, gm_ln_sf, gm_sf_1, gm_sf_2, gm_nw_1, gm_nw_2, gm_k_int, gm_k_ref, gm_k_null, gm_k_u, gm_k_long, and_true, true_and, true_or, or_true, or_false, false_or, and_self, or_self, if_true, if_false, List.map_nil, List.map_cons, List.sum_nil, List.sum_cons, Nat.zero_le, Option.toList_some, Option.toList_none, List.cons_append, List.nil_append, ne_eq, not_false_eq_true, not_true_eq_false, nI_1, nI_add, Value.category, Nat.reduceAdd, Nat.reduceMod, Nat.reduceLeDiff, Nat.reduceLT, Nat.reduceEqDiff, Nat.reducePow, Nat.le_refl, Nat.add_left_cancel_iff, Nat.add_eq_left, Nat.left_eq_add, Nat.add_zero, k1, f4, nI_leT (Nat.le_refl (gs_df l).length) (show (gs_df l).length < 2 ^ 31 by omega)]
        exact la
      | succ m ih =>
        intro k sk hk w6 w7 w8 w9 hkm Rk hFk Ik dk stk hr
        have hkl : k < (gs_df l).length := by omega
        have dk' := dk
        obtain ⟨a', uk, wk, ea, p1, p2, p3, k1, f0, f1, f2, f3, f4, f5, f6, f8, f9, ku, lu, kw, lw, l8, nfl, own, ent, abv⟩ := dk'
        cases ea
        obtain ⟨n1, n2, n3, n4⟩ := ent k _ (List.getElem?_eq_getElem hkl)
        obtain ⟨q, hq⟩ : ∃ q, q = (gs_df l)[k] := ⟨_, rfl⟩
        rw [← hq] at n1 n2 n3 n4
        obtain ⟨i, hi, e2⟩ := nI_of (Int32.not_lt.mpr n3)
        have hi8 : i < 8 := by rw [e2] at n4; exact (nI_ltI (b := 8) hi (by decide)).mp n4
        have hl31 : (gs_df l).length < 2147483648 := by omega
        have hdrop : (gs_df l).drop k = q :: (gs_df l).drop (k + 1) := by rw [hq]; exact List.drop_eq_getElem_cons hkl
        rw [hdrop] at hr
        -- behind the value
        have tail : ∀ (v : Int64) (s1 : gs_S) (h1 : gm_H) (w7 w8 w9 : Value), gx_R E h1 x ca K F s1 → (∀ a, F a → a < h1.1) → gx_in h1 x K s1 o t c → gx_ds h1 x ca K F (l :: L) (.ref a) → gx_st h s x G h1 s1 → res = gs_b (gs_b (gs_wrt K tg o q v) (fun _ => gs_vals K rc tg o ((gs_df l).drop (k + 1)))) (fun _ => RST) s1 →
            gm_W E d 92 69 [.ref x, .ref a, .ref t, .int (nI dp), gx_ow ca tg, .int (nI k), .int (nI i), w7, w8, w9] [.long v] h1 (gx_P E h x ca K F G s (fun _ h' v => v = none ∧ ∀ s', res = .ok ((), s') → gx_in h' x K s' o t c) res) := by
          intro v s1 h1 w7 w8 w9 R1 hF1 I1 ds1 st1 hr1
          have nx : ∀ (s2 : gs_S) (h2 : gm_H) (w9 : Value), gx_R E h2 x ca K F s2 → (∀ a, F a → a < h2.1) → gx_in h2 x K s2 o t c → gx_ds h2 x ca K F (l :: L) (.ref a) → gx_st h s x G h2 s2 → gs_wrt K tg o q v s1 = .ok ((), s2) → gm_W E d 92 134 [.ref x, .ref a, .ref t, .int (nI dp), gx_ow ca tg, .int (nI k), .int (nI i), .long v, gm_u, w9] [] h2 (gx_P E h x ca K F G s (fun _ h' v => v = none ∧ ∀ s', res = .ok ((), s') → gx_in h' x K s' o t c) res) := by
            intro s2 h2 w9 R2 hF2 I2 ds2 st2 e
            simp only [r92_0, r92_0n, r92_1, r92_4, r92_4n, r92_5, r92_11, r92_14, r92_14n, r92_15, r92_18, r92_21, r92_22, r92_22n, r92_24, r92_25, r92_29, r92_29n, r92_30, r92_33, r92_36, r92_36n, r92_37, r92_40, r92_42, r92_43, r92_45, r92_47, r92_49, r92_52, r92_52n, r92_53, r92_58, r92_61, r92_61n, r92_62, r92_63, r92_64, r92_68, r92_69, r92_71, r92_71n, r92_73n, r92_73, r92_76, r92_77, r92_80, r92_80n, r92_82, r92_82n, r92_83, r92_86, r92_88, r92_89, r92_94, r92_96, r92_98, r92_101, r92_103, r92_105, r92_108, r92_108n, r92_109, r92_111, r92_115, r92_118, r92_118n, r92_119, r92_124, r92_124a, r92_124n, r92_125, r92_125n, r92_126, r92_129, r92_131, r92_133, r92_134, r92_137, r92_140, r92_140n, r92_141, r92_145, r92_148, r92_148n, r92_150n, r92_150, r92_153, r92_153n, r92_155, r92_158, r92_159, r92_162, r92_162n, r92_163, r92_163n, r92_167, r92_167n, r92_168, r92_172, i32_10, reduceIte, gm_cmp1, gm_cmp3, gm_cmp4, gm_kd_sf, gm_ln_sf, gm_sf_1, gm_sf_2, gm_nw_1, gm_nw_2, gm_k_int, gm_k_ref, gm_k_null, gm_k_u, gm_k_long, and_true, true_and, true_or, or_true, or_false, false_or, and_self, or_self, if_true, if_false, List.map_nil, List.map_cons, List.sum_nil, List.sum_cons, Nat.zero_le, Option.toList_some, Option.toList_none, List.cons_append, List.nil_append, ne_eq, not_false_eq_true, not_true_eq_false, nI_1, nI_add, Value.category, Nat.reduceAdd, Nat.reduceMod, Nat.reduceLeDiff, Nat.reduceLT, Nat.reduceEqDiff, Nat.reducePow, Nat.le_refl, Nat.add_left_cancel_iff, Nat.add_eq_left, Nat.left_eq_add, Nat.add_zero, gm_k_ow]
            refine ih (k + 1) s2 h2 _ _ _ _ (by omega) R2 hF2 I2 ds2 st2 ?_
            rw [hr1]
            exact gs_b_cg (gs_b_ok e)
          rcases htgs with e0 | ⟨c', C', e0, hC', hle⟩
          · have ew : gs_wrt K tg o q v s1 = .ok ((), s1) := by
              unfold gs_wrt gs_slot
              rw [e0]
              rfl
            have nx' := nx s1 h1 (.int (-1)) R1 hF1 I1 ds1 st1 ew
            rw [e0] at nx' ⊢
            have m1 : (-1 : Int32) < 0 := by decide
            simp only [r92_0, r92_0n, r92_1, r92_4, r92_4n, r92_5, r92_11, r92_14, r92_14n, r92_15, r92_18, r92_21, r92_22, r92_22n, r92_24, r92_25, r92_27, r92_29, r92_29n, r92_30, r92_33, r92_36, r92_36n, r92_37, r92_40, r92_42, r92_43, r92_45, r92_47, r92_49, r92_52, r92_52n, r92_53, r92_58, r92_61, r92_61n, r92_62, r92_63, r92_64, r92_68, r92_69, r92_71, r92_71n, r92_73n, r92_73, r92_76, r92_77, r92_80, r92_80n, r92_82, r92_82n, r92_83, r92_86, r92_88, r92_89, r92_94, r92_96, r92_98, r92_101, r92_103, r92_105, r92_108, r92_108n, r92_109, r92_111, r92_115, r92_118, r92_118n, r92_119, r92_124, r92_124a, r92_124n, r92_125, r92_125n, r92_126, r92_129, r92_131, r92_133, r92_137, r92_140, r92_140n, r92_141, r92_145, r92_148, r92_148n, r92_150n, r92_150, r92_153, r92_153n, r92_155, r92_158, r92_159, r92_162, r92_162n, r92_163, r92_163n, r92_167, r92_167n, r92_168, r92_172, i32_10, reduceIte, gm_cmp1, gm_cmp3, gm_cmp4, gm_kd_sf, gm_ln_sf, gm_sf_1, gm_sf_2, gm_nw_1, gm_nw_2, gm_k_int, gm_k_ref, gm_k_null, gm_k_u, gm_k_long, and_true, true_and, true_or, or_true, or_false, false_or, and_self, or_self, if_true, if_false, List.map_nil, List.map_cons, List.sum_nil, List.sum_cons, Nat.zero_le, Option.toList_some, Option.toList_none, List.cons_append, List.nil_append, ne_eq, not_false_eq_true, not_true_eq_false, nI_1, nI_add, Value.category, Nat.reduceAdd, Nat.reduceMod, Nat.reduceLeDiff, Nat.reduceLT, Nat.reduceEqDiff, Nat.reducePow, Nat.le_refl, Nat.add_left_cancel_iff, Nat.add_eq_left, Nat.left_eq_add, Nat.add_zero, gx_ow, m1] at nx' ⊢
            exact nx'
          · have ds1' := ds1
            obtain ⟨a', u1, v1, ea, -, -, -, k11, -, -, -, -, -, f15, f16, -, -, ku1, lu1, -, -, -, -, -, ent1, -⟩ := ds1'
            cases ea
            obtain ⟨m1, -, -, -⟩ := ent1 k _ (List.getElem?_eq_getElem hkl)
            rw [← hq] at m1
            obtain ⟨-, -, -, kc', -⟩ := R1.2.2.1.at hC'
            have l4 := R1.2.2.1.le4 hC'
            have h24 : gs_slots K (some c) ≤ 24 := R1.2.2.1.slots
            rw [e0]
            rw [e0] at nx
            have eb : (some c').bind (gs_cls K) = some C' := hC'
            simp only [r92_0, r92_0n, r92_1, r92_4, r92_4n, r92_5, r92_11, r92_14, r92_14n, r92_15, r92_18, r92_21, r92_22, r92_22n, r92_24, r92_25, r92_27, r92_29, r92_29n, r92_30, r92_33, r92_36, r92_36n, r92_37, r92_40, r92_42, r92_43, r92_45, r92_47, r92_49, r92_52, r92_52n, r92_53, r92_58, r92_61, r92_61n, r92_62, r92_63, r92_64, r92_68, r92_69, r92_71, r92_71n, r92_73n, r92_73, r92_76, r92_77, r92_80, r92_80n, r92_82, r92_82n, r92_83, r92_86, r92_88, r92_89, r92_94, r92_96, r92_98, r92_101, r92_103, r92_105, r92_108, r92_108n, r92_109, r92_111, r92_115, r92_118, r92_118n, r92_119, r92_124, r92_124a, r92_124n, r92_125, r92_125n, r92_126, r92_129, r92_131, r92_133, r92_137, r92_140, r92_140n, r92_141, r92_145, r92_148, r92_148n, r92_150n, r92_150, r92_153, r92_153n, r92_155, r92_158, r92_159, r92_162, r92_162n, r92_163, r92_163n, r92_167, r92_167n, r92_168, r92_172, i32_10, reduceIte, gm_cmp1, gm_cmp3, gm_cmp4, gm_kd_sf, gm_ln_sf, gm_sf_1, gm_sf_2, gm_nw_1, gm_nw_2, gm_k_int, gm_k_ref, gm_k_null, gm_k_u, gm_k_long, and_true, true_and, true_or, or_true, or_false, false_or, and_self, or_self, if_true, if_false, List.map_nil, List.map_cons, List.sum_nil, List.sum_cons, Nat.zero_le, Option.toList_some, Option.toList_none, List.cons_append, List.nil_append, ne_eq, not_false_eq_true, not_true_eq_false, nI_1, nI_add, Value.category, Nat.reduceAdd, Nat.reduceMod, Nat.reduceLeDiff, Nat.reduceLT, Nat.reduceEqDiff, Nat.reducePow, Nat.le_refl, Nat.add_left_cancel_iff, Nat.add_eq_left, Nat.left_eq_add, Nat.add_zero, gx_ow, k11, f15, ku1, lu1, hkl, hl31, m1] at nx ⊢
            refine c92_91 (by simp) kc' (by omega) (x_slotOf (by omega) R1.2.2.1 hC') (gx_kn ?_) gx_kx
            rcases gs_sloti_of (q := q) eb l4 (by omega) with ⟨g1, g2⟩ | ⟨j, g1, g2, g3⟩
            · have ew : gs_wrt K tg o q v s1 = .ok ((), s1) := by
                unfold gs_wrt
                rw [e0, g1]
              rw [e0] at ew
              have m1 : (-1 : Int32) < 0 := by decide
              rw [e2] at g2
              simp only [r92_0, r92_0n, r92_1, r92_4, r92_4n, r92_5, r92_11, r92_14, r92_14n, r92_15, r92_18, r92_21, r92_22, r92_22n, r92_24, r92_25, r92_27, r92_29, r92_29n, r92_30, r92_33, r92_36, r92_36n, r92_37, r92_40, r92_42, r92_43, r92_45, r92_47, r92_49, r92_52, r92_52n, r92_53, r92_58, r92_61, r92_61n, r92_62, r92_63, r92_64, r92_68, r92_69, r92_71, r92_71n, r92_73n, r92_73, r92_76, r92_77, r92_80, r92_80n, r92_82, r92_82n, r92_83, r92_86, r92_88, r92_89, r92_94, r92_96, r92_98, r92_101, r92_103, r92_105, r92_108, r92_108n, r92_109, r92_111, r92_115, r92_118, r92_118n, r92_119, r92_124, r92_124a, r92_124n, r92_125, r92_125n, r92_126, r92_129, r92_131, r92_133, r92_137, r92_140, r92_140n, r92_141, r92_145, r92_148, r92_148n, r92_150n, r92_150, r92_153, r92_153n, r92_155, r92_158, r92_159, r92_162, r92_162n, r92_163, r92_163n, r92_167, r92_167n, r92_168, r92_172, i32_10, reduceIte, gm_cmp1, gm_cmp3, gm_cmp4, gm_kd_sf, gm_ln_sf, gm_sf_1, gm_sf_2, gm_nw_1, gm_nw_2, gm_k_int, gm_k_ref, gm_k_null, gm_k_u, gm_k_long, and_true, true_and, true_or, or_true, or_false, false_or, and_self, or_self, if_true, if_false, List.map_nil, List.map_cons, List.sum_nil, List.sum_cons, Nat.zero_le, Option.toList_some, Option.toList_none, List.cons_append, List.nil_append, ne_eq, not_false_eq_true, not_true_eq_false, nI_1, nI_add, Value.category, Nat.reduceAdd, Nat.reduceMod, Nat.reduceLeDiff, Nat.reduceLT, Nat.reduceEqDiff, Nat.reducePow, Nat.le_refl, Nat.add_left_cancel_iff, Nat.add_eq_left, Nat.left_eq_add, Nat.add_zero, g2, m1]
              exact nx s1 h1 _ R1 hF1 I1 ds1 st1 ew
            · have g1' : gs_slot K tg q = some j := by rw [e0]; exact g1
              rw [e2] at g2
              have hj : ¬ nI j < 0 := nI_pos (by omega)
              obtain ⟨i11, ob1, i12, i13, i14⟩ := I1
              obtain ⟨t', et, ok11, ok12, qq⟩ := R1.thing i12
              rw [i11] at et
              cases et
              obtain ⟨y1, y2, y3, y4, y5, y6, y7, y8, y9, y10⟩ := qq
              have hjl : j < gm_ln h1 (t + 1) := by rw [y8, i14]; omega
              have hjl2 : j < ob1.2.2.1.length := by rw [i14]; omega
              have hl31' : gm_ln h1 (t + 1) < 2147483648 := by rw [y8]; omega
              -- the value laid
              have lay : (¬ (q.2 = 6 ∧ v.toInt32 ≠ -2 ∧ gs_sort s1 v.toInt32 ≠ 2)) → gm_W E d 92 125 [.ref x, .ref a, .ref t, .int (nI dp), .ref (ca c'), .int (nI k), .int (nI i), .long v, gm_u, .int (nI j)] [] h1 (gx_P E h x ca K F G s (fun _ h' v => v = none ∧ ∀ s', res = .ok ((), s') → gx_in h' x K s' o t c) res) := by
                intro hno
                simp only [r92_0, r92_0n, r92_1, r92_4, r92_4n, r92_5, r92_11, r92_14, r92_14n, r92_15, r92_18, r92_21, r92_22, r92_22n, r92_24, r92_25, r92_27, r92_29, r92_29n, r92_30, r92_33, r92_36, r92_36n, r92_37, r92_40, r92_42, r92_43, r92_45, r92_47, r92_49, r92_52, r92_52n, r92_53, r92_58, r92_61, r92_61n, r92_62, r92_63, r92_64, r92_68, r92_69, r92_71, r92_71n, r92_73n, r92_73, r92_76, r92_77, r92_80, r92_80n, r92_82, r92_82n, r92_83, r92_86, r92_88, r92_89, r92_94, r92_96, r92_98, r92_101, r92_103, r92_105, r92_108, r92_108n, r92_109, r92_111, r92_115, r92_118, r92_118n, r92_119, r92_124, r92_124a, r92_124n, r92_125, r92_125n, r92_126, r92_129, r92_131, r92_133, r92_137, r92_140, r92_140n, r92_141, r92_145, r92_148, r92_148n, r92_150n, r92_150, r92_153, r92_153n, r92_155, r92_158, r92_159, r92_162, r92_162n, r92_163, r92_163n, r92_167, r92_167n, r92_168, r92_172, i32_10, reduceIte, gm_cmp1, gm_cmp3, gm_cmp4, gm_kd_sf, gm_ln_sf, gm_sf_1, gm_sf_2, gm_nw_1, gm_nw_2, gm_k_int, gm_k_ref, gm_k_null, gm_k_u, gm_k_long, and_true, true_and, true_or, or_true, or_false, false_or, and_self, or_self, if_true, if_false, List.map_nil, List.map_cons, List.sum_nil, List.sum_cons, Nat.zero_le, Option.toList_some, Option.toList_none, List.cons_append, List.nil_append, ne_eq, not_false_eq_true, not_true_eq_false, nI_1, nI_add, Value.category, Nat.reduceAdd, Nat.reduceMod, Nat.reduceLeDiff, Nat.reduceLT, Nat.reduceEqDiff, Nat.reducePow, Nat.le_refl, Nat.add_left_cancel_iff, Nat.add_eq_left, Nat.left_eq_add, Nat.add_zero, y1, y4, y7, hjl, hl31']
                have ew : gs_wrt K tg o q v s1 = .ok ((), (s1.1, (gs_hp s1).modify o (fun ob => (ob.1, ob.2.1, ob.2.2.1.set j v, ob.2.2.2)), s1.2.2)) := by
                  unfold gs_wrt
                  rw [g1']
                  dsimp only
                  rw [if_neg hno]
                  rfl
                rw [e0] at ew
                refine nx _ _ _ (R1.setv i12 i11 hjl2) (fun b z => by rw [gm_sf_1]; exact hF1 b z) ?_ ?_ (st1.md (Or.inr hG.2) ok12.1) ew
                · refine ⟨by rw [gm_fv_sfa (by have := ok12.1; omega)]; exact i11, _, by rw [gs_hp]; simp only [List.getElem?_modify, i12]; rfl, ?_, ?_⟩
                  · simp [i13]
                  · simp [i14]
                · exact gx_ds.md (t := t) ⟨gm_sf_1, fun b _ hb => gm_rd_sfn hb⟩ y1 y7 ds1
              simp only [r92_0, r92_0n, r92_1, r92_4, r92_4n, r92_5, r92_11, r92_14, r92_14n, r92_15, r92_18, r92_21, r92_22, r92_22n, r92_24, r92_25, r92_27, r92_29, r92_29n, r92_30, r92_33, r92_36, r92_36n, r92_37, r92_40, r92_42, r92_43, r92_45, r92_47, r92_49, r92_52, r92_52n, r92_53, r92_58, r92_61, r92_61n, r92_62, r92_63, r92_64, r92_68, r92_69, r92_71, r92_71n, r92_73n, r92_73, r92_76, r92_77, r92_80, r92_80n, r92_82, r92_82n, r92_83, r92_86, r92_88, r92_89, r92_94, r92_96, r92_98, r92_101, r92_103, r92_105, r92_108, r92_108n, r92_109, r92_111, r92_115, r92_118, r92_118n, r92_119, r92_124, r92_124a, r92_124n, r92_126, r92_129, r92_131, r92_133, r92_137, r92_140, r92_140n, r92_141, r92_145, r92_148, r92_148n, r92_150n, r92_150, r92_153, r92_153n, r92_155, r92_158, r92_159, r92_162, r92_162n, r92_163, r92_163n, r92_167, r92_167n, r92_168, r92_172, i32_10, reduceIte, gm_cmp1, gm_cmp3, gm_cmp4, gm_kd_sf, gm_ln_sf, gm_sf_1, gm_sf_2, gm_nw_1, gm_nw_2, gm_k_int, gm_k_ref, gm_k_null, gm_k_u, gm_k_long, and_true, true_and, true_or, or_true, or_false, false_or, and_self, or_self, if_true, if_false, List.map_nil, List.map_cons, List.sum_nil, List.sum_cons, Nat.zero_le, Option.toList_some, Option.toList_none, List.cons_append, List.nil_append, ne_eq, not_false_eq_true, not_true_eq_false, nI_1, nI_add, Value.category, Nat.reduceAdd, Nat.reduceMod, Nat.reduceLeDiff, Nat.reduceLT, Nat.reduceEqDiff, Nat.reducePow, Nat.le_refl, Nat.add_left_cancel_iff, Nat.add_eq_left, Nat.left_eq_add, Nat.add_zero, g2, hj]
              by_cases h6 : q.2 = 6
              · have i6 : nI i = 6 := by rw [← e2]; exact h6
                simp only [r92_0, r92_0n, r92_1, r92_4, r92_4n, r92_5, r92_11, r92_14, r92_14n, r92_15, r92_18, r92_21, r92_22, r92_22n, r92_24, r92_25, r92_27, r92_29, r92_29n, r92_30, r92_33, r92_36, r92_36n, r92_37, r92_40, r92_42, r92_43, r92_45, r92_47, r92_49, r92_52, r92_52n, r92_53, r92_58, r92_61, r92_61n, r92_62, r92_63, r92_64, r92_68, r92_69, r92_71, r92_71n, r92_73n, r92_73, r92_76, r92_77, r92_80, r92_80n, r92_82, r92_82n, r92_83, r92_86, r92_88, r92_89, r92_94, r92_96, r92_98, r92_101, r92_103, r92_105, r92_108, r92_108n, r92_109, r92_111, r92_115, r92_118, r92_118n, r92_119, r92_124, r92_124a, r92_124n, r92_126, r92_129, r92_131, r92_133, r92_137, r92_140, r92_140n, r92_141, r92_145, r92_148, r92_148n, r92_150n, r92_150, r92_153, r92_153n, r92_155, r92_158, r92_159, r92_162, r92_162n, r92_163, r92_163n, r92_167, r92_167n, r92_168, r92_172, i32_10, reduceIte, gm_cmp1, gm_cmp3, gm_cmp4, gm_kd_sf, gm_ln_sf, gm_sf_1, gm_sf_2, gm_nw_1, gm_nw_2, gm_k_int, gm_k_ref, gm_k_null, gm_k_u, gm_k_long, and_true, true_and, true_or, or_true, or_false, false_or, and_self, or_self, if_true, if_false, List.map_nil, List.map_cons, List.sum_nil, List.sum_cons, Nat.zero_le, Option.toList_some, Option.toList_none, List.cons_append, List.nil_append, ne_eq, not_false_eq_true, not_true_eq_false, nI_1, nI_add, Value.category, Nat.reduceAdd, Nat.reduceMod, Nat.reduceLeDiff, Nat.reduceLT, Nat.reduceEqDiff, Nat.reducePow, Nat.le_refl, Nat.add_left_cancel_iff, Nat.add_eq_left, Nat.left_eq_add, Nat.add_zero, i6] at lay ⊢
                refine c92_112 (by simp) R1.1.1 (by omega) (x_isIntsOrNull (by omega) R1) (gx_kn ?_) gx_kx
                by_cases hv : v.toInt32 = -2
                · simp only [r92_0, r92_0n, r92_1, r92_4, r92_4n, r92_5, r92_11, r92_14, r92_14n, r92_15, r92_18, r92_21, r92_22, r92_22n, r92_24, r92_25, r92_27, r92_29, r92_29n, r92_30, r92_33, r92_36, r92_36n, r92_37, r92_40, r92_42, r92_43, r92_45, r92_47, r92_49, r92_52, r92_52n, r92_53, r92_58, r92_61, r92_61n, r92_62, r92_63, r92_64, r92_68, r92_69, r92_71, r92_71n, r92_73n, r92_73, r92_76, r92_77, r92_80, r92_80n, r92_82, r92_82n, r92_83, r92_86, r92_88, r92_89, r92_94, r92_96, r92_98, r92_101, r92_103, r92_105, r92_108, r92_108n, r92_109, r92_111, r92_115, r92_118, r92_118n, r92_119, r92_124, r92_124a, r92_124n, r92_126, r92_129, r92_131, r92_133, r92_137, r92_140, r92_140n, r92_141, r92_145, r92_148, r92_148n, r92_150n, r92_150, r92_153, r92_153n, r92_155, r92_158, r92_159, r92_162, r92_162n, r92_163, r92_163n, r92_167, r92_167n, r92_168, r92_172, i32_10, reduceIte, gm_cmp1, gm_cmp3, gm_cmp4, gm_kd_sf, gm_ln_sf, gm_sf_1, gm_sf_2, gm_nw_1, gm_nw_2, gm_k_int, gm_k_ref, gm_k_null, gm_k_u, gm_k_long, and_true, true_and, true_or, or_true, or_false, false_or, and_self, or_self, if_true, if_false, List.map_nil, List.map_cons, List.sum_nil, List.sum_cons, Nat.zero_le, Option.toList_some, Option.toList_none, List.cons_append, List.nil_append, ne_eq, not_false_eq_true, not_true_eq_false, nI_1, nI_add, Value.category, Nat.reduceAdd, Nat.reduceMod, Nat.reduceLeDiff, Nat.reduceLT, Nat.reduceEqDiff, Nat.reducePow, Nat.le_refl, Nat.add_left_cancel_iff, Nat.add_eq_left, Nat.left_eq_add, Nat.add_zero, hv]
                  exact lay (fun z => z.2.1 hv)
                · by_cases hv2 : gs_sort s1 v.toInt32 = 2
                  · simp only [r92_0, r92_0n, r92_1, r92_4, r92_4n, r92_5, r92_11, r92_14, r92_14n, r92_15, r92_18, r92_21, r92_22, r92_22n, r92_24, r92_25, r92_27, r92_29, r92_29n, r92_30, r92_33, r92_36, r92_36n, r92_37, r92_40, r92_42, r92_43, r92_45, r92_47, r92_49, r92_52, r92_52n, r92_53, r92_58, r92_61, r92_61n, r92_62, r92_63, r92_64, r92_68, r92_69, r92_71, r92_71n, r92_73n, r92_73, r92_76, r92_77, r92_80, r92_80n, r92_82, r92_82n, r92_83, r92_86, r92_88, r92_89, r92_94, r92_96, r92_98, r92_101, r92_103, r92_105, r92_108, r92_108n, r92_109, r92_111, r92_115, r92_118, r92_118n, r92_119, r92_124, r92_124a, r92_124n, r92_126, r92_129, r92_131, r92_133, r92_137, r92_140, r92_140n, r92_141, r92_145, r92_148, r92_148n, r92_150n, r92_150, r92_153, r92_153n, r92_155, r92_158, r92_159, r92_162, r92_162n, r92_163, r92_163n, r92_167, r92_167n, r92_168, r92_172, i32_10, reduceIte, gm_cmp1, gm_cmp3, gm_cmp4, gm_kd_sf, gm_ln_sf, gm_sf_1, gm_sf_2, gm_nw_1, gm_nw_2, gm_k_int, gm_k_ref, gm_k_null, gm_k_u, gm_k_long, and_true, true_and, true_or, or_true, or_false, false_or, and_self, or_self, if_true, if_false, List.map_nil, List.map_cons, List.sum_nil, List.sum_cons, Nat.zero_le, Option.toList_some, Option.toList_none, List.cons_append, List.nil_append, ne_eq, not_false_eq_true, not_true_eq_false, nI_1, nI_add, Value.category, Nat.reduceAdd, Nat.reduceMod, Nat.reduceLeDiff, Nat.reduceLT, Nat.reduceEqDiff, Nat.reducePow, Nat.le_refl, Nat.add_left_cancel_iff, Nat.add_eq_left, Nat.left_eq_add, Nat.add_zero, hv, hv2]
                    exact lay (fun z => z.2.2 hv2)
                  · simp only [r92_0, r92_0n, r92_1, r92_4, r92_4n, r92_5, r92_11, r92_14, r92_14n, r92_15, r92_18, r92_21, r92_22, r92_22n, r92_24, r92_25, r92_27, r92_29, r92_29n, r92_30, r92_33, r92_36, r92_36n, r92_37, r92_40, r92_42, r92_43, r92_45, r92_47, r92_49, r92_52, r92_52n, r92_53, r92_58, r92_61, r92_61n, r92_62, r92_63, r92_64, r92_68, r92_69, r92_71, r92_71n, r92_73n, r92_73, r92_76, r92_77, r92_80, r92_80n, r92_82, r92_82n, r92_83, r92_86, r92_88, r92_89, r92_94, r92_96, r92_98, r92_101, r92_103, r92_105, r92_108, r92_108n, r92_109, r92_111, r92_115, r92_118, r92_118n, r92_119, r92_124, r92_124a, r92_124n, r92_126, r92_129, r92_131, r92_133, r92_137, r92_140, r92_140n, r92_141, r92_145, r92_148, r92_148n, r92_150n, r92_150, r92_153, r92_153n, r92_155, r92_158, r92_159, r92_162, r92_162n, r92_163, r92_163n, r92_167, r92_167n, r92_168, r92_172, i32_10, reduceIte, gm_cmp1, gm_cmp3, gm_cmp4, gm_kd_sf, gm_ln_sf, gm_sf_1, gm_sf_2, gm_nw_1, gm_nw_2, gm_k_int, gm_k_ref, gm_k_null, gm_k_u, gm_k_long, and_true, true_and, true_or, or_true, or_false, false_or, and_self, or_self, if_true, if_false, List.map_nil, List.map_cons, List.sum_nil, List.sum_cons, Nat.zero_le, Option.toList_some, Option.toList_none, List.cons_append, List.nil_append, ne_eq, not_false_eq_true, not_true_eq_false, nI_1, nI_add, Value.category, Nat.reduceAdd, Nat.reduceMod, Nat.reduceLeDiff, Nat.reduceLT, Nat.reduceEqDiff, Nat.reducePow, Nat.le_refl, Nat.add_left_cancel_iff, Nat.add_eq_left, Nat.left_eq_add, Nat.add_zero, hv, hv2]
                    refine c92_121 (by simp) R1.1.1 (by omega) (x_fail (G := G) (α := Unit) (val := fun _ _ _ => True) R1) gx_fn (fun _ _ q => q.er (fun f e => ?_) st1 (fun _ z => Or.inr z))
                    cases e
                    rw [hr1]
                    refine gs_b_er (gs_b_er ?_)
                    unfold gs_wrt
                    rw [g1']
                    dsimp only
                    rw [if_pos ⟨h6, hv, hv2⟩]
              · have i6 : ¬ nI i = 6 := by rw [← e2]; exact h6
                simp only [r92_0, r92_0n, r92_1, r92_4, r92_4n, r92_5, r92_11, r92_14, r92_14n, r92_15, r92_18, r92_21, r92_22, r92_22n, r92_24, r92_25, r92_27, r92_29, r92_29n, r92_30, r92_33, r92_36, r92_36n, r92_37, r92_40, r92_42, r92_43, r92_45, r92_47, r92_49, r92_52, r92_52n, r92_53, r92_58, r92_61, r92_61n, r92_62, r92_63, r92_64, r92_68, r92_69, r92_71, r92_71n, r92_73n, r92_73, r92_76, r92_77, r92_80, r92_80n, r92_82, r92_82n, r92_83, r92_86, r92_88, r92_89, r92_94, r92_96, r92_98, r92_101, r92_103, r92_105, r92_108, r92_108n, r92_109, r92_111, r92_115, r92_118, r92_118n, r92_119, r92_124, r92_124a, r92_124n, r92_126, r92_129, r92_131, r92_133, r92_137, r92_140, r92_140n, r92_141, r92_145, r92_148, r92_148n, r92_150n, r92_150, r92_153, r92_153n, r92_155, r92_158, r92_159, r92_162, r92_162n, r92_163, r92_163n, r92_167, r92_167n, r92_168, r92_172, i32_10, reduceIte, gm_cmp1, gm_cmp3, gm_cmp4, gm_kd_sf, gm_ln_sf, gm_sf_1, gm_sf_2, gm_nw_1, gm_nw_2, gm_k_int, gm_k_ref, gm_k_null, gm_k_u, gm_k_long, and_true, true_and, true_or, or_true, or_false, false_or, and_self, or_self, if_true, if_false, List.map_nil, List.map_cons, List.sum_nil, List.sum_cons, Nat.zero_le, Option.toList_some, Option.toList_none, List.cons_append, List.nil_append, ne_eq, not_false_eq_true, not_true_eq_false, nI_1, nI_add, Value.category, Nat.reduceAdd, Nat.reduceMod, Nat.reduceLeDiff, Nat.reduceLT, Nat.reduceEqDiff, Nat.reducePow, Nat.le_refl, Nat.add_left_cancel_iff, Nat.add_eq_left, Nat.left_eq_add, Nat.add_zero, i6] at lay ⊢
                exact lay (fun z => h6 z.1)
        -- the value itself
        have hGf : ∀ b, (fun _ : Nat => False) b → b = b := fun _ _ => rfl
        rw [r92_27]
        have f6' : gm_fv hk wk k = .int (nI i) := by rw [← e2]; exact n2
        by_cases h6 : i < 6
        · have i6 : ¬ (6 : Int32) ≤ nI i := nI_ge (b := 6) (a := i) h6 (by decide)
          have q6 : q.2 < 6 := by rw [e2]; exact nI_lt (b := 6) h6 (by decide)
          have hr' : res = gs_b (gs_b (gs_prim K q.2) (fun v => gs_b (gs_wrt K tg o q v) fun _ => gs_vals K rc tg o ((gs_df l).drop (k + 1)))) (fun _ => RST) sk := by
            rw [hr]
            show gs_b (gs_b (if q.2 < 6 then gs_prim K q.2 else _) _) _ sk = _
            rw [if_pos q6]
          simp only [r92_0, r92_0n, r92_1, r92_4, r92_4n, r92_5, r92_11, r92_14, r92_14n, r92_15, r92_18, r92_21, r92_22, r92_22n, r92_24, r92_25, r92_29, r92_29n, r92_30, r92_33, r92_36, r92_36n, r92_37, r92_40, r92_42, r92_43, r92_45, r92_47, r92_49, r92_52, r92_52n, r92_53, r92_58, r92_61, r92_61n, r92_62, r92_63, r92_64, r92_68, r92_71, r92_71n, r92_73n, r92_73, r92_76, r92_77, r92_80, r92_80n, r92_82, r92_82n, r92_83, r92_86, r92_88, r92_89, r92_94, r92_96, r92_98, r92_101, r92_103, r92_105, r92_108, r92_108n, r92_109, r92_111, r92_115, r92_118, r92_118n, r92_119, r92_124, r92_124a, r92_124n, r92_125, r92_125n, r92_126, r92_129, r92_131, r92_133, r92_134, r92_137, r92_140, r92_140n, r92_141, r92_145, r92_148, r92_148n, r92_150n, r92_150, r92_153, r92_153n, r92_155, r92_158, r92_159, r92_162, r92_162n, r92_163, r92_163n, r92_167, r92_167n, r92_168, r92_172, i32_10, reduceIte, gm_cmp1, gm_cmp3, gm_cmp4, gm_kd_sf, gm_ln_sf, gm_sf_1, gm_sf_2, gm_nw_1, gm_nw_2, gm_k_int, gm_k_ref, gm_k_null, gm_k_u, gm_k_long, and_true, true_and, true_or, or_true, or_false, false_or, and_self, or_self, if_true, if_false, List.map_nil, List.map_cons, List.sum_nil, List.sum_cons, Nat.zero_le, Option.toList_some, Option.toList_none, List.cons_append, List.nil_append, ne_eq, not_false_eq_true, not_true_eq_false, nI_1, nI_add, Value.category, Nat.reduceAdd, Nat.reduceMod, Nat.reduceLeDiff, Nat.reduceLT, Nat.reduceEqDiff, Nat.reducePow, Nat.le_refl, Nat.add_left_cancel_iff, Nat.add_eq_left, Nat.left_eq_add, Nat.add_zero, k1, f4, nI_leF hkl (show (gs_df l).length < 2 ^ 31 by omega), f6, kw, lw, hkl, hl31, f6', i6, gm_k_ow]
          refine c92_55 (by simp) Rk.1.1 (by omega) (x_nextPrimitive (G := fun _ => False) (by omega) h6 Rk) (fun v h1 q => ?_) (fun _ _ q => q.er (fun f e => by rw [hr', e2]; exact gs_b_er (gs_b_er e)) stk hG1)
          obtain ⟨v, s1, e1, ⟨rfl, na1⟩, R1, mv1, le1, co1⟩ := q
          simp only [r92_0, r92_0n, r92_1, r92_4, r92_4n, r92_5, r92_11, r92_14, r92_14n, r92_15, r92_18, r92_21, r92_22, r92_22n, r92_24, r92_25, r92_29, r92_29n, r92_30, r92_33, r92_36, r92_36n, r92_37, r92_40, r92_42, r92_43, r92_45, r92_47, r92_49, r92_52, r92_52n, r92_53, r92_58, r92_61, r92_61n, r92_62, r92_63, r92_64, r92_68, r92_71, r92_71n, r92_73n, r92_73, r92_76, r92_77, r92_80, r92_80n, r92_82, r92_82n, r92_83, r92_86, r92_88, r92_89, r92_94, r92_96, r92_98, r92_101, r92_103, r92_105, r92_108, r92_108n, r92_109, r92_111, r92_115, r92_118, r92_118n, r92_119, r92_124, r92_124a, r92_124n, r92_125, r92_125n, r92_126, r92_129, r92_131, r92_133, r92_134, r92_137, r92_140, r92_140n, r92_141, r92_145, r92_148, r92_148n, r92_150n, r92_150, r92_153, r92_153n, r92_155, r92_158, r92_159, r92_162, r92_162n, r92_163, r92_163n, r92_167, r92_167n, r92_168, r92_172, i32_10, reduceIte, gm_cmp1, gm_cmp3, gm_cmp4, gm_kd_sf, gm_ln_sf, gm_sf_1, gm_sf_2, gm_nw_1, gm_nw_2, gm_k_int, gm_k_ref, gm_k_null, gm_k_u, gm_k_long, and_true, true_and, true_or, or_true, or_false, false_or, and_self, or_self, if_true, if_false, List.map_nil, List.map_cons, List.sum_nil, List.sum_cons, Nat.zero_le, Option.toList_some, Option.toList_none, List.cons_append, List.nil_append, ne_eq, not_false_eq_true, not_true_eq_false, nI_1, nI_add, Value.category, Nat.reduceAdd, Nat.reduceMod, Nat.reduceLeDiff, Nat.reduceLT, Nat.reduceEqDiff, Nat.reducePow, Nat.le_refl, Nat.add_left_cancel_iff, Nat.add_eq_left, Nat.left_eq_add, Nat.add_zero]
          refine tail v s1 h1 _ _ _ R1 (fun b z => by have := hFk b z; have := mv1.1.1; omega) (Ik.mv Rk R1 mv1 le1 ⟨fun z => z, fun z => z⟩ hcs) (dk.tr (mv1.1.wk (fun _ z => z.elim))) (stk.trans mv1 le1 co1 hG1) ?_
          rw [hr', e2]
          exact gs_b_cg (gs_b_ok e1)
        · have i6 : (6 : Int32) ≤ nI i := nI_le (a := 6) (by omega) (by omega)
          have q6 : ¬ q.2 < 6 := by rw [e2]; exact nI_nlt (b := 6) (by omega) (by omega)
          have hr' : res = gs_b (gs_b (gs_b rc fun v => gs_r v.toInt64) (fun v => gs_b (gs_wrt K tg o q v) fun _ => gs_vals K rc tg o ((gs_df l).drop (k + 1)))) (fun _ => RST) sk := by
            rw [hr]
            show gs_b (gs_b (if q.2 < 6 then gs_prim K q.2 else _) _) _ sk = _
            rw [if_neg q6]
          simp only [r92_0, r92_0n, r92_1, r92_4, r92_4n, r92_5, r92_11, r92_14, r92_14n, r92_15, r92_18, r92_21, r92_22, r92_22n, r92_24, r92_25, r92_29, r92_29n, r92_30, r92_33, r92_36, r92_36n, r92_37, r92_40, r92_42, r92_43, r92_45, r92_47, r92_49, r92_52, r92_52n, r92_53, r92_58, r92_61, r92_61n, r92_62, r92_63, r92_64, r92_68, r92_71, r92_71n, r92_73n, r92_73, r92_76, r92_77, r92_80, r92_80n, r92_82, r92_82n, r92_83, r92_86, r92_88, r92_89, r92_94, r92_96, r92_98, r92_101, r92_103, r92_105, r92_108, r92_108n, r92_109, r92_111, r92_115, r92_118, r92_118n, r92_119, r92_124, r92_124a, r92_124n, r92_125, r92_125n, r92_126, r92_129, r92_131, r92_133, r92_134, r92_137, r92_140, r92_140n, r92_141, r92_145, r92_148, r92_148n, r92_150n, r92_150, r92_153, r92_153n, r92_155, r92_158, r92_159, r92_162, r92_162n, r92_163, r92_163n, r92_167, r92_167n, r92_168, r92_172, i32_10, reduceIte, gm_cmp1, gm_cmp3, gm_cmp4, gm_kd_sf, gm_ln_sf, gm_sf_1, gm_sf_2, gm_nw_1, gm_nw_2, gm_k_int, gm_k_ref, gm_k_null, gm_k_u, gm_k_long, and_true, true_and, true_or, or_true, or_false, false_or, and_self, or_self, if_true, if_false, List.map_nil, List.map_cons, List.sum_nil, List.sum_cons, Nat.zero_le, Option.toList_some, Option.toList_none, List.cons_append, List.nil_append, ne_eq, not_false_eq_true, not_true_eq_false, nI_1, nI_add, Value.category, Nat.reduceAdd, Nat.reduceMod, Nat.reduceLeDiff, Nat.reduceLT, Nat.reduceEqDiff, Nat.reducePow, Nat.le_refl, Nat.add_left_cancel_iff, Nat.add_eq_left, Nat.left_eq_add, Nat.add_zero, k1, f4, nI_leF hkl (show (gs_df l).length < 2 ^ 31 by omega), f6, kw, lw, hkl, hl31, f6', i6, gm_k_ow]
          refine c92_65 (by simp) Rk.1.1 (by omega) (C (d - 1) hk sk F (fun _ => False) (by omega) Rk hFk) (fun v h1 q => ?_) (fun _ _ q => q.er (fun f e => by rw [hr']; exact gs_b_er (gs_b_er (gs_b_er e))) stk hG1)
          obtain ⟨v, s1, e1, rfl, R1, mv1, le1, co1⟩ := q
          simp only [r92_0, r92_0n, r92_1, r92_4, r92_4n, r92_5, r92_11, r92_14, r92_14n, r92_15, r92_18, r92_21, r92_22, r92_22n, r92_24, r92_25, r92_29, r92_29n, r92_30, r92_33, r92_36, r92_36n, r92_37, r92_40, r92_42, r92_43, r92_45, r92_47, r92_49, r92_52, r92_52n, r92_53, r92_58, r92_61, r92_61n, r92_62, r92_63, r92_64, r92_68, r92_71, r92_71n, r92_73n, r92_73, r92_76, r92_77, r92_80, r92_80n, r92_82, r92_82n, r92_83, r92_86, r92_88, r92_89, r92_94, r92_96, r92_98, r92_101, r92_103, r92_105, r92_108, r92_108n, r92_109, r92_111, r92_115, r92_118, r92_118n, r92_119, r92_124, r92_124a, r92_124n, r92_125, r92_125n, r92_126, r92_129, r92_131, r92_133, r92_134, r92_137, r92_140, r92_140n, r92_141, r92_145, r92_148, r92_148n, r92_150n, r92_150, r92_153, r92_153n, r92_155, r92_158, r92_159, r92_162, r92_162n, r92_163, r92_163n, r92_167, r92_167n, r92_168, r92_172, i32_10, reduceIte, gm_cmp1, gm_cmp3, gm_cmp4, gm_kd_sf, gm_ln_sf, gm_sf_1, gm_sf_2, gm_nw_1, gm_nw_2, gm_k_int, gm_k_ref, gm_k_null, gm_k_u, gm_k_long, and_true, true_and, true_or, or_true, or_false, false_or, and_self, or_self, if_true, if_false, List.map_nil, List.map_cons, List.sum_nil, List.sum_cons, Nat.zero_le, Option.toList_some, Option.toList_none, List.cons_append, List.nil_append, ne_eq, not_false_eq_true, not_true_eq_false, nI_1, nI_add, Value.category, Nat.reduceAdd, Nat.reduceMod, Nat.reduceLeDiff, Nat.reduceLT, Nat.reduceEqDiff, Nat.reducePow, Nat.le_refl, Nat.add_left_cancel_iff, Nat.add_eq_left, Nat.left_eq_add, Nat.add_zero]
          refine tail v.toInt64 s1 h1 _ _ _ R1 (fun b z => by have := hFk b z; have := mv1.1.1; omega) (Ik.mv Rk R1 mv1 le1 ⟨fun z => z, fun z => z⟩ hcs) (dk.tr (mv1.1.wk (fun _ z => z.elim))) (stk.trans mv1 le1 co1 hG1) ?_
          rw [hr']
          have eb2 : gs_b rc (fun v => gs_r v.toInt64) sk = .ok (v.toInt64, s1) := by rw [gs_b_ok e1]; rfl
          exact gs_b_cg (gs_b_ok eb2)
    have e0 : (.int (nI 0) : Value) = .int 0 := rfl
    exact loop (gs_df l).length 0 s h gm_u gm_u gm_u gm_u (by omega) R hF I ds ⟨gx_mv.refl, gx_le.refl, gx_co.refl⟩ (by rw [hres, List.drop_zero])
  by_cases hi : gs_inch K (gs_own l) (some c) = true
  · rw [if_pos hi] at htg
    cases how : gs_own l with
    | none =>
      rw [how] at htg d10 hi
      have d10 : gm_fv h a 9 = .null := d10
      subst htg
      simp only [r92_0, r92_0n, r92_1, r92_4, r92_4n, r92_5, r92_11, r92_14, r92_14n, r92_15, r92_18, r92_21, r92_22, r92_22n, r92_24, r92_25, r92_29, r92_29n, r92_30, r92_33, r92_36, r92_36n, r92_37, r92_40, r92_42, r92_43, r92_45, r92_47, r92_49, r92_52, r92_52n, r92_53, r92_58, r92_61, r92_61n, r92_62, r92_63, r92_64, r92_68, r92_69, r92_71, r92_71n, r92_73n, r92_73, r92_76, r92_77, r92_80, r92_80n, r92_82, r92_82n, r92_83, r92_86, r92_88, r92_89, r92_94, r92_96, r92_98, r92_101, r92_103, r92_105, r92_108, r92_108n, r92_109, r92_111, r92_115, r92_118, r92_118n, r92_119, r92_124, r92_124a, r92_124n, r92_125, r92_125n, r92_126, r92_129, r92_131, r92_133, r92_134, r92_137, r92_140, r92_140n, r92_141, r92_145, r92_148, r92_148n, r92_150n, r92_150, r92_153, r92_153n, r92_155, r92_158, r92_159, r92_162, r92_162n, r92_163, r92_163n, r92_167, r92_167n, r92_168, r92_172, i32_10, reduceIte, gm_cmp1, gm_cmp3, gm_cmp4, gm_kd_sf, gm_ln_sf, gm_sf_1, gm_sf_2, gm_nw_1, gm_nw_2, gm_k_int, gm_k_ref, gm_k_null, gm_k_u, gm_k_long, and_true, true_and, true_or, or_true, or_false, false_or, and_self, or_self, if_true, if_false, List.map_nil, List.map_cons, List.sum_nil, List.sum_cons, Nat.zero_le, Option.toList_some, Option.toList_none, List.cons_append, List.nil_append, ne_eq, not_false_eq_true, not_true_eq_false, nI_1, nI_add, Value.category, Nat.reduceAdd, Nat.reduceMod, Nat.reduceLeDiff, Nat.reduceLT, Nat.reduceEqDiff, Nat.reducePow, Nat.le_refl, Nat.add_left_cancel_iff, Nat.add_eq_left, Nat.left_eq_add, Nat.add_zero, hi, d1, d10]
      exact main
    | some c' =>
      rw [how] at htg d10 hi
      have d10 : gm_fv h a 9 = .ref (ca c') := d10
      subst htg
      simp only [r92_0, r92_0n, r92_1, r92_4, r92_4n, r92_5, r92_11, r92_14, r92_14n, r92_15, r92_18, r92_21, r92_22, r92_22n, r92_24, r92_25, r92_29, r92_29n, r92_30, r92_33, r92_36, r92_36n, r92_37, r92_40, r92_42, r92_43, r92_45, r92_47, r92_49, r92_52, r92_52n, r92_53, r92_58, r92_61, r92_61n, r92_62, r92_63, r92_64, r92_68, r92_69, r92_71, r92_71n, r92_73n, r92_73, r92_76, r92_77, r92_80, r92_80n, r92_82, r92_82n, r92_83, r92_86, r92_88, r92_89, r92_94, r92_96, r92_98, r92_101, r92_103, r92_105, r92_108, r92_108n, r92_109, r92_111, r92_115, r92_118, r92_118n, r92_119, r92_124, r92_124a, r92_124n, r92_125, r92_125n, r92_126, r92_129, r92_131, r92_133, r92_134, r92_137, r92_140, r92_140n, r92_141, r92_145, r92_148, r92_148n, r92_150n, r92_150, r92_153, r92_153n, r92_155, r92_158, r92_159, r92_162, r92_162n, r92_163, r92_163n, r92_167, r92_167n, r92_168, r92_172, i32_10, reduceIte, gm_cmp1, gm_cmp3, gm_cmp4, gm_kd_sf, gm_ln_sf, gm_sf_1, gm_sf_2, gm_nw_1, gm_nw_2, gm_k_int, gm_k_ref, gm_k_null, gm_k_u, gm_k_long, and_true, true_and, true_or, or_true, or_false, false_or, and_self, or_self, if_true, if_false, List.map_nil, List.map_cons, List.sum_nil, List.sum_cons, Nat.zero_le, Option.toList_some, Option.toList_none, List.cons_append, List.nil_append, ne_eq, not_false_eq_true, not_true_eq_false, nI_1, nI_add, Value.category, Nat.reduceAdd, Nat.reduceMod, Nat.reduceLeDiff, Nat.reduceLT, Nat.reduceEqDiff, Nat.reducePow, Nat.le_refl, Nat.add_left_cancel_iff, Nat.add_eq_left, Nat.left_eq_add, Nat.add_zero, hi, d1, d10]
      exact main
  · rw [if_neg hi] at htg
    subst htg
    simp only [r92_0, r92_0n, r92_1, r92_4, r92_4n, r92_5, r92_11, r92_14, r92_14n, r92_15, r92_18, r92_21, r92_22, r92_22n, r92_24, r92_25, r92_29, r92_29n, r92_30, r92_33, r92_36, r92_36n, r92_37, r92_40, r92_42, r92_43, r92_45, r92_47, r92_49, r92_52, r92_52n, r92_53, r92_58, r92_61, r92_61n, r92_62, r92_63, r92_64, r92_68, r92_69, r92_71, r92_71n, r92_73n, r92_73, r92_76, r92_77, r92_80, r92_80n, r92_82, r92_82n, r92_83, r92_86, r92_88, r92_89, r92_94, r92_96, r92_98, r92_101, r92_103, r92_105, r92_108, r92_108n, r92_109, r92_111, r92_115, r92_118, r92_118n, r92_119, r92_124, r92_124a, r92_124n, r92_125, r92_125n, r92_126, r92_129, r92_131, r92_133, r92_134, r92_137, r92_140, r92_140n, r92_141, r92_145, r92_148, r92_148n, r92_150n, r92_150, r92_153, r92_153n, r92_155, r92_158, r92_159, r92_162, r92_162n, r92_163, r92_163n, r92_167, r92_167n, r92_168, r92_172, i32_10, reduceIte, gm_cmp1, gm_cmp3, gm_cmp4, gm_kd_sf, gm_ln_sf, gm_sf_1, gm_sf_2, gm_nw_1, gm_nw_2, gm_k_int, gm_k_ref, gm_k_null, gm_k_u, gm_k_long, and_true, true_and, true_or, or_true, or_false, false_or, and_self, or_self, if_true, if_false, List.map_nil, List.map_cons, List.sum_nil, List.sum_cons, Nat.zero_le, Option.toList_some, Option.toList_none, List.cons_append, List.nil_append, ne_eq, not_false_eq_true, not_true_eq_false, nI_1, nI_add, Value.category, Nat.reduceAdd, Nat.reduceMod, Nat.reduceLeDiff, Nat.reduceLT, Nat.reduceEqDiff, Nat.reducePow, Nat.le_refl, Nat.add_left_cancel_iff, Nat.add_eq_left, Nat.left_eq_add, Nat.add_zero, hi]
    exact main
end Y8
