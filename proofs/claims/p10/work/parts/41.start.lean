/-! WHAT IS GIVEN AT THE LAW'S ENTRY, 2: the context and the first heap, out of the Statement's own words. -/
def gm_prim : List Int32 := [1, 2, 4, 8, 2, 1]
def gm_sidx : List Nat := [353, 250, 245]
def gm_slen : List Nat := [8, 19, 2]
def gm_sbyt : List (List Int32) := [[66, 67, 73, 74, 83, 90, 91, 76], [91, 76, 106, 97, 118, 97, 46, 108, 97, 110, 103, 46, 79, 98, 106, 101, 99, 116, 59], [91, 73]]
def gm_stm (i : Nat) : Term := .string "GraphReader" (gm_sidx.getD i 0)
/-- what a run begins with: the script at b, the class's table of sizes, its three Strings -/
def gm_Ini (E : Nat → Value) (b : Nat) (xs : List Int32) (h0 : gm_H) : Prop :=
  gm_rd h0 b = some (300, xs.map .int) ∧ (∃ z, E 0 = .ref z ∧ gm_rd h0 z = some (300, gm_prim.map .int)) ∧ (E 1 = .null ∨ ∃ z, E 1 = .ref z) ∧
  (∀ i, i < 3 → ∃ a v, E (2 + i) = .ref a ∧ gm_rd h0 a = some (6, [.ref v, .int 0]) ∧ gm_rd h0 v = some (302, (gm_sbyt.getD i []).map .int)) ∧ E 5 = .int 1 ∧ h0.2.1 = 0 ∧
  ∀ a c, gm_rd h0 a = some c → a < h0.1 ∧ gm_ko c.1 = 3
theorem gm_T_cr {D : va_G} {s : State} {t N k : Nat} {ty : FieldType} {f : Nat → Value} {A : Nat → Prop} {vs : List Value} (hT : va_T ty t N f A s s.heap) (hk : k = 300 ∨ k = 302) (hty : gm_at k = ty) (hl : vs.length = N) (hv : ∀ j, j < N → vs[j]? = some (f j)) : t < s.heap.size ∧ gm_cr D s.heap s t (k, vs) s.heap := by
  obtain ⟨cell, h1, h2, h3, h4, h5, h6, -⟩ := hT
  refine ⟨(Array.getElem?_eq_some_iff.mp h1).1, gm_cr_arr (by omega) h1 ⟨by rw [hty]; exact h2, h3, ⟨fun j v hj => ?_, by rw [h5, hl]; rfl⟩, fun z => ?_⟩⟩
  · have hlt : j < N := by rw [← hl]; exact (List.getElem?_eq_some_iff.mp hj).1
    rw [h6 j hlt, ← hv j hlt, hj]
  · rcases hk with e | e <;> rw [e] at z <;> simp [gm_ko] at z
theorem gm_gd {bs : List Int32} {j : Nat} (h : j < bs.length) : (bs.map Value.int)[j]? = some (.int (bs.getD j 0)) := by
  rw [List.getElem?_map, List.getElem?_eq_getElem h, List.getD_eq_getElem?_getD, List.getElem?_eq_getElem h]
  rfl
set_option maxRecDepth 100000 in
theorem gm_lst : Cond.laysStatic "GraphReader" "PRIMITIVE_SIZES" "[I" ∈ tables_1 ∧ Cond.laysStatic "jdk/internal/util/Preconditions" "SIOOBE_FORMATTER" "Ljava/util/function/BiFunction;" ∈ tables_1 ∧ Cond.laysStatic "java/lang/String" "COMPACT_STRINGS" "Z" ∈ tables_1 ∧ Cond.laysStatic Bundle.tN "UNASSIGNED_STACK" Bundle.steD ∈ tables_1 ∧ Cond.laysStatic Bundle.tN "SUPPRESSED_SENTINEL" Bundle.listD ∈ tables_1 := by decide +kernel
set_option maxRecDepth 100000 in
theorem gm_lin : Cond.initialized "GraphReader" ∈ tables_1 ∧ Cond.initialized "jdk/internal/util/Preconditions" ∈ tables_1 ∧ Cond.initialized "java/lang/String" ∈ tables_1 ∧ Cond.initialized Bundle.tN ∈ tables_1 := by decide +kernel
set_option maxRecDepth 100000 in
theorem gm_lao : ∀ q ∈ gm_ant, Cond.arrayOver (.object q.2.2.2.1) ∈ tables_1 := by decide +kernel
set_option maxRecDepth 100000 in
theorem gm_lsr : ∀ q ∈ gm_sct, Cond.stringRef (gm_cn.getD q.1 "") q.2.1 q.2.2.2 ∈ tables_1 ∧ q.1 = 0 ∧ ∃ i, i < 3 ∧ q.2.2.1 = 2 + i ∧ gm_sidx.getD i 0 = q.2.1 := by decide +kernel
set_option maxHeartbeats 4000000 in
set_option maxRecDepth 100000 in
theorem gm_start {s : State} {b L : Nat} {xs : Nat → Int32} (hL : L ≤ 3076) (hf : heapFits s = true) (hts : ∀ w ∈ lw_tbl, w.before #[Value.ref b] s = true) (hX : va_X b L xs s s.heap) (hgv : (Jvm.Cond.and given_1 narrow_1).before #[Value.ref b] s = true) :
    ∃ (D : va_G) (E : Nat → Value) (h0 : gm_H), gm_Cx D s.heap E s ∧ gm_HR D s.heap s h0 s.heap ∧ gm_Ini E b ((List.range L).map xs) h0 := by
  have hA : ∀ a : Nat, a < s.heap.size → ¬ gm_A s.heap a := fun a ha z => by unfold gm_A at z; omega
  have ht1 : ∀ w ∈ tables_1, w.before #[Value.ref b] s = true := fun w hw => hts w (List.mem_append_right _ hw)
  have hgw : ∀ w ∈ gm_gw, ∀ a' : Array Value, w.before a' s = true := fun w hw a' => word_at (State.WarmedH.refl s) (good_of_word (List.mem_filter.mp hw).2) (hts w (List.mem_filter.mp hw).1)
  have hs := flat_of_before _ hgv
  obtain ⟨l1, l2, l3, l4, l5⟩ := gm_lst
  obtain ⟨n1, n2, n3, n4⟩ := gm_lin
  -- the classes
  have hk : ∀ ci : Nat, ∃ q : ClassId × (Nat → Nat), ci < 6 → u_Kn s (gm_cn.getD ci "") (gm_T ci) (gm_N ci) q.1 q.2 := by
    intro ci
    by_cases h6 : ci < 6
    · obtain ⟨cC, iS, h⟩ := u_known (C := gm_cn.getD ci "") (T := gm_T ci) (N := gm_N ci) (n := gm_N ci) (fun w hw => hgw w hw #[]) (gm_lays_ok ci h6) (hgw _ (gm_ins_ok ci h6).1 #[])
      exact ⟨(cC, iS), fun _ => h⟩
    · exact ⟨(0, fun _ => 0), fun z => absurd z h6⟩
  obtain ⟨fD, hfD⟩ := Classical.axiomOfChoice hk
  have hK : va_K (fun ci => (fD ci).1, fun ci => (fD ci).2) gm_cl [] s := by
    refine ⟨fun ci q hq => ?_, fun k q h => by simp at h⟩
    have h6 : ci < 6 := (List.getElem?_eq_some_iff.mp hq).1
    have e := Option.some.inj ((gm_cl_at ci h6).symm.trans hq)
    subst e
    exact hfD ci h6
  -- the sizes
  obtain ⟨zP, hzP, hTP⟩ := va_Tof (args := #[Value.ref b]) (s := s) (tm := .static "GraphReader" "PRIMITIVE_SIZES" "[I") (ty := .int) (N := 6) (f := fun j => .int (gm_prim.getD j 0)) (A := gm_A s.heap) (by decide) (hs _ (by decide +kernel)) (va_eqt (hs _ (by decide +kernel)))
    (fun j hj => by
      rcases (show j = 0 ∨ j = 1 ∨ j = 2 ∨ j = 3 ∨ j = 4 ∨ j = 5 by omega) with e | e | e | e | e | e <;> subst e <;> exact va_eqt (hs _ (by decide +kernel))) hA
  have hZ0 := va_Zref (A := gm_A s.heap) (ht1 _ l1) (ht1 _ n1) hzP hA
  have hZ1 : ∃ vF : Value, (vF = .null ∨ ∃ z, vF = .ref z) ∧ va_Z "jdk/internal/util/Preconditions" "SIOOBE_FORMATTER" "Ljava/util/function/BiFunction;" vF (gm_A s.heap) s s.heap := by
    rcases va_Zqof (A := gm_A s.heap) (ht1 _ l2) (ht1 _ n2) (hs _ (by decide +kernel)) hA with z | ⟨t, z⟩
    · exact ⟨_, Or.inl rfl, z⟩
    · exact ⟨_, Or.inr ⟨t, rfl⟩, z⟩
  obtain ⟨vF, hvF, hZ1⟩ := hZ1
  have hZ5 := va_Zof (A := gm_A s.heap) (ht1 _ l3) (ht1 _ n3) (va_eqi (hs (Cond.eq (.static "java/lang/String" "COMPACT_STRINGS" "Z") (.int 1)) (by decide +kernel))) hA
  -- the Strings
  obtain ⟨adK, adV, hS, hSe⟩ := vk_Sof (args := #[Value.ref b]) (s := s) (N := 3) (tm := gm_stm) (len := gm_slen) (byt := gm_sbyt) (A := gm_A s.heap)
    (fun i hi => by rcases (show i = 0 ∨ i = 1 ∨ i = 2 by omega) with e | e | e <;> subst e <;> decide)
    (fun i hi => by rcases (show i = 0 ∨ i = 1 ∨ i = 2 by omega) with e | e | e <;> subst e <;> exact hs _ (by decide +kernel))
    (fun i hi => by rcases (show i = 0 ∨ i = 1 ∨ i = 2 by omega) with e | e | e <;> subst e <;> exact hs _ (by decide +kernel))
    (fun i hi => by rcases (show i = 0 ∨ i = 1 ∨ i = 2 by omega) with e | e | e <;> subst e <;> exact hs _ (by decide +kernel))
    (fun i hi => by rcases (show i = 0 ∨ i = 1 ∨ i = 2 by omega) with e | e | e <;> subst e <;> exact hs _ (by decide +kernel))
    (fun i hi => by
      have hd : ∀ i, i < 3 → ∀ j, j < gm_slen.getD i 0 → Cond.eq (.elem (.field (gm_stm i) "java/lang/String" "value" "[B") (.int (Int32.ofNat j))) (.int ((gm_sbyt.getD i []).getD j 0)) ∈ flatC (Jvm.Cond.and given_1 narrow_1) := by decide +kernel
      exact fun j hj => hs _ (hd i hi j hj))
    (fun i j hi hj hij => by
      have hd : ∀ i, i < 3 → ∀ j, j < 3 → i ≠ j → Cond.not (Cond.eq (gm_stm i) (gm_stm j)) ∈ flatC (Jvm.Cond.and given_1 narrow_1) ∨ Cond.not (Cond.eq (gm_stm j) (gm_stm i)) ∈ flatC (Jvm.Cond.and given_1 narrow_1) := by decide +kernel
      exact (hd i hi j hj hij).imp (hs _) (hs _)) hA
  obtain ⟨scr, x1, x2, x3, x4, x5⟩ := hX
  let D : va_G := (fun ci => (fD ci).1, fun ci => (fD ci).2)
  let E : Nat → Value := fun k => if k = 0 then .ref zP else if k = 1 then vF else if k = 5 then .int 1 else .ref (adK (k - 2))
  let G : List (Nat × gm_C) := (b, (300, ((List.range L).map xs).map .int)) :: (zP, (300, gm_prim.map .int)) :: ((List.range 3).map (fun i => (adK i, ((6, [.ref (adV i), .int 0]) : gm_C))) ++ (List.range 3).map (fun i => (adV i, ((302, (gm_sbyt.getD i []).map .int) : gm_C))))
  have hsl : ∀ i, i < 3 → (gm_sbyt.getD i []).length = gm_slen.getD i 0 := by decide
  have hG : ∀ q ∈ G, q.1 < s.heap.size ∧ gm_cr D s.heap s q.1 q.2 s.heap ∧ gm_gv q.2 := by
    intro q hq
    rcases List.mem_cons.mp hq with e | hq
    · subst e
      refine ⟨(Array.getElem?_eq_some_iff.mp x1).1, gm_cr_arr (by decide) x1 ⟨x2, x3, gm_toL ?_, fun z => by simp [gm_ko] at z⟩, by simp; omega, Or.inl rfl⟩
      apply List.ext_getElem? fun j => ?_
      rw [Array.getElem?_toList]
      rcases Nat.lt_or_ge j L with hj | hj
      · rw [x5 j hj]; simp [List.getElem?_range hj]
      · rw [Array.getElem?_eq_none (show scr.slots.size ≤ j by omega), List.getElem?_eq_none (by simp; omega)]
    · rcases List.mem_cons.mp hq with e | hq
      · subst e
        obtain ⟨g1, g2⟩ := gm_T_cr (D := D) (k := 300) (vs := gm_prim.map .int) hTP (Or.inl rfl) rfl rfl (fun j hj => by
          rcases (show j = 0 ∨ j = 1 ∨ j = 2 ∨ j = 3 ∨ j = 4 ∨ j = 5 by omega) with e | e | e | e | e | e <;> subst e <;> rfl)
        exact ⟨g1, g2, (by show (gm_prim.map Value.int).length < 2 ^ 31; decide), Or.inl rfl⟩
      · rcases List.mem_append.mp hq with hq | hq
        · obtain ⟨i, hi, e⟩ := List.mem_map.mp hq
          subst e
          obtain ⟨g1, g2, g3, -⟩ := hS.1 i (List.mem_range.mp hi)
          have hlt : adK i < s.heap.size := by
            obtain ⟨cell, z, -⟩ := g1
            exact (Array.getElem?_eq_some_iff.mp z).1
          exact ⟨hlt, ⟨fun z => absurd (show 6 < 6 from z) (by decide), fun _ => ⟨⟨_, _, rfl, g3, g2⟩, g1⟩, fun z => absurd (show 6 = 7 from z) (by decide), fun z => absurd (show 100 ≤ 6 from z) (by decide)⟩, by show 2 < 2 ^ 31; decide, Or.inr (Or.inr ⟨rfl, _, rfl⟩)⟩
        · obtain ⟨i, hi, e⟩ := List.mem_map.mp hq
          subst e
          have hi := List.mem_range.mp hi
          obtain ⟨-, -, -, g4⟩ := hS.1 i hi
          obtain ⟨g1, g2⟩ := gm_T_cr (D := D) (k := 302) (vs := (gm_sbyt.getD i []).map .int) g4 (Or.inr rfl) rfl (by rw [List.length_map]; exact hsl i hi) (fun j hj => by
            exact gm_gd (by rw [hsl i hi]; exact hj))
          refine ⟨g1, g2, ?_, Or.inr (Or.inl rfl)⟩
          show ((gm_sbyt.getD i []).map Value.int).length < 2 ^ 31
          rw [List.length_map, hsl i hi]
          rcases (show i = 0 ∨ i = 1 ∨ i = 2 by omega) with e | e | e <;> subst e <;> decide
  have hu : ∀ (a : Nat) (c1 c2 : gm_C), (a, c1) ∈ G → (a, c2) ∈ G → c1 = c2 := fun a c1 c2 m1 m2 => gm_uniq hf (hG _ m1).2.1 (hG _ m2).2.1 (hG _ m1).2.2 (hG _ m2).2.2
  have hat : ∀ {a : Nat} {c : gm_C}, (a, c) ∈ G → gm_rd (gm_h0 s.heap.size G) a = some c := fun h => gm_g_at hu h
  refine ⟨D, E, gm_h0 s.heap.size G, ⟨hgw, hK, ?_, ?_, vx_Zqof (ht1 _ l4) (ht1 _ n4) (hs _ (by decide +kernel)) hA, vx_Zqof (ht1 _ l5) (ht1 _ n4) (hs _ (by decide +kernel)) hA, fun w hw => va_Nw.of (gm_xg_tab (List.mem_filter.mp hw).2) (ht1 w (List.mem_filter.mp hw).1), fun q hq => va_AO.of (ht1 _ (gm_lao q hq))⟩, gm_h0_HR hG,
    hat List.mem_cons_self, ⟨zP, rfl, hat (List.mem_cons_of_mem _ List.mem_cons_self)⟩, hvF, fun i hi => ⟨adK i, adV i, ?_, hat (List.mem_cons_of_mem _ (List.mem_cons_of_mem _ (List.mem_append_left _ (List.mem_map.mpr ⟨i, List.mem_range.mpr hi, rfl⟩)))), hat (List.mem_cons_of_mem _ (List.mem_cons_of_mem _ (List.mem_append_right _ (List.mem_map.mpr ⟨i, List.mem_range.mpr hi, rfl⟩))))⟩, rfl, rfl, fun a c hc => ?_⟩
  · have hq3 : ∀ q ∈ gm_stt, (q.2.2.1 = 0 ∧ q.2.2.2.2 = ("GraphReader", "PRIMITIVE_SIZES", "[I")) ∨ (q.2.2.1 = 1 ∧ q.2.2.2.2 = ("jdk/internal/util/Preconditions", "SIOOBE_FORMATTER", "Ljava/util/function/BiFunction;")) ∨ (q.2.2.1 = 5 ∧ q.2.2.2.2 = ("java/lang/String", "COMPACT_STRINGS", "Z")) := by decide +kernel
    intro q hq
    rcases hq3 q hq with ⟨e1, e2⟩ | ⟨e1, e2⟩ | ⟨e1, e2⟩ <;> rw [e1, e2]
    · exact hZ0
    · exact hZ1
    · exact hZ5
  · intro q hq
    obtain ⟨h1, h2, i, hi, e1, e2⟩ := gm_lsr q hq
    refine ⟨adK i, ?_, ?_⟩
    · rw [e1]
      show (if 2 + i = 0 then _ else if 2 + i = 1 then _ else if 2 + i = 5 then _ else _) = _
      rw [if_neg (by omega), if_neg (by omega), if_neg (by omega), Nat.add_sub_cancel_left]
    · refine vk_R.of (A := #[Value.ref b]) (ht1 _ h1) ?_
      rw [h2, ← e2]
      exact hSe i hi
  · show (if 2 + i = 0 then _ else if 2 + i = 1 then _ else if 2 + i = 5 then _ else _) = _
    rw [if_neg (by omega), if_neg (by omega), if_neg (by omega), Nat.add_sub_cancel_left]
  · obtain ⟨g1, -, g3⟩ := hG _ (gm_g_mem hc)
    refine ⟨g1, ?_⟩
    rcases g3.2 with e | e | ⟨e, -⟩ <;> dsimp only at e <;> rw [e] <;> rfl
