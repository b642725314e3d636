/-! THE CLASS'S HEAP: what a GraphReader at x looks like. -/
/-- its own objects and arrays, made by the constructor one behind the other -/
def gx_A (h : gm_H) (x : Nat) : Prop := gm_kd h x = 0 ∧ gm_fv h x 4 = .ref (x + 1) ∧ gm_fv h x 5 = .ref (x + 2) ∧ gm_fv h x 8 = .ref (x + 3) ∧ gm_fv h x 10 = .ref (x + 4) ∧ gm_kd h (x + 1) = 110 ∧ gm_ln h (x + 1) = 6 ∧ gm_kd h (x + 2) = 102 ∧ gm_ln h (x + 2) = 700
  ∧ gm_kd h (x + 3) = 111 ∧ gm_ln h (x + 3) = 234 ∧ gm_kd h (x + 4) = 2 ∧ gm_fv h (x + 4) 0 = .ref (x + 5) ∧ gm_fv h (x + 4) 1 = .ref (x + 6) ∧ gm_kd h (x + 5) = 100 ∧ gm_ln h (x + 5) = 234 ∧ gm_kd h (x + 6) = 112 ∧ gm_ln h (x + 6) = 234 ∧ x + 6 < h.1
/-- an address where something may stand; F: those that are kept out -/
def gx_ok (h : gm_H) (x : Nat) (F : Nat → Prop) (a : Nat) : Prop := (a < x ∨ x + 6 < a) ∧ a < h.1 ∧ ¬ F a
def gx_ow (ca : Nat → Nat) : Option Nat → Value
  | none => .null
  | some c => .ref (ca c)
/-- a local class at a -/
def gx_cl (h : gm_H) (x : Nat) (ca : Nat → Nat) (F : Nat → Prop) (c : Nat) (C : gs_C) (a : Nat) : Prop := (gx_ok h x F a ∧ gx_ok h x F (a + 1) ∧ gx_ok h x F (a + 2)) ∧ gm_kd h a = 3 ∧ gm_fv h a 0 = .int (nI c) ∧ gm_fv h a 1 = .int (gs_kind C) ∧ gm_fv h a 2 = gx_ow ca (gs_sup C) ∧ gm_fv h a 3 = .long (gs_cid C) ∧ gm_fv h a 4 = .ref (a + 1) ∧ gm_fv h a 5 = .ref (a + 2)
  ∧ gm_fv h a 6 = .int (nI (gs_fs C).length) ∧ gm_fv h a 7 = .int (if gs_bar C = true then 1 else 0) ∧ gm_fv h a 8 = .int (gs_con C) ∧ (gs_fs C).length ≤ 4 ∧ gm_kd h (a + 1) = 100 ∧ gm_ln h (a + 1) = 4 ∧ gm_kd h (a + 2) = 100 ∧ gm_ln h (a + 2) = 4
  ∧ ∀ (j : Nat) (q : Int32 × Int32), (gs_fs C)[j]? = some q → gm_fv h (a + 1) j = .int q.1 ∧ gm_fv h (a + 2) j = .int q.2
/-- limits, bytes, classes -/
def gx_B (h : gm_H) (x : Nat) (K : gs_K) : Prop := gm_fv h x 0 = .int K.1.1 ∧ gm_fv h x 1 = .int K.1.2.1 ∧ gm_fv h x 2 = .int K.1.2.2.1 ∧ gm_fv h x 3 = .int K.1.2.2.2 ∧ gm_fv h x 6 = .int (nI (gs_n K)) ∧ gs_n K ≤ 700 ∧ ∀ i, i < gs_n K → gm_fv h (x + 2) i = .int (gs_sb K i)
/-- what was there before: the table of sizes, the three Strings -/
def gx_str : Nat → List Int32
  | 0 => gs_types
  | 1 => gs_tR
  | _ => gs_tI
def gx_G (E : Nat → Value) (h : gm_H) (x : Nat) (F : Nat → Prop) : Prop := (∃ z : Nat, E 0 = .ref z ∧ gx_ok h x F z ∧ gm_kd h z = 300 ∧ gm_ln h z = 6 ∧ ∀ j, j < 6 → gm_fv h z j = .int (([1, 2, 4, 8, 2, 1] : List Int32).getD j 0)) ∧ (E 5 = .int 1 ∧ (E 1 = .null ∨ ∃ z : Nat, E 1 = .ref z))
  ∧ ∀ i, i < 3 → ∃ a v : Nat, E (2 + i) = .ref a ∧ gx_ok h x F a ∧ gx_ok h x F v ∧ gm_kd h a = 6 ∧ gm_ln h a = 2 ∧ gm_fv h a 0 = .ref v ∧ gm_fv h a 1 = .int 0 ∧ gm_kd h v = 302 ∧ gm_ln h v = (gx_str i).length ∧ ∀ j, j < (gx_str i).length → gm_fv h v j = .int ((gx_str i).getD j 0)
def gx_C (E : Nat → Value) (h : gm_H) (x : Nat) (ca : Nat → Nat) (K : gs_K) (F : Nat → Prop) : Prop := (gx_G E h x F ∧ ∀ c, 6 ≤ c → gs_cls K c = none) ∧ ∀ c, c < 6 → (gs_cls K c = none → gm_fv h (x + 1) c = .null) ∧ ∀ C, gs_cls K c = some C → gm_fv h (x + 1) c = .ref (ca c) ∧ gx_cl h x ca F c C (ca c) ∧ ∀ s, gs_sup C = some s → s < c ∧ (gs_cls K s).isSome = true
/-- an object at t -/
def gx_th (h : gm_H) (ca : Nat → Nat) (o : gs_O) (t : Nat) : Prop := gm_kd h t = 4 ∧ gm_fv h t 0 = .int o.1 ∧ gm_fv h t 1 = gx_ow ca o.2.1 ∧ gm_fv h t 2 = .ref (t + 1) ∧ gm_fv h t 3 = .int o.2.2.2.1 ∧ gm_fv h t 4 = .int o.2.2.2.2 ∧ gm_kd h (t + 1) = 101 ∧ gm_ln h (t + 1) = o.2.2.1.length
  ∧ o.2.2.1.length < 1000 ∧ ∀ (j : Nat) (v : Int64), o.2.2.1[j]? = some v → gm_fv h (t + 1) j = .long v
/-- a descriptor and those above it; F: addresses that it has nothing at -/
def gx_ds (h : gm_H) (x : Nat) (ca : Nat → Nat) (K : gs_K) (F : Nat → Prop) : List gs_L → Value → Prop
  | [], v => v = .null
  | l :: L, v => ∃ a u w : Nat, v = .ref a ∧ gx_ok h x F a ∧ gx_ok h x F u ∧ gx_ok h x F w ∧ gm_kd h a = 1 ∧ gm_fv h a 0 = .int (nI (gs_nf l)) ∧ gm_fv h a 1 = .int (nI (gs_nl l)) ∧ gm_fv h a 2 = .long (gs_did l) ∧ gm_fv h a 3 = .int (gs_fl l) ∧ gm_fv h a 4 = .int (nI (gs_df l).length)
    ∧ gm_fv h a 5 = .ref u ∧ gm_fv h a 6 = .ref w ∧ gm_fv h a 8 = .int (nI L.length) ∧ gm_fv h a 9 = gx_ow ca (gs_own l) ∧ gm_kd h u = 100 ∧ gm_ln h u = (gs_df l).length ∧ gm_kd h w = 100 ∧ gm_ln h w = (gs_df l).length ∧ ((gs_df l).length ≤ 8 ∧ ∀ c, (gs_cls K c).isSome = true → u ≠ ca c ∧ u ≠ ca c + 1 ∧ u ≠ ca c + 2 ∧ w ≠ ca c ∧ w ≠ ca c + 1 ∧ w ≠ ca c + 2)
    ∧ gs_nf l + gs_nl l ≤ gs_n K ∧ (∀ c, gs_own l = some c → c < 6 ∧ (gs_cls K c).isSome = true) ∧ (∀ (j : Nat) (q : Int32 × Int32), (gs_df l)[j]? = some q → gm_fv h u j = .int q.1 ∧ gm_fv h w j = .int q.2 ∧ 0 ≤ q.2 ∧ q.2 < 8) ∧ gx_ds h x ca K F L (gm_fv h a 7)
/-- place, sizes, objects, handles -/
def gx_M (h : gm_H) (x : Nat) (K : gs_K) (s : gs_S) : Prop := gm_fv h x 7 = .int (nI (gs_pl s)) ∧ gs_pl s ≤ gs_n K ∧ gm_fv h x 9 = .int (nI (gs_hp s).length) ∧ (gs_hp s).length ≤ 234 ∧ gm_fv h (x + 4) 2 = .int (nI (gs_f1 s)) ∧ gm_fv h (x + 4) 3 = .int (nI (gs_hs s).length) ∧ gs_f1 s ≤ (gs_hs s).length ∧ (gs_hs s).length ≤ 234 ∧ ∃ r : Int32, gm_fv h x 12 = .int r
def gx_T (h : gm_H) (x : Nat) (ca : Nat → Nat) (F : Nat → Prop) (s : gs_S) (ta : Nat → Nat) : Prop := (∀ i j, i < j → j < (gs_hp s).length → ta i + 1 < ta j) ∧ ∀ (i : Nat) (o : gs_O), (gs_hp s)[i]? = some o → gm_fv h (x + 3) i = .ref (ta i) ∧ (gx_ok h x F (ta i) ∧ gx_ok h x F (ta i + 1)) ∧ gx_th h ca o (ta i)
def gx_H (h : gm_H) (x : Nat) (ca : Nat → Nat) (K : gs_K) (F : Nat → Prop) (s : gs_S) : Prop := ∀ (i : Nat) (e : Int32 × List gs_L), (gs_hs s)[i]? = some e → gm_fv h (x + 5) i = .int e.1 ∧ gx_ds h x ca K F e.2 (gm_fv h (x + 6) i)
/-- the classes of the heap's objects are there -/
def gs_isd (e : Int32 × List gs_L) : Bool := !e.2.isEmpty
def gs_dn (s : gs_S) : Nat := (gs_hs s).countP gs_isd
def gs_hok (K : gs_K) (s : gs_S) : Prop := (∀ (i : Nat) (o : gs_O) (c : Nat), (gs_hp s)[i]? = some o → o.2.1 = some c → (gs_cls K c).isSome = true) ∧ ∀ (i : Nat) (e : Int32 × List gs_L), (gs_hs s)[i]? = some e → e.2.length ≤ gs_dn s
def gx_R (E : Nat → Value) (h : gm_H) (x : Nat) (ca : Nat → Nat) (K : gs_K) (F : Nat → Prop) (s : gs_S) : Prop := gx_A h x ∧ gx_B h x K ∧ gx_C E h x ca K F ∧ gx_M h x K s ∧ (∃ ta, gx_T h x ca F s ta) ∧ gx_H h x ca K F s ∧ gs_hok K s
