/-! THE REFERENCE'S HEAP, by program (genm.py): the object at m, its 34 arrays behind it. -/
/-- ints and longs, by offset and place -/
abbrev gr_t : Type := (Nat → Nat → Int32) × (Nat → Nat → Int64)
def gr_k : Nat → Nat
  | 0 => 5
  | 1 => 200
  | 2 => 200
  | 3 => 201
  | 4 => 200
  | 5 => 200
  | 6 => 200
  | 7 => 200
  | 8 => 200
  | 9 => 203
  | 10 => 200
  | 11 => 200
  | 12 => 200
  | 13 => 200
  | 14 => 200
  | 15 => 201
  | 16 => 200
  | 17 => 200
  | 18 => 200
  | 19 => 200
  | 20 => 200
  | 21 => 200
  | 22 => 200
  | 23 => 201
  | 24 => 200
  | 25 => 200
  | 26 => 200
  | 27 => 200
  | 28 => 200
  | 29 => 200
  | 30 => 200
  | 31 => 200
  | 32 => 200
  | 33 => 200
  | 34 => 200
  | _ => 0
def gr_l : Nat → Nat
  | 0 => 48
  | 1 => 720
  | 2 => 6
  | 3 => 6
  | 4 => 6
  | 5 => 6
  | 6 => 24
  | 7 => 24
  | 8 => 6
  | 9 => 6
  | 10 => 720
  | 11 => 720
  | 12 => 720
  | 13 => 720
  | 14 => 720
  | 15 => 4000
  | 16 => 130
  | 17 => 130
  | 18 => 130
  | 19 => 130
  | 20 => 130
  | 21 => 130
  | 22 => 130
  | 23 => 130
  | 24 => 130
  | 25 => 1040
  | 26 => 1040
  | 27 => 130
  | 28 => 80
  | 29 => 80
  | 30 => 80
  | 31 => 80
  | 32 => 80
  | 33 => 80
  | 34 => 80
  | _ => 0
/-- the array of a field -/
def gr_p : Nat → Nat
  | 4 => 1
  | 10 => 2
  | 11 => 3
  | 12 => 4
  | 13 => 5
  | 14 => 6
  | 15 => 7
  | 16 => 8
  | 17 => 9
  | 18 => 10
  | 19 => 11
  | 20 => 12
  | 21 => 13
  | 22 => 14
  | 24 => 15
  | 26 => 16
  | 27 => 17
  | 29 => 18
  | 30 => 19
  | 31 => 20
  | 32 => 21
  | 33 => 22
  | 34 => 23
  | 35 => 24
  | 36 => 25
  | 37 => 26
  | 38 => 27
  | 40 => 28
  | 41 => 29
  | 42 => 30
  | 43 => 31
  | 44 => 32
  | 45 => 33
  | 46 => 34
  | _ => 0
def gr_lg : Nat → Bool
  | 3 => true
  | 15 => true
  | 23 => true
  | _ => false
def gr_v (m : Nat) (t : gr_t) (o i : Nat) : Value := if o = 0 then (if gr_p i = 0 then .int (t.1 0 i) else .ref (m + gr_p i)) else if gr_lg o = true then .long (t.2 o i) else .int (t.1 o i)
def gr_H (h : gm_H) (m : Nat) (t : gr_t) : gm_H := (h.1, h.2.1, fun b => if m ≤ b ∧ b ≤ m + 34 then some (gr_k (b - m), (List.range (gr_l (b - m))).map (gr_v m t (b - m))) else h.2.2 b)
def gr_ui (t : gr_t) (o i : Nat) (x : Int32) : gr_t := ((fun o2 i2 => if o2 = o ∧ i2 = i then x else t.1 o2 i2), t.2)
def gr_ul (t : gr_t) (o i : Nat) (x : Int64) : gr_t := (t.1, (fun o2 i2 => if o2 = o ∧ i2 = i then x else t.2 o2 i2))
section GR
variable {h : gm_H} {m o i o2 i2 : Nat} {t : gr_t} {x : Int32} {y : Int64}
theorem gr_rd (ho : o ≤ 34) : gm_rd (gr_H h m t) (m + o) = some (gr_k o, (List.range (gr_l o)).map (gr_v m t o)) := by
  show (if m ≤ m + o ∧ m + o ≤ m + 34 then some (gr_k (m + o - m), (List.range (gr_l (m + o - m))).map (gr_v m t (m + o - m))) else h.2.2 (m + o)) = _
  rw [if_pos ⟨by omega, by omega⟩, Nat.add_sub_cancel_left]
theorem gr_rdn {b : Nat} (hb : b < m ∨ m + 34 < b) : gm_rd (gr_H h m t) b = gm_rd h b := by
  show (if m ≤ b ∧ b ≤ m + 34 then some (gr_k (b - m), (List.range (gr_l (b - m))).map (gr_v m t (b - m))) else h.2.2 b) = _
  rw [if_neg (by omega)]
  rfl
theorem gr_1 : (gr_H h m t).1 = h.1 := rfl
theorem gr_2 : (gr_H h m t).2.1 = h.2.1 := rfl
theorem gr_kd (ho : o ≤ 34) (hk : gr_k o = 5 ∨ 100 ≤ gr_k o) (hl : gr_k o = 5 → gr_l o = gm_N 5) : gm_kd (gr_H h m t) (m + o) = gr_k o := by
  unfold gm_kd
  rw [gr_rd ho]
  dsimp only
  rw [if_neg]
  rintro ⟨h1, h2⟩
  rcases hk with z | z
  · rw [z] at h2
    simp at h2
    exact h2 (hl z)
  · omega
theorem gr_ln (ho : o ≤ 34) : gm_ln (gr_H h m t) (m + o) = gr_l o := by
  unfold gm_ln
  rw [gr_rd ho]
  simp
theorem gr_fv (ho : o ≤ 34) (hi : i < gr_l o) : gm_fv (gr_H h m t) (m + o) i = gr_v m t o i := by
  unfold gm_fv
  rw [gr_rd ho]
  simp [List.getD, hi]
theorem gr_sf {v : Value} {t' : gr_t} (ho : o ≤ 34) (hv : ∀ o2 i2, gr_v m t' o2 i2 = if o2 = o ∧ i2 = i then v else gr_v m t o2 i2) : gm_sf (gr_H h m t) (m + o) i v = gr_H h m t' := by
  unfold gm_sf
  rw [gr_rd ho]
  dsimp only
  unfold gm_wr gr_H
  refine Prod.ext rfl (Prod.ext rfl ?_)
  funext b
  dsimp only
  by_cases e : b = m + o
  · subst e
    rw [if_pos rfl, if_pos ⟨by omega, by omega⟩, Nat.add_sub_cancel_left]
    congr 2
    apply List.ext_getElem?
    intro j
    rw [List.getElem?_set, List.getElem?_map, List.getElem?_map]
    by_cases hj : j < gr_l o
    · rw [List.getElem?_range hj, List.length_map, List.length_range]
      by_cases e : i = j
      · subst e
        rw [if_pos rfl, if_pos hj]
        simp [hv]
      · rw [if_neg e]
        simp [hv, Ne.symm e]
    · rw [List.getElem?_eq_none (by simp; omega), List.length_map, List.length_range]
      by_cases e : i = j
      · subst e
        rw [if_pos rfl, if_neg hj]; rfl
      · rw [if_neg e]; rfl
  · rw [if_neg e]
    by_cases hb : m ≤ b ∧ b ≤ m + 34
    · rw [if_pos hb, if_pos hb]
      congr 2
      apply List.map_congr_left
      intro j _
      rw [hv, if_neg (fun z => e (by omega))]
    · rw [if_neg hb, if_neg hb]
theorem gr_ui_eq : (gr_ui t o i x).1 o i = x := by unfold gr_ui; simp
theorem gr_ui_no (ho : o2 ≠ o) : (gr_ui t o i x).1 o2 i2 = t.1 o2 i2 := by unfold gr_ui; simp [ho]
theorem gr_ui_ni (hi : i2 ≠ i) : (gr_ui t o i x).1 o2 i2 = t.1 o2 i2 := by unfold gr_ui; simp [hi]
theorem gr_ui_2 : (gr_ui t o i x).2 = t.2 := rfl
theorem gr_ul_eq : (gr_ul t o i y).2 o i = y := by unfold gr_ul; simp
theorem gr_ul_no (ho : o2 ≠ o) : (gr_ul t o i y).2 o2 i2 = t.2 o2 i2 := by unfold gr_ul; simp [ho]
theorem gr_ul_ni (hi : i2 ≠ i) : (gr_ul t o i y).2 o2 i2 = t.2 o2 i2 := by unfold gr_ul; simp [hi]
theorem gr_ul_1 : (gr_ul t o i y).1 = t.1 := rfl
theorem gr_wi (ho : o ≤ 34) (h1 : o = 0 → gr_p i = 0) (h2 : gr_lg o = false) : gm_sf (gr_H h m t) (m + o) i (.int x) = gr_H h m (gr_ui t o i x) := by
  refine gr_sf ho (fun o2 i2 => ?_)
  unfold gr_v
  by_cases e : o2 = o ∧ i2 = i
  · obtain ⟨rfl, rfl⟩ := e
    rw [if_pos (show o2 = o2 ∧ i2 = i2 from ⟨rfl, rfl⟩)]
    by_cases z : o2 = 0
    · subst z
      rw [if_pos rfl, if_pos (h1 rfl), gr_ui_eq]
    · rw [if_neg z, h2, gr_ui_eq]
      rfl
  · rw [if_neg e]
    have e1 : (gr_ui t o i x).1 o2 i2 = t.1 o2 i2 := by unfold gr_ui; dsimp only; rw [if_neg e]
    have e0 : o2 = 0 → (gr_ui t o i x).1 0 i2 = t.1 0 i2 := fun z => by subst z; exact e1
    by_cases z : o2 = 0
    · subst z
      simp only [if_true, e1]
    · simp only [z, if_false, e1, gr_ui_2]
theorem gr_wl (ho : o ≤ 34) (h1 : o ≠ 0) (h2 : gr_lg o = true) : gm_sf (gr_H h m t) (m + o) i (.long y) = gr_H h m (gr_ul t o i y) := by
  refine gr_sf ho (fun o2 i2 => ?_)
  unfold gr_v
  by_cases e : o2 = o ∧ i2 = i
  · obtain ⟨rfl, rfl⟩ := e
    rw [if_pos (show o2 = o2 ∧ i2 = i2 from ⟨rfl, rfl⟩), if_neg h1, if_pos h2, gr_ul_eq]
  · rw [if_neg e]
    have e1 : (gr_ul t o i y).2 o2 i2 = t.2 o2 i2 := by unfold gr_ul; dsimp only; rw [if_neg e]
    simp only [e1, gr_ul_1]
theorem g_k0 : gm_kd (gr_H h m t) m = 5 := gr_kd (o := 0) (by decide) (by decide) (fun _ => rfl)
theorem g_k1 : gm_kd (gr_H h m t) (m + 1) = 200 := gr_kd (o := 1) (by decide) (by decide) (fun z => by cases z)
theorem g_l1 : gm_ln (gr_H h m t) (m + 1) = 720 := gr_ln (o := 1) (by decide)
theorem g_p4 : gm_fv (gr_H h m t) m 4 = .ref (m + 1) := gr_fv (o := 0) (by decide) (by decide)
theorem g_a1 (hi : i < 720) : gm_fv (gr_H h m t) (m + 1) i = .int (t.1 1 i) := gr_fv (o := 1) (by decide) hi
theorem g_w1 : gm_sf (gr_H h m t) (m + 1) i (.int x) = gr_H h m (gr_ui t 1 i x) := gr_wi (o := 1) (by decide) (fun z => by cases z) rfl
theorem g_k2 : gm_kd (gr_H h m t) (m + 2) = 200 := gr_kd (o := 2) (by decide) (by decide) (fun z => by cases z)
theorem g_l2 : gm_ln (gr_H h m t) (m + 2) = 6 := gr_ln (o := 2) (by decide)
theorem g_p10 : gm_fv (gr_H h m t) m 10 = .ref (m + 2) := gr_fv (o := 0) (by decide) (by decide)
theorem g_a2 (hi : i < 6) : gm_fv (gr_H h m t) (m + 2) i = .int (t.1 2 i) := gr_fv (o := 2) (by decide) hi
theorem g_w2 : gm_sf (gr_H h m t) (m + 2) i (.int x) = gr_H h m (gr_ui t 2 i x) := gr_wi (o := 2) (by decide) (fun z => by cases z) rfl
theorem g_k3 : gm_kd (gr_H h m t) (m + 3) = 201 := gr_kd (o := 3) (by decide) (by decide) (fun z => by cases z)
theorem g_l3 : gm_ln (gr_H h m t) (m + 3) = 6 := gr_ln (o := 3) (by decide)
theorem g_p11 : gm_fv (gr_H h m t) m 11 = .ref (m + 3) := gr_fv (o := 0) (by decide) (by decide)
theorem g_a3 (hi : i < 6) : gm_fv (gr_H h m t) (m + 3) i = .long (t.2 3 i) := gr_fv (o := 3) (by decide) hi
theorem g_w3 : gm_sf (gr_H h m t) (m + 3) i (.long y) = gr_H h m (gr_ul t 3 i y) := gr_wl (o := 3) (by decide) (by decide) rfl
theorem g_k4 : gm_kd (gr_H h m t) (m + 4) = 200 := gr_kd (o := 4) (by decide) (by decide) (fun z => by cases z)
theorem g_l4 : gm_ln (gr_H h m t) (m + 4) = 6 := gr_ln (o := 4) (by decide)
theorem g_p12 : gm_fv (gr_H h m t) m 12 = .ref (m + 4) := gr_fv (o := 0) (by decide) (by decide)
theorem g_a4 (hi : i < 6) : gm_fv (gr_H h m t) (m + 4) i = .int (t.1 4 i) := gr_fv (o := 4) (by decide) hi
theorem g_w4 : gm_sf (gr_H h m t) (m + 4) i (.int x) = gr_H h m (gr_ui t 4 i x) := gr_wi (o := 4) (by decide) (fun z => by cases z) rfl
theorem g_k5 : gm_kd (gr_H h m t) (m + 5) = 200 := gr_kd (o := 5) (by decide) (by decide) (fun z => by cases z)
theorem g_l5 : gm_ln (gr_H h m t) (m + 5) = 6 := gr_ln (o := 5) (by decide)
theorem g_p13 : gm_fv (gr_H h m t) m 13 = .ref (m + 5) := gr_fv (o := 0) (by decide) (by decide)
theorem g_a5 (hi : i < 6) : gm_fv (gr_H h m t) (m + 5) i = .int (t.1 5 i) := gr_fv (o := 5) (by decide) hi
theorem g_w5 : gm_sf (gr_H h m t) (m + 5) i (.int x) = gr_H h m (gr_ui t 5 i x) := gr_wi (o := 5) (by decide) (fun z => by cases z) rfl
theorem g_k6 : gm_kd (gr_H h m t) (m + 6) = 200 := gr_kd (o := 6) (by decide) (by decide) (fun z => by cases z)
theorem g_l6 : gm_ln (gr_H h m t) (m + 6) = 24 := gr_ln (o := 6) (by decide)
theorem g_p14 : gm_fv (gr_H h m t) m 14 = .ref (m + 6) := gr_fv (o := 0) (by decide) (by decide)
theorem g_a6 (hi : i < 24) : gm_fv (gr_H h m t) (m + 6) i = .int (t.1 6 i) := gr_fv (o := 6) (by decide) hi
theorem g_w6 : gm_sf (gr_H h m t) (m + 6) i (.int x) = gr_H h m (gr_ui t 6 i x) := gr_wi (o := 6) (by decide) (fun z => by cases z) rfl
theorem g_k7 : gm_kd (gr_H h m t) (m + 7) = 200 := gr_kd (o := 7) (by decide) (by decide) (fun z => by cases z)
theorem g_l7 : gm_ln (gr_H h m t) (m + 7) = 24 := gr_ln (o := 7) (by decide)
theorem g_p15 : gm_fv (gr_H h m t) m 15 = .ref (m + 7) := gr_fv (o := 0) (by decide) (by decide)
theorem g_a7 (hi : i < 24) : gm_fv (gr_H h m t) (m + 7) i = .int (t.1 7 i) := gr_fv (o := 7) (by decide) hi
theorem g_w7 : gm_sf (gr_H h m t) (m + 7) i (.int x) = gr_H h m (gr_ui t 7 i x) := gr_wi (o := 7) (by decide) (fun z => by cases z) rfl
theorem g_k8 : gm_kd (gr_H h m t) (m + 8) = 200 := gr_kd (o := 8) (by decide) (by decide) (fun z => by cases z)
theorem g_l8 : gm_ln (gr_H h m t) (m + 8) = 6 := gr_ln (o := 8) (by decide)
theorem g_p16 : gm_fv (gr_H h m t) m 16 = .ref (m + 8) := gr_fv (o := 0) (by decide) (by decide)
theorem g_a8 (hi : i < 6) : gm_fv (gr_H h m t) (m + 8) i = .int (t.1 8 i) := gr_fv (o := 8) (by decide) hi
theorem g_w8 : gm_sf (gr_H h m t) (m + 8) i (.int x) = gr_H h m (gr_ui t 8 i x) := gr_wi (o := 8) (by decide) (fun z => by cases z) rfl
theorem g_k9 : gm_kd (gr_H h m t) (m + 9) = 203 := gr_kd (o := 9) (by decide) (by decide) (fun z => by cases z)
theorem g_l9 : gm_ln (gr_H h m t) (m + 9) = 6 := gr_ln (o := 9) (by decide)
theorem g_p17 : gm_fv (gr_H h m t) m 17 = .ref (m + 9) := gr_fv (o := 0) (by decide) (by decide)
theorem g_a9 (hi : i < 6) : gm_fv (gr_H h m t) (m + 9) i = .int (t.1 9 i) := gr_fv (o := 9) (by decide) hi
theorem g_w9 : gm_sf (gr_H h m t) (m + 9) i (.int x) = gr_H h m (gr_ui t 9 i x) := gr_wi (o := 9) (by decide) (fun z => by cases z) rfl
theorem g_k10 : gm_kd (gr_H h m t) (m + 10) = 200 := gr_kd (o := 10) (by decide) (by decide) (fun z => by cases z)
theorem g_l10 : gm_ln (gr_H h m t) (m + 10) = 720 := gr_ln (o := 10) (by decide)
theorem g_p18 : gm_fv (gr_H h m t) m 18 = .ref (m + 10) := gr_fv (o := 0) (by decide) (by decide)
theorem g_a10 (hi : i < 720) : gm_fv (gr_H h m t) (m + 10) i = .int (t.1 10 i) := gr_fv (o := 10) (by decide) hi
theorem g_w10 : gm_sf (gr_H h m t) (m + 10) i (.int x) = gr_H h m (gr_ui t 10 i x) := gr_wi (o := 10) (by decide) (fun z => by cases z) rfl
theorem g_k11 : gm_kd (gr_H h m t) (m + 11) = 200 := gr_kd (o := 11) (by decide) (by decide) (fun z => by cases z)
theorem g_l11 : gm_ln (gr_H h m t) (m + 11) = 720 := gr_ln (o := 11) (by decide)
theorem g_p19 : gm_fv (gr_H h m t) m 19 = .ref (m + 11) := gr_fv (o := 0) (by decide) (by decide)
theorem g_a11 (hi : i < 720) : gm_fv (gr_H h m t) (m + 11) i = .int (t.1 11 i) := gr_fv (o := 11) (by decide) hi
theorem g_w11 : gm_sf (gr_H h m t) (m + 11) i (.int x) = gr_H h m (gr_ui t 11 i x) := gr_wi (o := 11) (by decide) (fun z => by cases z) rfl
theorem g_k12 : gm_kd (gr_H h m t) (m + 12) = 200 := gr_kd (o := 12) (by decide) (by decide) (fun z => by cases z)
theorem g_l12 : gm_ln (gr_H h m t) (m + 12) = 720 := gr_ln (o := 12) (by decide)
theorem g_p20 : gm_fv (gr_H h m t) m 20 = .ref (m + 12) := gr_fv (o := 0) (by decide) (by decide)
theorem g_a12 (hi : i < 720) : gm_fv (gr_H h m t) (m + 12) i = .int (t.1 12 i) := gr_fv (o := 12) (by decide) hi
theorem g_w12 : gm_sf (gr_H h m t) (m + 12) i (.int x) = gr_H h m (gr_ui t 12 i x) := gr_wi (o := 12) (by decide) (fun z => by cases z) rfl
theorem g_k13 : gm_kd (gr_H h m t) (m + 13) = 200 := gr_kd (o := 13) (by decide) (by decide) (fun z => by cases z)
theorem g_l13 : gm_ln (gr_H h m t) (m + 13) = 720 := gr_ln (o := 13) (by decide)
theorem g_p21 : gm_fv (gr_H h m t) m 21 = .ref (m + 13) := gr_fv (o := 0) (by decide) (by decide)
theorem g_a13 (hi : i < 720) : gm_fv (gr_H h m t) (m + 13) i = .int (t.1 13 i) := gr_fv (o := 13) (by decide) hi
theorem g_w13 : gm_sf (gr_H h m t) (m + 13) i (.int x) = gr_H h m (gr_ui t 13 i x) := gr_wi (o := 13) (by decide) (fun z => by cases z) rfl
theorem g_k14 : gm_kd (gr_H h m t) (m + 14) = 200 := gr_kd (o := 14) (by decide) (by decide) (fun z => by cases z)
theorem g_l14 : gm_ln (gr_H h m t) (m + 14) = 720 := gr_ln (o := 14) (by decide)
theorem g_p22 : gm_fv (gr_H h m t) m 22 = .ref (m + 14) := gr_fv (o := 0) (by decide) (by decide)
theorem g_a14 (hi : i < 720) : gm_fv (gr_H h m t) (m + 14) i = .int (t.1 14 i) := gr_fv (o := 14) (by decide) hi
theorem g_w14 : gm_sf (gr_H h m t) (m + 14) i (.int x) = gr_H h m (gr_ui t 14 i x) := gr_wi (o := 14) (by decide) (fun z => by cases z) rfl
theorem g_k15 : gm_kd (gr_H h m t) (m + 15) = 201 := gr_kd (o := 15) (by decide) (by decide) (fun z => by cases z)
theorem g_l15 : gm_ln (gr_H h m t) (m + 15) = 4000 := gr_ln (o := 15) (by decide)
theorem g_p24 : gm_fv (gr_H h m t) m 24 = .ref (m + 15) := gr_fv (o := 0) (by decide) (by decide)
theorem g_a15 (hi : i < 4000) : gm_fv (gr_H h m t) (m + 15) i = .long (t.2 15 i) := gr_fv (o := 15) (by decide) hi
theorem g_w15 : gm_sf (gr_H h m t) (m + 15) i (.long y) = gr_H h m (gr_ul t 15 i y) := gr_wl (o := 15) (by decide) (by decide) rfl
theorem g_k16 : gm_kd (gr_H h m t) (m + 16) = 200 := gr_kd (o := 16) (by decide) (by decide) (fun z => by cases z)
theorem g_l16 : gm_ln (gr_H h m t) (m + 16) = 130 := gr_ln (o := 16) (by decide)
theorem g_p26 : gm_fv (gr_H h m t) m 26 = .ref (m + 16) := gr_fv (o := 0) (by decide) (by decide)
theorem g_a16 (hi : i < 130) : gm_fv (gr_H h m t) (m + 16) i = .int (t.1 16 i) := gr_fv (o := 16) (by decide) hi
theorem g_w16 : gm_sf (gr_H h m t) (m + 16) i (.int x) = gr_H h m (gr_ui t 16 i x) := gr_wi (o := 16) (by decide) (fun z => by cases z) rfl
theorem g_k17 : gm_kd (gr_H h m t) (m + 17) = 200 := gr_kd (o := 17) (by decide) (by decide) (fun z => by cases z)
theorem g_l17 : gm_ln (gr_H h m t) (m + 17) = 130 := gr_ln (o := 17) (by decide)
theorem g_p27 : gm_fv (gr_H h m t) m 27 = .ref (m + 17) := gr_fv (o := 0) (by decide) (by decide)
theorem g_a17 (hi : i < 130) : gm_fv (gr_H h m t) (m + 17) i = .int (t.1 17 i) := gr_fv (o := 17) (by decide) hi
theorem g_w17 : gm_sf (gr_H h m t) (m + 17) i (.int x) = gr_H h m (gr_ui t 17 i x) := gr_wi (o := 17) (by decide) (fun z => by cases z) rfl
theorem g_k18 : gm_kd (gr_H h m t) (m + 18) = 200 := gr_kd (o := 18) (by decide) (by decide) (fun z => by cases z)
theorem g_l18 : gm_ln (gr_H h m t) (m + 18) = 130 := gr_ln (o := 18) (by decide)
theorem g_p29 : gm_fv (gr_H h m t) m 29 = .ref (m + 18) := gr_fv (o := 0) (by decide) (by decide)
theorem g_a18 (hi : i < 130) : gm_fv (gr_H h m t) (m + 18) i = .int (t.1 18 i) := gr_fv (o := 18) (by decide) hi
theorem g_w18 : gm_sf (gr_H h m t) (m + 18) i (.int x) = gr_H h m (gr_ui t 18 i x) := gr_wi (o := 18) (by decide) (fun z => by cases z) rfl
theorem g_k19 : gm_kd (gr_H h m t) (m + 19) = 200 := gr_kd (o := 19) (by decide) (by decide) (fun z => by cases z)
theorem g_l19 : gm_ln (gr_H h m t) (m + 19) = 130 := gr_ln (o := 19) (by decide)
theorem g_p30 : gm_fv (gr_H h m t) m 30 = .ref (m + 19) := gr_fv (o := 0) (by decide) (by decide)
theorem g_a19 (hi : i < 130) : gm_fv (gr_H h m t) (m + 19) i = .int (t.1 19 i) := gr_fv (o := 19) (by decide) hi
theorem g_w19 : gm_sf (gr_H h m t) (m + 19) i (.int x) = gr_H h m (gr_ui t 19 i x) := gr_wi (o := 19) (by decide) (fun z => by cases z) rfl
theorem g_k20 : gm_kd (gr_H h m t) (m + 20) = 200 := gr_kd (o := 20) (by decide) (by decide) (fun z => by cases z)
theorem g_l20 : gm_ln (gr_H h m t) (m + 20) = 130 := gr_ln (o := 20) (by decide)
theorem g_p31 : gm_fv (gr_H h m t) m 31 = .ref (m + 20) := gr_fv (o := 0) (by decide) (by decide)
theorem g_a20 (hi : i < 130) : gm_fv (gr_H h m t) (m + 20) i = .int (t.1 20 i) := gr_fv (o := 20) (by decide) hi
theorem g_w20 : gm_sf (gr_H h m t) (m + 20) i (.int x) = gr_H h m (gr_ui t 20 i x) := gr_wi (o := 20) (by decide) (fun z => by cases z) rfl
theorem g_k21 : gm_kd (gr_H h m t) (m + 21) = 200 := gr_kd (o := 21) (by decide) (by decide) (fun z => by cases z)
theorem g_l21 : gm_ln (gr_H h m t) (m + 21) = 130 := gr_ln (o := 21) (by decide)
theorem g_p32 : gm_fv (gr_H h m t) m 32 = .ref (m + 21) := gr_fv (o := 0) (by decide) (by decide)
theorem g_a21 (hi : i < 130) : gm_fv (gr_H h m t) (m + 21) i = .int (t.1 21 i) := gr_fv (o := 21) (by decide) hi
theorem g_w21 : gm_sf (gr_H h m t) (m + 21) i (.int x) = gr_H h m (gr_ui t 21 i x) := gr_wi (o := 21) (by decide) (fun z => by cases z) rfl
theorem g_k22 : gm_kd (gr_H h m t) (m + 22) = 200 := gr_kd (o := 22) (by decide) (by decide) (fun z => by cases z)
theorem g_l22 : gm_ln (gr_H h m t) (m + 22) = 130 := gr_ln (o := 22) (by decide)
theorem g_p33 : gm_fv (gr_H h m t) m 33 = .ref (m + 22) := gr_fv (o := 0) (by decide) (by decide)
theorem g_a22 (hi : i < 130) : gm_fv (gr_H h m t) (m + 22) i = .int (t.1 22 i) := gr_fv (o := 22) (by decide) hi
theorem g_w22 : gm_sf (gr_H h m t) (m + 22) i (.int x) = gr_H h m (gr_ui t 22 i x) := gr_wi (o := 22) (by decide) (fun z => by cases z) rfl
theorem g_k23 : gm_kd (gr_H h m t) (m + 23) = 201 := gr_kd (o := 23) (by decide) (by decide) (fun z => by cases z)
theorem g_l23 : gm_ln (gr_H h m t) (m + 23) = 130 := gr_ln (o := 23) (by decide)
theorem g_p34 : gm_fv (gr_H h m t) m 34 = .ref (m + 23) := gr_fv (o := 0) (by decide) (by decide)
theorem g_a23 (hi : i < 130) : gm_fv (gr_H h m t) (m + 23) i = .long (t.2 23 i) := gr_fv (o := 23) (by decide) hi
theorem g_w23 : gm_sf (gr_H h m t) (m + 23) i (.long y) = gr_H h m (gr_ul t 23 i y) := gr_wl (o := 23) (by decide) (by decide) rfl
theorem g_k24 : gm_kd (gr_H h m t) (m + 24) = 200 := gr_kd (o := 24) (by decide) (by decide) (fun z => by cases z)
theorem g_l24 : gm_ln (gr_H h m t) (m + 24) = 130 := gr_ln (o := 24) (by decide)
theorem g_p35 : gm_fv (gr_H h m t) m 35 = .ref (m + 24) := gr_fv (o := 0) (by decide) (by decide)
theorem g_a24 (hi : i < 130) : gm_fv (gr_H h m t) (m + 24) i = .int (t.1 24 i) := gr_fv (o := 24) (by decide) hi
theorem g_w24 : gm_sf (gr_H h m t) (m + 24) i (.int x) = gr_H h m (gr_ui t 24 i x) := gr_wi (o := 24) (by decide) (fun z => by cases z) rfl
theorem g_k25 : gm_kd (gr_H h m t) (m + 25) = 200 := gr_kd (o := 25) (by decide) (by decide) (fun z => by cases z)
theorem g_l25 : gm_ln (gr_H h m t) (m + 25) = 1040 := gr_ln (o := 25) (by decide)
theorem g_p36 : gm_fv (gr_H h m t) m 36 = .ref (m + 25) := gr_fv (o := 0) (by decide) (by decide)
theorem g_a25 (hi : i < 1040) : gm_fv (gr_H h m t) (m + 25) i = .int (t.1 25 i) := gr_fv (o := 25) (by decide) hi
theorem g_w25 : gm_sf (gr_H h m t) (m + 25) i (.int x) = gr_H h m (gr_ui t 25 i x) := gr_wi (o := 25) (by decide) (fun z => by cases z) rfl
theorem g_k26 : gm_kd (gr_H h m t) (m + 26) = 200 := gr_kd (o := 26) (by decide) (by decide) (fun z => by cases z)
theorem g_l26 : gm_ln (gr_H h m t) (m + 26) = 1040 := gr_ln (o := 26) (by decide)
theorem g_p37 : gm_fv (gr_H h m t) m 37 = .ref (m + 26) := gr_fv (o := 0) (by decide) (by decide)
theorem g_a26 (hi : i < 1040) : gm_fv (gr_H h m t) (m + 26) i = .int (t.1 26 i) := gr_fv (o := 26) (by decide) hi
theorem g_w26 : gm_sf (gr_H h m t) (m + 26) i (.int x) = gr_H h m (gr_ui t 26 i x) := gr_wi (o := 26) (by decide) (fun z => by cases z) rfl
theorem g_k27 : gm_kd (gr_H h m t) (m + 27) = 200 := gr_kd (o := 27) (by decide) (by decide) (fun z => by cases z)
theorem g_l27 : gm_ln (gr_H h m t) (m + 27) = 130 := gr_ln (o := 27) (by decide)
theorem g_p38 : gm_fv (gr_H h m t) m 38 = .ref (m + 27) := gr_fv (o := 0) (by decide) (by decide)
theorem g_a27 (hi : i < 130) : gm_fv (gr_H h m t) (m + 27) i = .int (t.1 27 i) := gr_fv (o := 27) (by decide) hi
theorem g_w27 : gm_sf (gr_H h m t) (m + 27) i (.int x) = gr_H h m (gr_ui t 27 i x) := gr_wi (o := 27) (by decide) (fun z => by cases z) rfl
theorem g_k28 : gm_kd (gr_H h m t) (m + 28) = 200 := gr_kd (o := 28) (by decide) (by decide) (fun z => by cases z)
theorem g_l28 : gm_ln (gr_H h m t) (m + 28) = 80 := gr_ln (o := 28) (by decide)
theorem g_p40 : gm_fv (gr_H h m t) m 40 = .ref (m + 28) := gr_fv (o := 0) (by decide) (by decide)
theorem g_a28 (hi : i < 80) : gm_fv (gr_H h m t) (m + 28) i = .int (t.1 28 i) := gr_fv (o := 28) (by decide) hi
theorem g_w28 : gm_sf (gr_H h m t) (m + 28) i (.int x) = gr_H h m (gr_ui t 28 i x) := gr_wi (o := 28) (by decide) (fun z => by cases z) rfl
theorem g_k29 : gm_kd (gr_H h m t) (m + 29) = 200 := gr_kd (o := 29) (by decide) (by decide) (fun z => by cases z)
theorem g_l29 : gm_ln (gr_H h m t) (m + 29) = 80 := gr_ln (o := 29) (by decide)
theorem g_p41 : gm_fv (gr_H h m t) m 41 = .ref (m + 29) := gr_fv (o := 0) (by decide) (by decide)
theorem g_a29 (hi : i < 80) : gm_fv (gr_H h m t) (m + 29) i = .int (t.1 29 i) := gr_fv (o := 29) (by decide) hi
theorem g_w29 : gm_sf (gr_H h m t) (m + 29) i (.int x) = gr_H h m (gr_ui t 29 i x) := gr_wi (o := 29) (by decide) (fun z => by cases z) rfl
theorem g_k30 : gm_kd (gr_H h m t) (m + 30) = 200 := gr_kd (o := 30) (by decide) (by decide) (fun z => by cases z)
theorem g_l30 : gm_ln (gr_H h m t) (m + 30) = 80 := gr_ln (o := 30) (by decide)
theorem g_p42 : gm_fv (gr_H h m t) m 42 = .ref (m + 30) := gr_fv (o := 0) (by decide) (by decide)
theorem g_a30 (hi : i < 80) : gm_fv (gr_H h m t) (m + 30) i = .int (t.1 30 i) := gr_fv (o := 30) (by decide) hi
theorem g_w30 : gm_sf (gr_H h m t) (m + 30) i (.int x) = gr_H h m (gr_ui t 30 i x) := gr_wi (o := 30) (by decide) (fun z => by cases z) rfl
theorem g_k31 : gm_kd (gr_H h m t) (m + 31) = 200 := gr_kd (o := 31) (by decide) (by decide) (fun z => by cases z)
theorem g_l31 : gm_ln (gr_H h m t) (m + 31) = 80 := gr_ln (o := 31) (by decide)
theorem g_p43 : gm_fv (gr_H h m t) m 43 = .ref (m + 31) := gr_fv (o := 0) (by decide) (by decide)
theorem g_a31 (hi : i < 80) : gm_fv (gr_H h m t) (m + 31) i = .int (t.1 31 i) := gr_fv (o := 31) (by decide) hi
theorem g_w31 : gm_sf (gr_H h m t) (m + 31) i (.int x) = gr_H h m (gr_ui t 31 i x) := gr_wi (o := 31) (by decide) (fun z => by cases z) rfl
theorem g_k32 : gm_kd (gr_H h m t) (m + 32) = 200 := gr_kd (o := 32) (by decide) (by decide) (fun z => by cases z)
theorem g_l32 : gm_ln (gr_H h m t) (m + 32) = 80 := gr_ln (o := 32) (by decide)
theorem g_p44 : gm_fv (gr_H h m t) m 44 = .ref (m + 32) := gr_fv (o := 0) (by decide) (by decide)
theorem g_a32 (hi : i < 80) : gm_fv (gr_H h m t) (m + 32) i = .int (t.1 32 i) := gr_fv (o := 32) (by decide) hi
theorem g_w32 : gm_sf (gr_H h m t) (m + 32) i (.int x) = gr_H h m (gr_ui t 32 i x) := gr_wi (o := 32) (by decide) (fun z => by cases z) rfl
theorem g_k33 : gm_kd (gr_H h m t) (m + 33) = 200 := gr_kd (o := 33) (by decide) (by decide) (fun z => by cases z)
theorem g_l33 : gm_ln (gr_H h m t) (m + 33) = 80 := gr_ln (o := 33) (by decide)
theorem g_p45 : gm_fv (gr_H h m t) m 45 = .ref (m + 33) := gr_fv (o := 0) (by decide) (by decide)
theorem g_a33 (hi : i < 80) : gm_fv (gr_H h m t) (m + 33) i = .int (t.1 33 i) := gr_fv (o := 33) (by decide) hi
theorem g_w33 : gm_sf (gr_H h m t) (m + 33) i (.int x) = gr_H h m (gr_ui t 33 i x) := gr_wi (o := 33) (by decide) (fun z => by cases z) rfl
theorem g_k34 : gm_kd (gr_H h m t) (m + 34) = 200 := gr_kd (o := 34) (by decide) (by decide) (fun z => by cases z)
theorem g_l34 : gm_ln (gr_H h m t) (m + 34) = 80 := gr_ln (o := 34) (by decide)
theorem g_p46 : gm_fv (gr_H h m t) m 46 = .ref (m + 34) := gr_fv (o := 0) (by decide) (by decide)
theorem g_a34 (hi : i < 80) : gm_fv (gr_H h m t) (m + 34) i = .int (t.1 34 i) := gr_fv (o := 34) (by decide) hi
theorem g_w34 : gm_sf (gr_H h m t) (m + 34) i (.int x) = gr_H h m (gr_ui t 34 i x) := gr_wi (o := 34) (by decide) (fun z => by cases z) rfl
theorem g_f0 : gm_fv (gr_H h m t) m 0 = .int (t.1 0 0) := gr_fv (o := 0) (by decide) (by decide)
theorem g_s0 : gm_sf (gr_H h m t) m 0 (.int x) = gr_H h m (gr_ui t 0 0 x) := gr_wi (o := 0) (by decide) (fun _ => rfl) rfl
theorem g_f1 : gm_fv (gr_H h m t) m 1 = .int (t.1 0 1) := gr_fv (o := 0) (by decide) (by decide)
theorem g_s1 : gm_sf (gr_H h m t) m 1 (.int x) = gr_H h m (gr_ui t 0 1 x) := gr_wi (o := 0) (by decide) (fun _ => rfl) rfl
theorem g_f2 : gm_fv (gr_H h m t) m 2 = .int (t.1 0 2) := gr_fv (o := 0) (by decide) (by decide)
theorem g_s2 : gm_sf (gr_H h m t) m 2 (.int x) = gr_H h m (gr_ui t 0 2 x) := gr_wi (o := 0) (by decide) (fun _ => rfl) rfl
theorem g_f3 : gm_fv (gr_H h m t) m 3 = .int (t.1 0 3) := gr_fv (o := 0) (by decide) (by decide)
theorem g_s3 : gm_sf (gr_H h m t) m 3 (.int x) = gr_H h m (gr_ui t 0 3 x) := gr_wi (o := 0) (by decide) (fun _ => rfl) rfl
theorem g_f5 : gm_fv (gr_H h m t) m 5 = .int (t.1 0 5) := gr_fv (o := 0) (by decide) (by decide)
theorem g_s5 : gm_sf (gr_H h m t) m 5 (.int x) = gr_H h m (gr_ui t 0 5 x) := gr_wi (o := 0) (by decide) (fun _ => rfl) rfl
theorem g_f6 : gm_fv (gr_H h m t) m 6 = .int (t.1 0 6) := gr_fv (o := 0) (by decide) (by decide)
theorem g_s6 : gm_sf (gr_H h m t) m 6 (.int x) = gr_H h m (gr_ui t 0 6 x) := gr_wi (o := 0) (by decide) (fun _ => rfl) rfl
theorem g_f7 : gm_fv (gr_H h m t) m 7 = .int (t.1 0 7) := gr_fv (o := 0) (by decide) (by decide)
theorem g_s7 : gm_sf (gr_H h m t) m 7 (.int x) = gr_H h m (gr_ui t 0 7 x) := gr_wi (o := 0) (by decide) (fun _ => rfl) rfl
theorem g_f8 : gm_fv (gr_H h m t) m 8 = .int (t.1 0 8) := gr_fv (o := 0) (by decide) (by decide)
theorem g_s8 : gm_sf (gr_H h m t) m 8 (.int x) = gr_H h m (gr_ui t 0 8 x) := gr_wi (o := 0) (by decide) (fun _ => rfl) rfl
theorem g_f9 : gm_fv (gr_H h m t) m 9 = .int (t.1 0 9) := gr_fv (o := 0) (by decide) (by decide)
theorem g_s9 : gm_sf (gr_H h m t) m 9 (.int x) = gr_H h m (gr_ui t 0 9 x) := gr_wi (o := 0) (by decide) (fun _ => rfl) rfl
theorem g_f23 : gm_fv (gr_H h m t) m 23 = .int (t.1 0 23) := gr_fv (o := 0) (by decide) (by decide)
theorem g_s23 : gm_sf (gr_H h m t) m 23 (.int x) = gr_H h m (gr_ui t 0 23 x) := gr_wi (o := 0) (by decide) (fun _ => rfl) rfl
theorem g_f25 : gm_fv (gr_H h m t) m 25 = .int (t.1 0 25) := gr_fv (o := 0) (by decide) (by decide)
theorem g_s25 : gm_sf (gr_H h m t) m 25 (.int x) = gr_H h m (gr_ui t 0 25 x) := gr_wi (o := 0) (by decide) (fun _ => rfl) rfl
theorem g_f28 : gm_fv (gr_H h m t) m 28 = .int (t.1 0 28) := gr_fv (o := 0) (by decide) (by decide)
theorem g_s28 : gm_sf (gr_H h m t) m 28 (.int x) = gr_H h m (gr_ui t 0 28 x) := gr_wi (o := 0) (by decide) (fun _ => rfl) rfl
theorem g_f39 : gm_fv (gr_H h m t) m 39 = .int (t.1 0 39) := gr_fv (o := 0) (by decide) (by decide)
theorem g_s39 : gm_sf (gr_H h m t) m 39 (.int x) = gr_H h m (gr_ui t 0 39 x) := gr_wi (o := 0) (by decide) (fun _ => rfl) rfl
theorem g_f47 : gm_fv (gr_H h m t) m 47 = .int (t.1 0 47) := gr_fv (o := 0) (by decide) (by decide)
theorem g_s47 : gm_sf (gr_H h m t) m 47 (.int x) = gr_H h m (gr_ui t 0 47 x) := gr_wi (o := 0) (by decide) (fun _ => rfl) rfl
end GR
/-! THE REFERENCE, 1: small methods. -/
section M2
variable {E : Nat → Value} {d m : Nat} {h : gm_H} {t : gr_t}
theorem m_clamp {v a b : Int32} : gm_Ca E d 3 [.ref m, .int v, .int a, .int b] (gr_H h m t) (gx_v (some (.int (if a ≤ v then (if v ≤ b then v else b) else a))) (gr_H h m t)) := by
  show gm_W E d 3 0 [.ref m, .int v, .int a, .int b] [] (gr_H h m t) _
  simp only [r3_0, r3_1, r3_2, r3_5, r3_6, r3_9, r3_10, r3_11, r3_14, r3_15, r3_18, r3_19, i32_10, reduceIte, gm_cmp1, gm_cmp3, gm_cmp4, gm_kd_sf, gm_ln_sf, gm_sf_1, gm_sf_2, gm_nw_1, gm_nw_2, gm_k_int, gm_k_ref, gm_k_null, gm_k_u, gm_k_long, and_true, true_and, true_or, or_true, or_false, false_or, and_self, or_self, if_true, if_false, List.map_nil, List.map_cons, List.sum_nil, List.sum_cons, Nat.zero_le, Option.toList_some, Option.toList_none, List.cons_append, List.nil_append, ne_eq, not_false_eq_true, not_true_eq_false, nI_1, nI_add, Value.category, Nat.reduceAdd, Nat.reduceMod, Nat.reduceLeDiff, Nat.reduceLT, Nat.reduceEqDiff, Nat.reducePow, Nat.le_refl, Nat.add_left_cancel_iff, Nat.add_eq_left, Nat.left_eq_add, Nat.add_zero]
  by_cases h1 : a ≤ v
  · by_cases h2 : v ≤ b <;> simp [h1, h2, gx_v]
  · simp [h1, gx_v]
theorem m_out {v n : Int32} : gm_Ca E d 4 [.ref m, .int v, .int n] (gr_H h m t) (gx_v (some (.int (if v < 0 then 1 else if v < n then 0 else 1))) (gr_H h m t)) := by
  show gm_W E d 4 0 [.ref m, .int v, .int n] [] (gr_H h m t) _
  simp only [r4_0, r4_1, r4_4, r4_5, r4_6, r4_9, r4_10, r4_13, r4_14, i32_10, reduceIte, gm_cmp1, gm_cmp3, gm_cmp4, gm_kd_sf, gm_ln_sf, gm_sf_1, gm_sf_2, gm_nw_1, gm_nw_2, gm_k_int, gm_k_ref, gm_k_null, gm_k_u, gm_k_long, and_true, true_and, true_or, or_true, or_false, false_or, and_self, or_self, if_true, if_false, List.map_nil, List.map_cons, List.sum_nil, List.sum_cons, Nat.zero_le, Option.toList_some, Option.toList_none, List.cons_append, List.nil_append, ne_eq, not_false_eq_true, not_true_eq_false, nI_1, nI_add, Value.category, Nat.reduceAdd, Nat.reduceMod, Nat.reduceLeDiff, Nat.reduceLT, Nat.reduceEqDiff, Nat.reducePow, Nat.le_refl, Nat.add_left_cancel_iff, Nat.add_eq_left, Nat.left_eq_add, Nat.add_zero]
  by_cases h1 : v < 0
  · simp [h1, gx_v]
  · by_cases h2 : v < n <;> simp [h1, h2, gx_v]
/-- is there no class of this number -/
def gr_noc (t : gr_t) (c : Int32) : Bool := decide (c < 0) || decide (6 ≤ c) || decide (t.1 2 c.toNatClampNeg < 0)
theorem m_noClass {c : Int32} (hd : 1 ≤ d) : gm_Ca E d 5 [.ref m, .int c] (gr_H h m t) (gx_v (some (.int (if gr_noc t c = true then 1 else 0))) (gr_H h m t)) := by
  show gm_W E d 5 0 [.ref m, .int c] [] (gr_H h m t) _
  simp only [r5_0, r5_0n, r5_1, r5_2, r5_7, r5_10, r5_10n, r5_11, r5_14, r5_15, r5_16, r5_19, r5_20, r5_23, r5_24, i32_10, reduceIte, gm_cmp1, gm_cmp3, gm_cmp4, gm_kd_sf, gm_ln_sf, gm_sf_1, gm_sf_2, gm_nw_1, gm_nw_2, gm_k_int, gm_k_ref, gm_k_null, gm_k_u, gm_k_long, and_true, true_and, true_or, or_true, or_false, false_or, and_self, or_self, if_true, if_false, List.map_nil, List.map_cons, List.sum_nil, List.sum_cons, Nat.zero_le, Option.toList_some, Option.toList_none, List.cons_append, List.nil_append, ne_eq, not_false_eq_true, not_true_eq_false, nI_1, nI_add, Value.category, Nat.reduceAdd, Nat.reduceMod, Nat.reduceLeDiff, Nat.reduceLT, Nat.reduceEqDiff, Nat.reducePow, Nat.le_refl, Nat.add_left_cancel_iff, Nat.add_eq_left, Nat.left_eq_add, Nat.add_zero]
  refine c5_4 (by simp) g_k0 hd m_out (gx_kn ?_) gx_kx
  unfold gr_noc
  by_cases h1 : c < 0
  · simp only [r5_0, r5_0n, r5_1, r5_2, r5_7, r5_10, r5_10n, r5_11, r5_14, r5_15, r5_16, r5_19, r5_20, r5_23, r5_24, i32_10, reduceIte, gm_cmp1, gm_cmp3, gm_cmp4, gm_kd_sf, gm_ln_sf, gm_sf_1, gm_sf_2, gm_nw_1, gm_nw_2, gm_k_int, gm_k_ref, gm_k_null, gm_k_u, gm_k_long, and_true, true_and, true_or, or_true, or_false, false_or, and_self, or_self, if_true, if_false, List.map_nil, List.map_cons, List.sum_nil, List.sum_cons, Nat.zero_le, Option.toList_some, Option.toList_none, List.cons_append, List.nil_append, ne_eq, not_false_eq_true, not_true_eq_false, nI_1, nI_add, Value.category, Nat.reduceAdd, Nat.reduceMod, Nat.reduceLeDiff, Nat.reduceLT, Nat.reduceEqDiff, Nat.reducePow, Nat.le_refl, Nat.add_left_cancel_iff, Nat.add_eq_left, Nat.left_eq_add, Nat.add_zero, h1]
    exact ⟨by simp, rfl⟩
  by_cases h2 : c < 6
  · have h2' : ¬ 6 ≤ c := Int32.not_le.mpr h2
    obtain ⟨i, hi, rfl⟩ := nI_of h1
    have hi6 : i < 6 := (nI_ltI (b := 6) hi (by decide)).mp h2
    by_cases h3 : t.1 2 i < 0
    · have h3' : ¬ 0 ≤ t.1 2 i := Int32.not_le.mpr h3
      simp only [r5_0, r5_0n, r5_1, r5_2, r5_7, r5_10, r5_10n, r5_11, r5_14, r5_15, r5_16, r5_19, r5_20, r5_23, r5_24, i32_10, reduceIte, gm_cmp1, gm_cmp3, gm_cmp4, gm_kd_sf, gm_ln_sf, gm_sf_1, gm_sf_2, gm_nw_1, gm_nw_2, gm_k_int, gm_k_ref, gm_k_null, gm_k_u, gm_k_long, and_true, true_and, true_or, or_true, or_false, false_or, and_self, or_self, if_true, if_false, List.map_nil, List.map_cons, List.sum_nil, List.sum_cons, Nat.zero_le, Option.toList_some, Option.toList_none, List.cons_append, List.nil_append, ne_eq, not_false_eq_true, not_true_eq_false, nI_1, nI_add, Value.category, Nat.reduceAdd, Nat.reduceMod, Nat.reduceLeDiff, Nat.reduceLT, Nat.reduceEqDiff, Nat.reducePow, Nat.le_refl, Nat.add_left_cancel_iff, Nat.add_eq_left, Nat.left_eq_add, Nat.add_zero, g_k0, g_k1, g_l1, g_p4, g_a1, g_w1, g_k2, g_l2, g_p10, g_a2, g_w2, g_k3, g_l3, g_p11, g_a3, g_w3, g_k4, g_l4, g_p12, g_a4, g_w4, g_k5, g_l5, g_p13, g_a5, g_w5, g_k6, g_l6, g_p14, g_a6, g_w6, g_k7, g_l7, g_p15, g_a7, g_w7, g_k8, g_l8, g_p16, g_a8, g_w8, g_k9, g_l9, g_p17, g_a9, g_w9, g_k10, g_l10, g_p18, g_a10, g_w10, g_k11, g_l11, g_p19, g_a11, g_w11, g_k12, g_l12, g_p20, g_a12, g_w12, g_k13, g_l13, g_p21, g_a13, g_w13, g_k14, g_l14, g_p22, g_a14, g_w14, g_k15, g_l15, g_p24, g_a15, g_w15, g_k16, g_l16, g_p26, g_a16, g_w16, g_k17, g_l17, g_p27, g_a17, g_w17, g_k18, g_l18, g_p29, g_a18, g_w18, g_k19, g_l19, g_p30, g_a19, g_w19, g_k20, g_l20, g_p31, g_a20, g_w20, g_k21, g_l21, g_p32, g_a21, g_w21, g_k22, g_l22, g_p33, g_a22, g_w22, g_k23, g_l23, g_p34, g_a23, g_w23, g_k24, g_l24, g_p35, g_a24, g_w24, g_k25, g_l25, g_p36, g_a25, g_w25, g_k26, g_l26, g_p37, g_a26, g_w26, g_k27, g_l27, g_p38, g_a27, g_w27, g_k28, g_l28, g_p40, g_a28, g_w28, g_k29, g_l29, g_p41, g_a29, g_w29, g_k30, g_l30, g_p42, g_a30, g_w30, g_k31, g_l31, g_p43, g_a31, g_w31, g_k32, g_l32, g_p44, g_a32, g_w32, g_k33, g_l33, g_p45, g_a33, g_w33, g_k34, g_l34, g_p46, g_a34, g_w34, g_f0, g_s0, g_f1, g_s1, g_f2, g_s2, g_f3, g_s3, g_f5, g_s5, g_f6, g_s6, g_f7, g_s7, g_f8, g_s8, g_f9, g_s9, g_f23, g_s23, g_f25, g_s25, g_f28, g_s28, g_f39, g_s39, g_f47, g_s47, gr_ui_eq, gr_ui_2, gr_ul_eq, gr_ul_1, gr_ui_no, gr_ui_ni, gr_ul_no, gr_ul_ni, h1, h2, hi6, h3']
      exact ⟨by simp [nI_clamp hi, h3], rfl⟩
    · have h3' : 0 ≤ t.1 2 i := Int32.not_lt.mp h3
      simp only [r5_0, r5_0n, r5_1, r5_2, r5_7, r5_10, r5_10n, r5_11, r5_14, r5_15, r5_16, r5_19, r5_20, r5_23, r5_24, i32_10, reduceIte, gm_cmp1, gm_cmp3, gm_cmp4, gm_kd_sf, gm_ln_sf, gm_sf_1, gm_sf_2, gm_nw_1, gm_nw_2, gm_k_int, gm_k_ref, gm_k_null, gm_k_u, gm_k_long, and_true, true_and, true_or, or_true, or_false, false_or, and_self, or_self, if_true, if_false, List.map_nil, List.map_cons, List.sum_nil, List.sum_cons, Nat.zero_le, Option.toList_some, Option.toList_none, List.cons_append, List.nil_append, ne_eq, not_false_eq_true, not_true_eq_false, nI_1, nI_add, Value.category, Nat.reduceAdd, Nat.reduceMod, Nat.reduceLeDiff, Nat.reduceLT, Nat.reduceEqDiff, Nat.reducePow, Nat.le_refl, Nat.add_left_cancel_iff, Nat.add_eq_left, Nat.left_eq_add, Nat.add_zero, g_k0, g_k1, g_l1, g_p4, g_a1, g_w1, g_k2, g_l2, g_p10, g_a2, g_w2, g_k3, g_l3, g_p11, g_a3, g_w3, g_k4, g_l4, g_p12, g_a4, g_w4, g_k5, g_l5, g_p13, g_a5, g_w5, g_k6, g_l6, g_p14, g_a6, g_w6, g_k7, g_l7, g_p15, g_a7, g_w7, g_k8, g_l8, g_p16, g_a8, g_w8, g_k9, g_l9, g_p17, g_a9, g_w9, g_k10, g_l10, g_p18, g_a10, g_w10, g_k11, g_l11, g_p19, g_a11, g_w11, g_k12, g_l12, g_p20, g_a12, g_w12, g_k13, g_l13, g_p21, g_a13, g_w13, g_k14, g_l14, g_p22, g_a14, g_w14, g_k15, g_l15, g_p24, g_a15, g_w15, g_k16, g_l16, g_p26, g_a16, g_w16, g_k17, g_l17, g_p27, g_a17, g_w17, g_k18, g_l18, g_p29, g_a18, g_w18, g_k19, g_l19, g_p30, g_a19, g_w19, g_k20, g_l20, g_p31, g_a20, g_w20, g_k21, g_l21, g_p32, g_a21, g_w21, g_k22, g_l22, g_p33, g_a22, g_w22, g_k23, g_l23, g_p34, g_a23, g_w23, g_k24, g_l24, g_p35, g_a24, g_w24, g_k25, g_l25, g_p36, g_a25, g_w25, g_k26, g_l26, g_p37, g_a26, g_w26, g_k27, g_l27, g_p38, g_a27, g_w27, g_k28, g_l28, g_p40, g_a28, g_w28, g_k29, g_l29, g_p41, g_a29, g_w29, g_k30, g_l30, g_p42, g_a30, g_w30, g_k31, g_l31, g_p43, g_a31, g_w31, g_k32, g_l32, g_p44, g_a32, g_w32, g_k33, g_l33, g_p45, g_a33, g_w33, g_k34, g_l34, g_p46, g_a34, g_w34, g_f0, g_s0, g_f1, g_s1, g_f2, g_s2, g_f3, g_s3, g_f5, g_s5, g_f6, g_s6, g_f7, g_s7, g_f8, g_s8, g_f9, g_s9, g_f23, g_s23, g_f25, g_s25, g_f28, g_s28, g_f39, g_s39, g_f47, g_s47, gr_ui_eq, gr_ui_2, gr_ul_eq, gr_ul_1, gr_ui_no, gr_ui_ni, gr_ul_no, gr_ul_ni, h1, h2, hi6, h3']
      exact ⟨by simp [nI_clamp hi, h1, h2', h3], rfl⟩
  · have h2' : 6 ≤ c := Int32.not_lt.mp h2
    simp only [r5_0, r5_0n, r5_1, r5_2, r5_7, r5_10, r5_10n, r5_11, r5_14, r5_15, r5_16, r5_19, r5_20, r5_23, r5_24, i32_10, reduceIte, gm_cmp1, gm_cmp3, gm_cmp4, gm_kd_sf, gm_ln_sf, gm_sf_1, gm_sf_2, gm_nw_1, gm_nw_2, gm_k_int, gm_k_ref, gm_k_null, gm_k_u, gm_k_long, and_true, true_and, true_or, or_true, or_false, false_or, and_self, or_self, if_true, if_false, List.map_nil, List.map_cons, List.sum_nil, List.sum_cons, Nat.zero_le, Option.toList_some, Option.toList_none, List.cons_append, List.nil_append, ne_eq, not_false_eq_true, not_true_eq_false, nI_1, nI_add, Value.category, Nat.reduceAdd, Nat.reduceMod, Nat.reduceLeDiff, Nat.reduceLT, Nat.reduceEqDiff, Nat.reducePow, Nat.le_refl, Nat.add_left_cancel_iff, Nat.add_eq_left, Nat.left_eq_add, Nat.add_zero, h1, h2]
    exact ⟨by simp [h2'], rfl⟩
/-- the first fault stays -/
def gr_fl (t : gr_t) (f : Int32) : gr_t := if t.1 0 8 = 0 then gr_ui t 0 8 f else t
theorem m_fail {f : Int32} : gm_Ca E d 10 [.ref m, .int f] (gr_H h m t) (gx_v none (gr_H h m (gr_fl t f))) := by
  show gm_W E d 10 0 [.ref m, .int f] [] (gr_H h m t) _
  unfold gr_fl
  by_cases h1 : t.1 0 8 = 0
  · simp only [r10_0, r10_0n, r10_1, r10_4, r10_7, r10_7n, r10_8, r10_9, r10_12, i32_10, reduceIte, gm_cmp1, gm_cmp3, gm_cmp4, gm_kd_sf, gm_ln_sf, gm_sf_1, gm_sf_2, gm_nw_1, gm_nw_2, gm_k_int, gm_k_ref, gm_k_null, gm_k_u, gm_k_long, and_true, true_and, true_or, or_true, or_false, false_or, and_self, or_self, if_true, if_false, List.map_nil, List.map_cons, List.sum_nil, List.sum_cons, Nat.zero_le, Option.toList_some, Option.toList_none, List.cons_append, List.nil_append, ne_eq, not_false_eq_true, not_true_eq_false, nI_1, nI_add, Value.category, Nat.reduceAdd, Nat.reduceMod, Nat.reduceLeDiff, Nat.reduceLT, Nat.reduceEqDiff, Nat.reducePow, Nat.le_refl, Nat.add_left_cancel_iff, Nat.add_eq_left, Nat.left_eq_add, Nat.add_zero, g_k0, g_k1, g_l1, g_p4, g_a1, g_w1, g_k2, g_l2, g_p10, g_a2, g_w2, g_k3, g_l3, g_p11, g_a3, g_w3, g_k4, g_l4, g_p12, g_a4, g_w4, g_k5, g_l5, g_p13, g_a5, g_w5, g_k6, g_l6, g_p14, g_a6, g_w6, g_k7, g_l7, g_p15, g_a7, g_w7, g_k8, g_l8, g_p16, g_a8, g_w8, g_k9, g_l9, g_p17, g_a9, g_w9, g_k10, g_l10, g_p18, g_a10, g_w10, g_k11, g_l11, g_p19, g_a11, g_w11, g_k12, g_l12, g_p20, g_a12, g_w12, g_k13, g_l13, g_p21, g_a13, g_w13, g_k14, g_l14, g_p22, g_a14, g_w14, g_k15, g_l15, g_p24, g_a15, g_w15, g_k16, g_l16, g_p26, g_a16, g_w16, g_k17, g_l17, g_p27, g_a17, g_w17, g_k18, g_l18, g_p29, g_a18, g_w18, g_k19, g_l19, g_p30, g_a19, g_w19, g_k20, g_l20, g_p31, g_a20, g_w20, g_k21, g_l21, g_p32, g_a21, g_w21, g_k22, g_l22, g_p33, g_a22, g_w22, g_k23, g_l23, g_p34, g_a23, g_w23, g_k24, g_l24, g_p35, g_a24, g_w24, g_k25, g_l25, g_p36, g_a25, g_w25, g_k26, g_l26, g_p37, g_a26, g_w26, g_k27, g_l27, g_p38, g_a27, g_w27, g_k28, g_l28, g_p40, g_a28, g_w28, g_k29, g_l29, g_p41, g_a29, g_w29, g_k30, g_l30, g_p42, g_a30, g_w30, g_k31, g_l31, g_p43, g_a31, g_w31, g_k32, g_l32, g_p44, g_a32, g_w32, g_k33, g_l33, g_p45, g_a33, g_w33, g_k34, g_l34, g_p46, g_a34, g_w34, g_f0, g_s0, g_f1, g_s1, g_f2, g_s2, g_f3, g_s3, g_f5, g_s5, g_f6, g_s6, g_f7, g_s7, g_f8, g_s8, g_f9, g_s9, g_f23, g_s23, g_f25, g_s25, g_f28, g_s28, g_f39, g_s39, g_f47, g_s47, gr_ui_eq, gr_ui_2, gr_ul_eq, gr_ul_1, gr_ui_no, gr_ui_ni, gr_ul_no, gr_ul_ni, h1]
    exact ⟨rfl, rfl⟩
  · simp only [r10_0, r10_0n, r10_1, r10_4, r10_7, r10_7n, r10_8, r10_9, r10_12, i32_10, reduceIte, gm_cmp1, gm_cmp3, gm_cmp4, gm_kd_sf, gm_ln_sf, gm_sf_1, gm_sf_2, gm_nw_1, gm_nw_2, gm_k_int, gm_k_ref, gm_k_null, gm_k_u, gm_k_long, and_true, true_and, true_or, or_true, or_false, false_or, and_self, or_self, if_true, if_false, List.map_nil, List.map_cons, List.sum_nil, List.sum_cons, Nat.zero_le, Option.toList_some, Option.toList_none, List.cons_append, List.nil_append, ne_eq, not_false_eq_true, not_true_eq_false, nI_1, nI_add, Value.category, Nat.reduceAdd, Nat.reduceMod, Nat.reduceLeDiff, Nat.reduceLT, Nat.reduceEqDiff, Nat.reducePow, Nat.le_refl, Nat.add_left_cancel_iff, Nat.add_eq_left, Nat.left_eq_add, Nat.add_zero, g_k0, g_k1, g_l1, g_p4, g_a1, g_w1, g_k2, g_l2, g_p10, g_a2, g_w2, g_k3, g_l3, g_p11, g_a3, g_w3, g_k4, g_l4, g_p12, g_a4, g_w4, g_k5, g_l5, g_p13, g_a5, g_w5, g_k6, g_l6, g_p14, g_a6, g_w6, g_k7, g_l7, g_p15, g_a7, g_w7, g_k8, g_l8, g_p16, g_a8, g_w8, g_k9, g_l9, g_p17, g_a9, g_w9, g_k10, g_l10, g_p18, g_a10, g_w10, g_k11, g_l11, g_p19, g_a11, g_w11, g_k12, g_l12, g_p20, g_a12, g_w12, g_k13, g_l13, g_p21, g_a13, g_w13, g_k14, g_l14, g_p22, g_a14, g_w14, g_k15, g_l15, g_p24, g_a15, g_w15, g_k16, g_l16, g_p26, g_a16, g_w16, g_k17, g_l17, g_p27, g_a17, g_w17, g_k18, g_l18, g_p29, g_a18, g_w18, g_k19, g_l19, g_p30, g_a19, g_w19, g_k20, g_l20, g_p31, g_a20, g_w20, g_k21, g_l21, g_p32, g_a21, g_w21, g_k22, g_l22, g_p33, g_a22, g_w22, g_k23, g_l23, g_p34, g_a23, g_w23, g_k24, g_l24, g_p35, g_a24, g_w24, g_k25, g_l25, g_p36, g_a25, g_w25, g_k26, g_l26, g_p37, g_a26, g_w26, g_k27, g_l27, g_p38, g_a27, g_w27, g_k28, g_l28, g_p40, g_a28, g_w28, g_k29, g_l29, g_p41, g_a29, g_w29, g_k30, g_l30, g_p42, g_a30, g_w30, g_k31, g_l31, g_p43, g_a31, g_w31, g_k32, g_l32, g_p44, g_a32, g_w32, g_k33, g_l33, g_p45, g_a33, g_w33, g_k34, g_l34, g_p46, g_a34, g_w34, g_f0, g_s0, g_f1, g_s1, g_f2, g_s2, g_f3, g_s3, g_f5, g_s5, g_f6, g_s6, g_f7, g_s7, g_f8, g_s8, g_f9, g_s9, g_f23, g_s23, g_f25, g_s25, g_f28, g_s28, g_f39, g_s39, g_f47, g_s47, gr_ui_eq, gr_ui_2, gr_ul_eq, gr_ul_1, gr_ui_no, gr_ui_ni, gr_ul_no, gr_ul_ni, h1]
    exact ⟨rfl, rfl⟩
def gr_push (t : gr_t) (tp : Nat) (k d a b : Int32) : gr_t := gr_ui (gr_ui (gr_ui (gr_ui (gr_ui (gr_ui (gr_ui (gr_ui t 28 tp k) 29 tp 0) 30 tp d) 31 tp a) 32 tp b) 33 tp 0) 34 tp 0) 0 47 (nI (tp + 1))
theorem m_push {tp : Nat} {k dd a b : Int32} (ht : t.1 0 47 = nI tp) (h80 : tp < 80) : gm_Ca E d 15 [.ref m, .int k, .int dd, .int a, .int b] (gr_H h m t) (gx_v none (gr_H h m (gr_push t tp k dd a b))) := by
  show gm_W E d 15 0 [.ref m, .int k, .int dd, .int a, .int b] [] (gr_H h m t) _
  simp only [r15_0, r15_0n, r15_1, r15_4, r15_4n, r15_5, r15_8, r15_9, r15_10, r15_10n, r15_11, r15_14, r15_14n, r15_15, r15_18, r15_19, r15_20, r15_20n, r15_21, r15_24, r15_24n, r15_25, r15_28, r15_29, r15_30, r15_30n, r15_31, r15_34, r15_34n, r15_35, r15_38, r15_39, r15_40, r15_40n, r15_41, r15_44, r15_44n, r15_45, r15_48, r15_50, r15_51, r15_51n, r15_52, r15_55, r15_55n, r15_56, r15_59, r15_60, r15_61, r15_61n, r15_62, r15_65, r15_65n, r15_66, r15_69, r15_70, r15_71, r15_71n, r15_72, r15_72i, r15_73, r15_76, r15_77, r15_78, r15_81, i32_10, reduceIte, gm_cmp1, gm_cmp3, gm_cmp4, gm_kd_sf, gm_ln_sf, gm_sf_1, gm_sf_2, gm_nw_1, gm_nw_2, gm_k_int, gm_k_ref, gm_k_null, gm_k_u, gm_k_long, and_true, true_and, true_or, or_true, or_false, false_or, and_self, or_self, if_true, if_false, List.map_nil, List.map_cons, List.sum_nil, List.sum_cons, Nat.zero_le, Option.toList_some, Option.toList_none, List.cons_append, List.nil_append, ne_eq, not_false_eq_true, not_true_eq_false, nI_1, nI_add, Value.category, Nat.reduceAdd, Nat.reduceMod, Nat.reduceLeDiff, Nat.reduceLT, Nat.reduceEqDiff, Nat.reducePow, Nat.le_refl, Nat.add_left_cancel_iff, Nat.add_eq_left, Nat.left_eq_add, Nat.add_zero, g_k0, g_k1, g_l1, g_p4, g_a1, g_w1, g_k2, g_l2, g_p10, g_a2, g_w2, g_k3, g_l3, g_p11, g_a3, g_w3, g_k4, g_l4, g_p12, g_a4, g_w4, g_k5, g_l5, g_p13, g_a5, g_w5, g_k6, g_l6, g_p14, g_a6, g_w6, g_k7, g_l7, g_p15, g_a7, g_w7, g_k8, g_l8, g_p16, g_a8, g_w8, g_k9, g_l9, g_p17, g_a9, g_w9, g_k10, g_l10, g_p18, g_a10, g_w10, g_k11, g_l11, g_p19, g_a11, g_w11, g_k12, g_l12, g_p20, g_a12, g_w12, g_k13, g_l13, g_p21, g_a13, g_w13, g_k14, g_l14, g_p22, g_a14, g_w14, g_k15, g_l15, g_p24, g_a15, g_w15, g_k16, g_l16, g_p26, g_a16, g_w16, g_k17, g_l17, g_p27, g_a17, g_w17, g_k18, g_l18, g_p29, g_a18, g_w18, g_k19, g_l19, g_p30, g_a19, g_w19, g_k20, g_l20, g_p31, g_a20, g_w20, g_k21, g_l21, g_p32, g_a21, g_w21, g_k22, g_l22, g_p33, g_a22, g_w22, g_k23, g_l23, g_p34, g_a23, g_w23, g_k24, g_l24, g_p35, g_a24, g_w24, g_k25, g_l25, g_p36, g_a25, g_w25, g_k26, g_l26, g_p37, g_a26, g_w26, g_k27, g_l27, g_p38, g_a27, g_w27, g_k28, g_l28, g_p40, g_a28, g_w28, g_k29, g_l29, g_p41, g_a29, g_w29, g_k30, g_l30, g_p42, g_a30, g_w30, g_k31, g_l31, g_p43, g_a31, g_w31, g_k32, g_l32, g_p44, g_a32, g_w32, g_k33, g_l33, g_p45, g_a33, g_w33, g_k34, g_l34, g_p46, g_a34, g_w34, g_f0, g_s0, g_f1, g_s1, g_f2, g_s2, g_f3, g_s3, g_f5, g_s5, g_f6, g_s6, g_f7, g_s7, g_f8, g_s8, g_f9, g_s9, g_f23, g_s23, g_f25, g_s25, g_f28, g_s28, g_f39, g_s39, g_f47, g_s47, gr_ui_eq, gr_ui_2, gr_ul_eq, gr_ul_1, gr_ui_no, gr_ui_ni, gr_ul_no, gr_ul_ni, ht, h80]
  exact ⟨rfl, rfl⟩
def gr_give (t : gr_t) (v : Int32) : gr_t := gr_ui (gr_ui t 0 9 v) 0 47 (t.1 0 47 - 1)
theorem m_give {v : Int32} : gm_Ca E d 16 [.ref m, .int v] (gr_H h m t) (gx_v none (gr_H h m (gr_give t v))) := by
  show gm_W E d 16 0 [.ref m, .int v] [] (gr_H h m t) _
  simp only [r16_0, r16_0n, r16_1, r16_2, r16_5, r16_5n, r16_6, r16_6i, r16_7, r16_10, r16_11, r16_12, r16_15, i32_10, reduceIte, gm_cmp1, gm_cmp3, gm_cmp4, gm_kd_sf, gm_ln_sf, gm_sf_1, gm_sf_2, gm_nw_1, gm_nw_2, gm_k_int, gm_k_ref, gm_k_null, gm_k_u, gm_k_long, and_true, true_and, true_or, or_true, or_false, false_or, and_self, or_self, if_true, if_false, List.map_nil, List.map_cons, List.sum_nil, List.sum_cons, Nat.zero_le, Option.toList_some, Option.toList_none, List.cons_append, List.nil_append, ne_eq, not_false_eq_true, not_true_eq_false, nI_1, nI_add, Value.category, Nat.reduceAdd, Nat.reduceMod, Nat.reduceLeDiff, Nat.reduceLT, Nat.reduceEqDiff, Nat.reducePow, Nat.le_refl, Nat.add_left_cancel_iff, Nat.add_eq_left, Nat.left_eq_add, Nat.add_zero, g_k0, g_k1, g_l1, g_p4, g_a1, g_w1, g_k2, g_l2, g_p10, g_a2, g_w2, g_k3, g_l3, g_p11, g_a3, g_w3, g_k4, g_l4, g_p12, g_a4, g_w4, g_k5, g_l5, g_p13, g_a5, g_w5, g_k6, g_l6, g_p14, g_a6, g_w6, g_k7, g_l7, g_p15, g_a7, g_w7, g_k8, g_l8, g_p16, g_a8, g_w8, g_k9, g_l9, g_p17, g_a9, g_w9, g_k10, g_l10, g_p18, g_a10, g_w10, g_k11, g_l11, g_p19, g_a11, g_w11, g_k12, g_l12, g_p20, g_a12, g_w12, g_k13, g_l13, g_p21, g_a13, g_w13, g_k14, g_l14, g_p22, g_a14, g_w14, g_k15, g_l15, g_p24, g_a15, g_w15, g_k16, g_l16, g_p26, g_a16, g_w16, g_k17, g_l17, g_p27, g_a17, g_w17, g_k18, g_l18, g_p29, g_a18, g_w18, g_k19, g_l19, g_p30, g_a19, g_w19, g_k20, g_l20, g_p31, g_a20, g_w20, g_k21, g_l21, g_p32, g_a21, g_w21, g_k22, g_l22, g_p33, g_a22, g_w22, g_k23, g_l23, g_p34, g_a23, g_w23, g_k24, g_l24, g_p35, g_a24, g_w24, g_k25, g_l25, g_p36, g_a25, g_w25, g_k26, g_l26, g_p37, g_a26, g_w26, g_k27, g_l27, g_p38, g_a27, g_w27, g_k28, g_l28, g_p40, g_a28, g_w28, g_k29, g_l29, g_p41, g_a29, g_w29, g_k30, g_l30, g_p42, g_a30, g_w30, g_k31, g_l31, g_p43, g_a31, g_w31, g_k32, g_l32, g_p44, g_a32, g_w32, g_k33, g_l33, g_p45, g_a33, g_w33, g_k34, g_l34, g_p46, g_a34, g_w34, g_f0, g_s0, g_f1, g_s1, g_f2, g_s2, g_f3, g_s3, g_f5, g_s5, g_f6, g_s6, g_f7, g_s7, g_f8, g_s8, g_f9, g_s9, g_f23, g_s23, g_f25, g_s25, g_f28, g_s28, g_f39, g_s39, g_f47, g_s47, gr_ui_eq, gr_ui_2, gr_ul_eq, gr_ul_1, gr_ui_no, gr_ui_ni, gr_ul_no, gr_ul_ni]
  exact ⟨rfl, rfl⟩
def gr_ent (t : gr_t) (e : Nat) (k v : Int32) : gr_t := gr_ui (gr_ui (gr_ui t 16 e k) 17 e v) 0 28 (nI (e + 1))
theorem m_entry {e : Nat} {k v : Int32} (he : t.1 0 28 = nI e) (h130 : e < 130) : gm_Ca E d 17 [.ref m, .int k, .int v] (gr_H h m t) (gx_v (some (.int (nI e))) (gr_H h m (gr_ent t e k v))) := by
  show gm_W E d 17 0 [.ref m, .int k, .int v] [] (gr_H h m t) _
  have hs : nI (e + 1) - 1 = nI e := nI_sub (b := 1) (by omega)
  simp only [r17_0, r17_0n, r17_1, r17_4, r17_4n, r17_5, r17_8, r17_9, r17_10, r17_10n, r17_11, r17_14, r17_14n, r17_15, r17_18, r17_19, r17_20, r17_20n, r17_21, r17_21i, r17_22, r17_25, r17_26, r17_27, r17_30, r17_30n, r17_31, r17_34, r17_35, r17_36, i32_10, reduceIte, gm_cmp1, gm_cmp3, gm_cmp4, gm_kd_sf, gm_ln_sf, gm_sf_1, gm_sf_2, gm_nw_1, gm_nw_2, gm_k_int, gm_k_ref, gm_k_null, gm_k_u, gm_k_long, and_true, true_and, true_or, or_true, or_false, false_or, and_self, or_self, if_true, if_false, List.map_nil, List.map_cons, List.sum_nil, List.sum_cons, Nat.zero_le, Option.toList_some, Option.toList_none, List.cons_append, List.nil_append, ne_eq, not_false_eq_true, not_true_eq_false, nI_1, nI_add, Value.category, Nat.reduceAdd, Nat.reduceMod, Nat.reduceLeDiff, Nat.reduceLT, Nat.reduceEqDiff, Nat.reducePow, Nat.le_refl, Nat.add_left_cancel_iff, Nat.add_eq_left, Nat.left_eq_add, Nat.add_zero, g_k0, g_k1, g_l1, g_p4, g_a1, g_w1, g_k2, g_l2, g_p10, g_a2, g_w2, g_k3, g_l3, g_p11, g_a3, g_w3, g_k4, g_l4, g_p12, g_a4, g_w4, g_k5, g_l5, g_p13, g_a5, g_w5, g_k6, g_l6, g_p14, g_a6, g_w6, g_k7, g_l7, g_p15, g_a7, g_w7, g_k8, g_l8, g_p16, g_a8, g_w8, g_k9, g_l9, g_p17, g_a9, g_w9, g_k10, g_l10, g_p18, g_a10, g_w10, g_k11, g_l11, g_p19, g_a11, g_w11, g_k12, g_l12, g_p20, g_a12, g_w12, g_k13, g_l13, g_p21, g_a13, g_w13, g_k14, g_l14, g_p22, g_a14, g_w14, g_k15, g_l15, g_p24, g_a15, g_w15, g_k16, g_l16, g_p26, g_a16, g_w16, g_k17, g_l17, g_p27, g_a17, g_w17, g_k18, g_l18, g_p29, g_a18, g_w18, g_k19, g_l19, g_p30, g_a19, g_w19, g_k20, g_l20, g_p31, g_a20, g_w20, g_k21, g_l21, g_p32, g_a21, g_w21, g_k22, g_l22, g_p33, g_a22, g_w22, g_k23, g_l23, g_p34, g_a23, g_w23, g_k24, g_l24, g_p35, g_a24, g_w24, g_k25, g_l25, g_p36, g_a25, g_w25, g_k26, g_l26, g_p37, g_a26, g_w26, g_k27, g_l27, g_p38, g_a27, g_w27, g_k28, g_l28, g_p40, g_a28, g_w28, g_k29, g_l29, g_p41, g_a29, g_w29, g_k30, g_l30, g_p42, g_a30, g_w30, g_k31, g_l31, g_p43, g_a31, g_w31, g_k32, g_l32, g_p44, g_a32, g_w32, g_k33, g_l33, g_p45, g_a33, g_w33, g_k34, g_l34, g_p46, g_a34, g_w34, g_f0, g_s0, g_f1, g_s1, g_f2, g_s2, g_f3, g_s3, g_f5, g_s5, g_f6, g_s6, g_f7, g_s7, g_f8, g_s8, g_f9, g_s9, g_f23, g_s23, g_f25, g_s25, g_f28, g_s28, g_f39, g_s39, g_f47, g_s47, gr_ui_eq, gr_ui_2, gr_ul_eq, gr_ul_1, gr_ui_no, gr_ui_ni, gr_ul_no, gr_ul_ni, he, h130, hs]
  exact ⟨rfl, rfl⟩
def gr_make (t : gr_t) (o : Nat) (so c n a : Int32) : gr_t := gr_ui (gr_ui (gr_ui (gr_ui (gr_ui (gr_ui t 10 o so) 11 o c) 12 o n) 13 o a) 14 o 0) 0 23 (nI (o + 1))
theorem m_make {o : Nat} {so c n a : Int32} (ho : t.1 0 23 = nI o) (h720 : o < 720) : gm_Ca E d 18 [.ref m, .int so, .int c, .int n, .int a] (gr_H h m t) (gx_v (some (.int (nI o))) (gr_H h m (gr_make t o so c n a))) := by
  show gm_W E d 18 0 [.ref m, .int so, .int c, .int n, .int a] [] (gr_H h m t) _
  have hs : nI (o + 1) - 1 = nI o := nI_sub (b := 1) (by omega)
  simp only [r18_0, r18_0n, r18_1, r18_4, r18_4n, r18_5, r18_8, r18_9, r18_10, r18_10n, r18_11, r18_14, r18_14n, r18_15, r18_18, r18_19, r18_20, r18_20n, r18_21, r18_24, r18_24n, r18_25, r18_28, r18_29, r18_30, r18_30n, r18_31, r18_34, r18_34n, r18_35, r18_38, r18_40, r18_41, r18_41n, r18_42, r18_45, r18_45n, r18_46, r18_49, r18_50, r18_51, r18_51n, r18_52, r18_52i, r18_53, r18_56, r18_57, r18_58, r18_61, r18_61n, r18_62, r18_65, r18_66, r18_67, i32_10, reduceIte, gm_cmp1, gm_cmp3, gm_cmp4, gm_kd_sf, gm_ln_sf, gm_sf_1, gm_sf_2, gm_nw_1, gm_nw_2, gm_k_int, gm_k_ref, gm_k_null, gm_k_u, gm_k_long, and_true, true_and, true_or, or_true, or_false, false_or, and_self, or_self, if_true, if_false, List.map_nil, List.map_cons, List.sum_nil, List.sum_cons, Nat.zero_le, Option.toList_some, Option.toList_none, List.cons_append, List.nil_append, ne_eq, not_false_eq_true, not_true_eq_false, nI_1, nI_add, Value.category, Nat.reduceAdd, Nat.reduceMod, Nat.reduceLeDiff, Nat.reduceLT, Nat.reduceEqDiff, Nat.reducePow, Nat.le_refl, Nat.add_left_cancel_iff, Nat.add_eq_left, Nat.left_eq_add, Nat.add_zero, g_k0, g_k1, g_l1, g_p4, g_a1, g_w1, g_k2, g_l2, g_p10, g_a2, g_w2, g_k3, g_l3, g_p11, g_a3, g_w3, g_k4, g_l4, g_p12, g_a4, g_w4, g_k5, g_l5, g_p13, g_a5, g_w5, g_k6, g_l6, g_p14, g_a6, g_w6, g_k7, g_l7, g_p15, g_a7, g_w7, g_k8, g_l8, g_p16, g_a8, g_w8, g_k9, g_l9, g_p17, g_a9, g_w9, g_k10, g_l10, g_p18, g_a10, g_w10, g_k11, g_l11, g_p19, g_a11, g_w11, g_k12, g_l12, g_p20, g_a12, g_w12, g_k13, g_l13, g_p21, g_a13, g_w13, g_k14, g_l14, g_p22, g_a14, g_w14, g_k15, g_l15, g_p24, g_a15, g_w15, g_k16, g_l16, g_p26, g_a16, g_w16, g_k17, g_l17, g_p27, g_a17, g_w17, g_k18, g_l18, g_p29, g_a18, g_w18, g_k19, g_l19, g_p30, g_a19, g_w19, g_k20, g_l20, g_p31, g_a20, g_w20, g_k21, g_l21, g_p32, g_a21, g_w21, g_k22, g_l22, g_p33, g_a22, g_w22, g_k23, g_l23, g_p34, g_a23, g_w23, g_k24, g_l24, g_p35, g_a24, g_w24, g_k25, g_l25, g_p36, g_a25, g_w25, g_k26, g_l26, g_p37, g_a26, g_w26, g_k27, g_l27, g_p38, g_a27, g_w27, g_k28, g_l28, g_p40, g_a28, g_w28, g_k29, g_l29, g_p41, g_a29, g_w29, g_k30, g_l30, g_p42, g_a30, g_w30, g_k31, g_l31, g_p43, g_a31, g_w31, g_k32, g_l32, g_p44, g_a32, g_w32, g_k33, g_l33, g_p45, g_a33, g_w33, g_k34, g_l34, g_p46, g_a34, g_w34, g_f0, g_s0, g_f1, g_s1, g_f2, g_s2, g_f3, g_s3, g_f5, g_s5, g_f6, g_s6, g_f7, g_s7, g_f8, g_s8, g_f9, g_s9, g_f23, g_s23, g_f25, g_s25, g_f28, g_s28, g_f39, g_s39, g_f47, g_s47, gr_ui_eq, gr_ui_2, gr_ul_eq, gr_ul_1, gr_ui_no, gr_ui_ni, gr_ul_no, gr_ul_ni, ho, h720, hs]
  exact ⟨rfl, rfl⟩
theorem gr_fl_8 {f : Int32} (hf : f ≠ 0) : ¬ (gr_fl t f).1 0 8 = 0 := by
  unfold gr_fl
  by_cases h8 : t.1 0 8 = 0
  · rw [if_pos h8, gr_ui_eq]; exact hf
  · rw [if_neg h8]; exact h8
/-- the next byte: none left; a fault; there is one -/
theorem m_next0 {n p : Nat} (hd : 1 ≤ d) (hn : t.1 0 5 = nI n) (hp : t.1 0 6 = nI p) (hp7 : p ≤ 700) (hc : n ≤ p) : gm_Ca E d 11 [.ref m] (gr_H h m t) (gx_v (some (.int 0)) (gr_H h m (gr_fl t (-3)))) := by
  show gm_W E d 11 0 [.ref m] [] (gr_H h m t) _
  have e1 : ¬ nI p < nI n := nI_nlt hc (by omega)
  simp only [r11_0, r11_0n, r11_1, r11_4, r11_4n, r11_5, r11_8, r11_11, r11_11n, r11_12, r11_17, r11_17n, r11_18, r11_21, r11_24, r11_25, r11_26, r11_26n, r11_27, r11_27i, r11_28, r11_31, r11_32, r11_33, r11_36, r11_36n, r11_37, r11_40, r11_40n, r11_41, r11_44, r11_45, r11_46, r11_47, i32_10, reduceIte, gm_cmp1, gm_cmp3, gm_cmp4, gm_kd_sf, gm_ln_sf, gm_sf_1, gm_sf_2, gm_nw_1, gm_nw_2, gm_k_int, gm_k_ref, gm_k_null, gm_k_u, gm_k_long, and_true, true_and, true_or, or_true, or_false, false_or, and_self, or_self, if_true, if_false, List.map_nil, List.map_cons, List.sum_nil, List.sum_cons, Nat.zero_le, Option.toList_some, Option.toList_none, List.cons_append, List.nil_append, ne_eq, not_false_eq_true, not_true_eq_false, nI_1, nI_add, Value.category, Nat.reduceAdd, Nat.reduceMod, Nat.reduceLeDiff, Nat.reduceLT, Nat.reduceEqDiff, Nat.reducePow, Nat.le_refl, Nat.add_left_cancel_iff, Nat.add_eq_left, Nat.left_eq_add, Nat.add_zero, g_k0, g_k1, g_l1, g_p4, g_a1, g_w1, g_k2, g_l2, g_p10, g_a2, g_w2, g_k3, g_l3, g_p11, g_a3, g_w3, g_k4, g_l4, g_p12, g_a4, g_w4, g_k5, g_l5, g_p13, g_a5, g_w5, g_k6, g_l6, g_p14, g_a6, g_w6, g_k7, g_l7, g_p15, g_a7, g_w7, g_k8, g_l8, g_p16, g_a8, g_w8, g_k9, g_l9, g_p17, g_a9, g_w9, g_k10, g_l10, g_p18, g_a10, g_w10, g_k11, g_l11, g_p19, g_a11, g_w11, g_k12, g_l12, g_p20, g_a12, g_w12, g_k13, g_l13, g_p21, g_a13, g_w13, g_k14, g_l14, g_p22, g_a14, g_w14, g_k15, g_l15, g_p24, g_a15, g_w15, g_k16, g_l16, g_p26, g_a16, g_w16, g_k17, g_l17, g_p27, g_a17, g_w17, g_k18, g_l18, g_p29, g_a18, g_w18, g_k19, g_l19, g_p30, g_a19, g_w19, g_k20, g_l20, g_p31, g_a20, g_w20, g_k21, g_l21, g_p32, g_a21, g_w21, g_k22, g_l22, g_p33, g_a22, g_w22, g_k23, g_l23, g_p34, g_a23, g_w23, g_k24, g_l24, g_p35, g_a24, g_w24, g_k25, g_l25, g_p36, g_a25, g_w25, g_k26, g_l26, g_p37, g_a26, g_w26, g_k27, g_l27, g_p38, g_a27, g_w27, g_k28, g_l28, g_p40, g_a28, g_w28, g_k29, g_l29, g_p41, g_a29, g_w29, g_k30, g_l30, g_p42, g_a30, g_w30, g_k31, g_l31, g_p43, g_a31, g_w31, g_k32, g_l32, g_p44, g_a32, g_w32, g_k33, g_l33, g_p45, g_a33, g_w33, g_k34, g_l34, g_p46, g_a34, g_w34, g_f0, g_s0, g_f1, g_s1, g_f2, g_s2, g_f3, g_s3, g_f5, g_s5, g_f6, g_s6, g_f7, g_s7, g_f8, g_s8, g_f9, g_s9, g_f23, g_s23, g_f25, g_s25, g_f28, g_s28, g_f39, g_s39, g_f47, g_s47, gr_ui_eq, gr_ui_2, gr_ul_eq, gr_ul_1, gr_ui_no, gr_ui_ni, gr_ul_no, gr_ul_ni, hn, hp, e1]
  refine c11_14 (by simp) g_k0 hd m_fail (gx_kn ?_) gx_kx
  simp only [r11_0, r11_0n, r11_1, r11_4, r11_4n, r11_5, r11_8, r11_11, r11_11n, r11_12, r11_17, r11_17n, r11_18, r11_21, r11_24, r11_25, r11_26, r11_26n, r11_27, r11_27i, r11_28, r11_31, r11_32, r11_33, r11_36, r11_36n, r11_37, r11_40, r11_40n, r11_41, r11_44, r11_45, r11_46, r11_47, i32_10, reduceIte, gm_cmp1, gm_cmp3, gm_cmp4, gm_kd_sf, gm_ln_sf, gm_sf_1, gm_sf_2, gm_nw_1, gm_nw_2, gm_k_int, gm_k_ref, gm_k_null, gm_k_u, gm_k_long, and_true, true_and, true_or, or_true, or_false, false_or, and_self, or_self, if_true, if_false, List.map_nil, List.map_cons, List.sum_nil, List.sum_cons, Nat.zero_le, Option.toList_some, Option.toList_none, List.cons_append, List.nil_append, ne_eq, not_false_eq_true, not_true_eq_false, nI_1, nI_add, Value.category, Nat.reduceAdd, Nat.reduceMod, Nat.reduceLeDiff, Nat.reduceLT, Nat.reduceEqDiff, Nat.reducePow, Nat.le_refl, Nat.add_left_cancel_iff, Nat.add_eq_left, Nat.left_eq_add, Nat.add_zero, g_k0, g_k1, g_l1, g_p4, g_a1, g_w1, g_k2, g_l2, g_p10, g_a2, g_w2, g_k3, g_l3, g_p11, g_a3, g_w3, g_k4, g_l4, g_p12, g_a4, g_w4, g_k5, g_l5, g_p13, g_a5, g_w5, g_k6, g_l6, g_p14, g_a6, g_w6, g_k7, g_l7, g_p15, g_a7, g_w7, g_k8, g_l8, g_p16, g_a8, g_w8, g_k9, g_l9, g_p17, g_a9, g_w9, g_k10, g_l10, g_p18, g_a10, g_w10, g_k11, g_l11, g_p19, g_a11, g_w11, g_k12, g_l12, g_p20, g_a12, g_w12, g_k13, g_l13, g_p21, g_a13, g_w13, g_k14, g_l14, g_p22, g_a14, g_w14, g_k15, g_l15, g_p24, g_a15, g_w15, g_k16, g_l16, g_p26, g_a16, g_w16, g_k17, g_l17, g_p27, g_a17, g_w17, g_k18, g_l18, g_p29, g_a18, g_w18, g_k19, g_l19, g_p30, g_a19, g_w19, g_k20, g_l20, g_p31, g_a20, g_w20, g_k21, g_l21, g_p32, g_a21, g_w21, g_k22, g_l22, g_p33, g_a22, g_w22, g_k23, g_l23, g_p34, g_a23, g_w23, g_k24, g_l24, g_p35, g_a24, g_w24, g_k25, g_l25, g_p36, g_a25, g_w25, g_k26, g_l26, g_p37, g_a26, g_w26, g_k27, g_l27, g_p38, g_a27, g_w27, g_k28, g_l28, g_p40, g_a28, g_w28, g_k29, g_l29, g_p41, g_a29, g_w29, g_k30, g_l30, g_p42, g_a30, g_w30, g_k31, g_l31, g_p43, g_a31, g_w31, g_k32, g_l32, g_p44, g_a32, g_w32, g_k33, g_l33, g_p45, g_a33, g_w33, g_k34, g_l34, g_p46, g_a34, g_w34, g_f0, g_s0, g_f1, g_s1, g_f2, g_s2, g_f3, g_s3, g_f5, g_s5, g_f6, g_s6, g_f7, g_s7, g_f8, g_s8, g_f9, g_s9, g_f23, g_s23, g_f25, g_s25, g_f28, g_s28, g_f39, g_s39, g_f47, g_s47, gr_ui_eq, gr_ui_2, gr_ul_eq, gr_ul_1, gr_ui_no, gr_ui_ni, gr_ul_no, gr_ul_ni, gr_fl_8 (t := t) (f := -3) (by decide)]
  exact ⟨rfl, rfl⟩
theorem m_next1 {n p : Nat} (hn : t.1 0 5 = nI n) (hp : t.1 0 6 = nI p) (hn7 : n ≤ 700) (hc : p < n) (h8 : ¬ t.1 0 8 = 0) : gm_Ca E d 11 [.ref m] (gr_H h m t) (gx_v (some (.int 0)) (gr_H h m t)) := by
  show gm_W E d 11 0 [.ref m] [] (gr_H h m t) _
  have e1 : nI p < nI n := nI_lt hc (by omega)
  simp only [r11_0, r11_0n, r11_1, r11_4, r11_4n, r11_5, r11_8, r11_11, r11_11n, r11_12, r11_17, r11_17n, r11_18, r11_21, r11_24, r11_25, r11_26, r11_26n, r11_27, r11_27i, r11_28, r11_31, r11_32, r11_33, r11_36, r11_36n, r11_37, r11_40, r11_40n, r11_41, r11_44, r11_45, r11_46, r11_47, i32_10, reduceIte, gm_cmp1, gm_cmp3, gm_cmp4, gm_kd_sf, gm_ln_sf, gm_sf_1, gm_sf_2, gm_nw_1, gm_nw_2, gm_k_int, gm_k_ref, gm_k_null, gm_k_u, gm_k_long, and_true, true_and, true_or, or_true, or_false, false_or, and_self, or_self, if_true, if_false, List.map_nil, List.map_cons, List.sum_nil, List.sum_cons, Nat.zero_le, Option.toList_some, Option.toList_none, List.cons_append, List.nil_append, ne_eq, not_false_eq_true, not_true_eq_false, nI_1, nI_add, Value.category, Nat.reduceAdd, Nat.reduceMod, Nat.reduceLeDiff, Nat.reduceLT, Nat.reduceEqDiff, Nat.reducePow, Nat.le_refl, Nat.add_left_cancel_iff, Nat.add_eq_left, Nat.left_eq_add, Nat.add_zero, g_k0, g_k1, g_l1, g_p4, g_a1, g_w1, g_k2, g_l2, g_p10, g_a2, g_w2, g_k3, g_l3, g_p11, g_a3, g_w3, g_k4, g_l4, g_p12, g_a4, g_w4, g_k5, g_l5, g_p13, g_a5, g_w5, g_k6, g_l6, g_p14, g_a6, g_w6, g_k7, g_l7, g_p15, g_a7, g_w7, g_k8, g_l8, g_p16, g_a8, g_w8, g_k9, g_l9, g_p17, g_a9, g_w9, g_k10, g_l10, g_p18, g_a10, g_w10, g_k11, g_l11, g_p19, g_a11, g_w11, g_k12, g_l12, g_p20, g_a12, g_w12, g_k13, g_l13, g_p21, g_a13, g_w13, g_k14, g_l14, g_p22, g_a14, g_w14, g_k15, g_l15, g_p24, g_a15, g_w15, g_k16, g_l16, g_p26, g_a16, g_w16, g_k17, g_l17, g_p27, g_a17, g_w17, g_k18, g_l18, g_p29, g_a18, g_w18, g_k19, g_l19, g_p30, g_a19, g_w19, g_k20, g_l20, g_p31, g_a20, g_w20, g_k21, g_l21, g_p32, g_a21, g_w21, g_k22, g_l22, g_p33, g_a22, g_w22, g_k23, g_l23, g_p34, g_a23, g_w23, g_k24, g_l24, g_p35, g_a24, g_w24, g_k25, g_l25, g_p36, g_a25, g_w25, g_k26, g_l26, g_p37, g_a26, g_w26, g_k27, g_l27, g_p38, g_a27, g_w27, g_k28, g_l28, g_p40, g_a28, g_w28, g_k29, g_l29, g_p41, g_a29, g_w29, g_k30, g_l30, g_p42, g_a30, g_w30, g_k31, g_l31, g_p43, g_a31, g_w31, g_k32, g_l32, g_p44, g_a32, g_w32, g_k33, g_l33, g_p45, g_a33, g_w33, g_k34, g_l34, g_p46, g_a34, g_w34, g_f0, g_s0, g_f1, g_s1, g_f2, g_s2, g_f3, g_s3, g_f5, g_s5, g_f6, g_s6, g_f7, g_s7, g_f8, g_s8, g_f9, g_s9, g_f23, g_s23, g_f25, g_s25, g_f28, g_s28, g_f39, g_s39, g_f47, g_s47, gr_ui_eq, gr_ui_2, gr_ul_eq, gr_ul_1, gr_ui_no, gr_ui_ni, gr_ul_no, gr_ul_ni, hn, hp, e1, h8]
  exact ⟨rfl, rfl⟩
theorem m_next2 {n p : Nat} (hn : t.1 0 5 = nI n) (hp : t.1 0 6 = nI p) (hn7 : n ≤ 700) (hc : p < n) (h8 : t.1 0 8 = 0) : gm_Ca E d 11 [.ref m] (gr_H h m t) (gx_v (some (.int (t.1 1 p))) (gr_H h m (gr_ui t 0 6 (nI (p + 1))))) := by
  show gm_W E d 11 0 [.ref m] [] (gr_H h m t) _
  have e1 : nI p < nI n := nI_lt hc (by omega)
  have hs : nI (p + 1) - 1 = nI p := nI_sub (b := 1) (by omega)
  have hp72 : p < 720 := by omega
  simp only [r11_0, r11_0n, r11_1, r11_4, r11_4n, r11_5, r11_8, r11_11, r11_11n, r11_12, r11_17, r11_17n, r11_18, r11_21, r11_24, r11_25, r11_26, r11_26n, r11_27, r11_27i, r11_28, r11_31, r11_32, r11_33, r11_36, r11_36n, r11_37, r11_40, r11_40n, r11_41, r11_44, r11_45, r11_46, r11_47, i32_10, reduceIte, gm_cmp1, gm_cmp3, gm_cmp4, gm_kd_sf, gm_ln_sf, gm_sf_1, gm_sf_2, gm_nw_1, gm_nw_2, gm_k_int, gm_k_ref, gm_k_null, gm_k_u, gm_k_long, and_true, true_and, true_or, or_true, or_false, false_or, and_self, or_self, if_true, if_false, List.map_nil, List.map_cons, List.sum_nil, List.sum_cons, Nat.zero_le, Option.toList_some, Option.toList_none, List.cons_append, List.nil_append, ne_eq, not_false_eq_true, not_true_eq_false, nI_1, nI_add, Value.category, Nat.reduceAdd, Nat.reduceMod, Nat.reduceLeDiff, Nat.reduceLT, Nat.reduceEqDiff, Nat.reducePow, Nat.le_refl, Nat.add_left_cancel_iff, Nat.add_eq_left, Nat.left_eq_add, Nat.add_zero, g_k0, g_k1, g_l1, g_p4, g_a1, g_w1, g_k2, g_l2, g_p10, g_a2, g_w2, g_k3, g_l3, g_p11, g_a3, g_w3, g_k4, g_l4, g_p12, g_a4, g_w4, g_k5, g_l5, g_p13, g_a5, g_w5, g_k6, g_l6, g_p14, g_a6, g_w6, g_k7, g_l7, g_p15, g_a7, g_w7, g_k8, g_l8, g_p16, g_a8, g_w8, g_k9, g_l9, g_p17, g_a9, g_w9, g_k10, g_l10, g_p18, g_a10, g_w10, g_k11, g_l11, g_p19, g_a11, g_w11, g_k12, g_l12, g_p20, g_a12, g_w12, g_k13, g_l13, g_p21, g_a13, g_w13, g_k14, g_l14, g_p22, g_a14, g_w14, g_k15, g_l15, g_p24, g_a15, g_w15, g_k16, g_l16, g_p26, g_a16, g_w16, g_k17, g_l17, g_p27, g_a17, g_w17, g_k18, g_l18, g_p29, g_a18, g_w18, g_k19, g_l19, g_p30, g_a19, g_w19, g_k20, g_l20, g_p31, g_a20, g_w20, g_k21, g_l21, g_p32, g_a21, g_w21, g_k22, g_l22, g_p33, g_a22, g_w22, g_k23, g_l23, g_p34, g_a23, g_w23, g_k24, g_l24, g_p35, g_a24, g_w24, g_k25, g_l25, g_p36, g_a25, g_w25, g_k26, g_l26, g_p37, g_a26, g_w26, g_k27, g_l27, g_p38, g_a27, g_w27, g_k28, g_l28, g_p40, g_a28, g_w28, g_k29, g_l29, g_p41, g_a29, g_w29, g_k30, g_l30, g_p42, g_a30, g_w30, g_k31, g_l31, g_p43, g_a31, g_w31, g_k32, g_l32, g_p44, g_a32, g_w32, g_k33, g_l33, g_p45, g_a33, g_w33, g_k34, g_l34, g_p46, g_a34, g_w34, g_f0, g_s0, g_f1, g_s1, g_f2, g_s2, g_f3, g_s3, g_f5, g_s5, g_f6, g_s6, g_f7, g_s7, g_f8, g_s8, g_f9, g_s9, g_f23, g_s23, g_f25, g_s25, g_f28, g_s28, g_f39, g_s39, g_f47, g_s47, gr_ui_eq, gr_ui_2, gr_ul_eq, gr_ul_1, gr_ui_no, gr_ui_ni, gr_ul_no, gr_ul_ni, hn, hp, e1, h8, hs, hp72]
  exact ⟨rfl, rfl⟩
end M2
/-! THE REFERENCE, 2: numbers and UTF out of the bytes. -/
section M3
variable {E : Nat → Value} {d m : Nat} {h : gm_H} {t : gr_t} {K : gs_K}
theorem gr_ui_ui {o i : Nat} {x y : Int32} : gr_ui (gr_ui t o i x) o i y = gr_ui t o i y := by
  unfold gr_ui
  refine Prod.ext ?_ rfl
  funext a b
  dsimp only
  by_cases e : a = o ∧ b = i
  · rw [if_pos e, if_pos e]
  · rw [if_neg e, if_neg e, if_neg e]
theorem gr_ui_id {o i : Nat} {x : Int32} (hx : t.1 o i = x) : gr_ui t o i x = t := by
  unfold gr_ui
  refine Prod.ext ?_ rfl
  funext a b
  dsimp only
  by_cases e : a = o ∧ b = i
  · rw [if_pos e, e.1, e.2, hx]
  · rw [if_neg e]
/-- size and bytes -/
def gr_B (t : gr_t) (K : gs_K) : Prop := t.1 0 5 = nI (gs_n K) ∧ gs_n K ≤ 700 ∧ ∀ i, i < gs_n K → t.1 1 i = gs_sb K i &&& 255
theorem gr_B.ui {o i : Nat} {x : Int32} (B : gr_B t K) (h1 : o ≠ 1) (h2 : o ≠ 0 ∨ i ≠ 5) : gr_B (gr_ui t o i x) K := by
  refine ⟨?_, B.2.1, fun j hj => ?_⟩
  · rcases h2 with z | z
    · rw [gr_ui_no (Ne.symm z)]; exact B.1
    · rw [gr_ui_ni (Ne.symm z)]; exact B.1
  · rw [gr_ui_no (Ne.symm h1)]; exact B.2.2 j hj
/-- a fault f, the place anywhere -/
def gr_er (t t' : gr_t) (f : Int32) : Prop := f ≠ 0 ∧ ∃ p : Nat, p ≤ 700 ∧ t' = gr_ui (gr_ui t 0 6 (nI p)) 0 8 f
theorem m_number {p k : Nat} (hd : 2 ≤ d) (B : gr_B t K) (hp : t.1 0 6 = nI p) (hpn : p ≤ gs_n K) (h8 : t.1 0 8 = 0) (hk : k ≤ 8) : gm_Ca E d 12 [.ref m, .int (nI k)] (gr_H h m t) (fun r h' => (p + k ≤ gs_n K → r = .inl (some (.long (gs_num K p k))) ∧ h' = gr_H h m (gr_ui t 0 6 (nI (p + k)))) ∧ (gs_n K < p + k → ∃ v t', r = .inl (some (.long v)) ∧ h' = gr_H h m t' ∧ gr_er t t' (-3))) := by
  obtain ⟨Q, hQ⟩ : ∃ Q : gm_R → gm_H → Prop, Q = (fun r h' => (p + k ≤ gs_n K → r = .inl (some (.long (gs_num K p k))) ∧ h' = gr_H h m (gr_ui t 0 6 (nI (p + k)))) ∧ (gs_n K < p + k → ∃ v t', r = .inl (some (.long v)) ∧ h' = gr_H h m t' ∧ gr_er t t' (-3))) := ⟨_, rfl⟩
  rw [← hQ]
  have hn7 := B.2.1
  -- bytes are left
  have good : ∀ (j i : Nat), i + j = k → p + i ≤ gs_n K → gm_W E d 12 5 [.ref m, .int (nI k), .long (gs_num K p i), gm_u, .int (nI i)] [] (gr_H h m (gr_ui t 0 6 (nI (p + i)))) Q := by
    intro j
    induction j with
    | zero =>
      intro i hi hpi
      have hi : i = k := by omega
      subst hi
      simp only [r12_0, r12_1, r12_2, r12_3, r12_5, r12_7, r12_8, r12_11, r12_12, r12_14, r12_15, r12_15n, r12_19, r12_20, r12_21, r12_22, r12_25, r12_28, r12_29, i32_10, reduceIte, gm_cmp1, gm_cmp3, gm_cmp4, gm_kd_sf, gm_ln_sf, gm_sf_1, gm_sf_2, gm_nw_1, gm_nw_2, gm_k_int, gm_k_ref, gm_k_null, gm_k_u, gm_k_long, and_true, true_and, true_or, or_true, or_false, false_or, and_self, or_self, if_true, if_false, List.map_nil, List.map_cons, List.sum_nil, List.sum_cons, Nat.zero_le, Option.toList_some, Option.toList_none, List.cons_append, List.nil_append, ne_eq, not_false_eq_true, not_true_eq_false, nI_1, nI_add, Value.category, Nat.reduceAdd, Nat.reduceMod, Nat.reduceLeDiff, Nat.reduceLT, Nat.reduceEqDiff, Nat.reducePow, Nat.le_refl, Nat.add_left_cancel_iff, Nat.add_eq_left, Nat.left_eq_add, Nat.add_zero, nI_leT (Nat.le_refl i) (show i < 2 ^ 31 by omega)]
      rw [hQ]
      exact ⟨fun _ => ⟨rfl, rfl⟩, fun z => absurd z (by omega)⟩
    | succ j ih =>
      intro i hi hpi
      have B1 : gr_B (gr_ui t 0 6 (nI (p + i))) K := B.ui (by decide) (Or.inr (by decide))
      have p1 : (gr_ui t 0 6 (nI (p + i))).1 0 6 = nI (p + i) := gr_ui_eq
      have e8 : (gr_ui t 0 6 (nI (p + i))).1 0 8 = 0 := by rw [gr_ui_ni (by decide)]; exact h8
      rw [r12_5]
      by_cases hc : p + i < gs_n K
      · simp only [r12_0, r12_1, r12_2, r12_3, r12_7, r12_8, r12_11, r12_12, r12_14, r12_15, r12_15n, r12_19, r12_20, r12_21, r12_22, r12_25, r12_28, r12_29, i32_10, reduceIte, gm_cmp1, gm_cmp3, gm_cmp4, gm_kd_sf, gm_ln_sf, gm_sf_1, gm_sf_2, gm_nw_1, gm_nw_2, gm_k_int, gm_k_ref, gm_k_null, gm_k_u, gm_k_long, and_true, true_and, true_or, or_true, or_false, false_or, and_self, or_self, if_true, if_false, List.map_nil, List.map_cons, List.sum_nil, List.sum_cons, Nat.zero_le, Option.toList_some, Option.toList_none, List.cons_append, List.nil_append, ne_eq, not_false_eq_true, not_true_eq_false, nI_1, nI_add, Value.category, Nat.reduceAdd, Nat.reduceMod, Nat.reduceLeDiff, Nat.reduceLT, Nat.reduceEqDiff, Nat.reducePow, Nat.le_refl, Nat.add_left_cancel_iff, Nat.add_eq_left, Nat.left_eq_add, Nat.add_zero, nI_leF (show i < k by omega) (show k < 2 ^ 31 by omega)]
        refine c12_16 (by simp [Value.category]) g_k0 (by omega) (m_next2 B1.1 p1 hn7 hc e8) (gx_kn ?_) gx_kx
        simp only [r12_0, r12_1, r12_2, r12_3, r12_7, r12_8, r12_11, r12_12, r12_14, r12_15, r12_15n, r12_19, r12_20, r12_21, r12_22, r12_25, r12_28, r12_29, i32_10, reduceIte, gm_cmp1, gm_cmp3, gm_cmp4, gm_kd_sf, gm_ln_sf, gm_sf_1, gm_sf_2, gm_nw_1, gm_nw_2, gm_k_int, gm_k_ref, gm_k_null, gm_k_u, gm_k_long, and_true, true_and, true_or, or_true, or_false, false_or, and_self, or_self, if_true, if_false, List.map_nil, List.map_cons, List.sum_nil, List.sum_cons, Nat.zero_le, Option.toList_some, Option.toList_none, List.cons_append, List.nil_append, ne_eq, not_false_eq_true, not_true_eq_false, nI_1, nI_add, Value.category, Nat.reduceAdd, Nat.reduceMod, Nat.reduceLeDiff, Nat.reduceLT, Nat.reduceEqDiff, Nat.reducePow, Nat.le_refl, Nat.add_left_cancel_iff, Nat.add_eq_left, Nat.left_eq_add, Nat.add_zero]
        rw [gr_ui_ui]
        have eb : (gr_ui t 0 6 (nI (p + i))).1 1 (p + i) = gs_sb K (p + i) &&& 255 := B1.2.2 _ hc
        rw [eb]
        exact ih (i + 1) (by omega) (by omega)
      · have hpe : p + i = gs_n K := by omega
        -- none is left: the fault stays
        have bad : ∀ (j i : Nat) (v : Int64), i + j = k → gm_W E d 12 5 [.ref m, .int (nI k), .long v, gm_u, .int (nI i)] [] (gr_H h m (gr_ui (gr_ui t 0 6 (nI (gs_n K))) 0 8 (-3))) Q := by
          intro j
          induction j with
          | zero =>
            intro i2 v hi2
            have hi2 : i2 = k := by omega
            subst hi2
            simp only [r12_0, r12_1, r12_2, r12_3, r12_5, r12_7, r12_8, r12_11, r12_12, r12_14, r12_15, r12_15n, r12_19, r12_20, r12_21, r12_22, r12_25, r12_28, r12_29, i32_10, reduceIte, gm_cmp1, gm_cmp3, gm_cmp4, gm_kd_sf, gm_ln_sf, gm_sf_1, gm_sf_2, gm_nw_1, gm_nw_2, gm_k_int, gm_k_ref, gm_k_null, gm_k_u, gm_k_long, and_true, true_and, true_or, or_true, or_false, false_or, and_self, or_self, if_true, if_false, List.map_nil, List.map_cons, List.sum_nil, List.sum_cons, Nat.zero_le, Option.toList_some, Option.toList_none, List.cons_append, List.nil_append, ne_eq, not_false_eq_true, not_true_eq_false, nI_1, nI_add, Value.category, Nat.reduceAdd, Nat.reduceMod, Nat.reduceLeDiff, Nat.reduceLT, Nat.reduceEqDiff, Nat.reducePow, Nat.le_refl, Nat.add_left_cancel_iff, Nat.add_eq_left, Nat.left_eq_add, Nat.add_zero, nI_leT (Nat.le_refl i2) (show i2 < 2 ^ 31 by omega)]
            rw [hQ]
            exact ⟨fun z => absurd z (by omega), fun _ => ⟨v, _, rfl, rfl, by decide, gs_n K, hn7, rfl⟩⟩
          | succ j ih2 =>
            intro i2 v hi2
            have B2 : gr_B (gr_ui (gr_ui t 0 6 (nI (gs_n K))) 0 8 (-3)) K := (B.ui (by decide) (Or.inr (by decide))).ui (by decide) (Or.inr (by decide))
            have p2 : (gr_ui (gr_ui t 0 6 (nI (gs_n K))) 0 8 (-3)).1 0 6 = nI (gs_n K) := by rw [gr_ui_ni (by decide), gr_ui_eq]
            have ef : gr_fl (gr_ui (gr_ui t 0 6 (nI (gs_n K))) 0 8 (-3)) (-3) = gr_ui (gr_ui t 0 6 (nI (gs_n K))) 0 8 (-3) := by unfold gr_fl; rw [gr_ui_eq, if_neg (by decide)]
            rw [r12_5]
            simp only [r12_0, r12_1, r12_2, r12_3, r12_7, r12_8, r12_11, r12_12, r12_14, r12_15, r12_15n, r12_19, r12_20, r12_21, r12_22, r12_25, r12_28, r12_29, i32_10, reduceIte, gm_cmp1, gm_cmp3, gm_cmp4, gm_kd_sf, gm_ln_sf, gm_sf_1, gm_sf_2, gm_nw_1, gm_nw_2, gm_k_int, gm_k_ref, gm_k_null, gm_k_u, gm_k_long, and_true, true_and, true_or, or_true, or_false, false_or, and_self, or_self, if_true, if_false, List.map_nil, List.map_cons, List.sum_nil, List.sum_cons, Nat.zero_le, Option.toList_some, Option.toList_none, List.cons_append, List.nil_append, ne_eq, not_false_eq_true, not_true_eq_false, nI_1, nI_add, Value.category, Nat.reduceAdd, Nat.reduceMod, Nat.reduceLeDiff, Nat.reduceLT, Nat.reduceEqDiff, Nat.reducePow, Nat.le_refl, Nat.add_left_cancel_iff, Nat.add_eq_left, Nat.left_eq_add, Nat.add_zero, nI_leF (show i2 < k by omega) (show k < 2 ^ 31 by omega)]
            refine c12_16 (by simp [Value.category]) g_k0 (by omega) (m_next0 (by omega) B2.1 p2 hn7 (Nat.le_refl _)) (gx_kn ?_) gx_kx
            rw [ef]
            simp only [r12_0, r12_1, r12_2, r12_3, r12_7, r12_8, r12_11, r12_12, r12_14, r12_15, r12_15n, r12_19, r12_20, r12_21, r12_22, r12_25, r12_28, r12_29, i32_10, reduceIte, gm_cmp1, gm_cmp3, gm_cmp4, gm_kd_sf, gm_ln_sf, gm_sf_1, gm_sf_2, gm_nw_1, gm_nw_2, gm_k_int, gm_k_ref, gm_k_null, gm_k_u, gm_k_long, and_true, true_and, true_or, or_true, or_false, false_or, and_self, or_self, if_true, if_false, List.map_nil, List.map_cons, List.sum_nil, List.sum_cons, Nat.zero_le, Option.toList_some, Option.toList_none, List.cons_append, List.nil_append, ne_eq, not_false_eq_true, not_true_eq_false, nI_1, nI_add, Value.category, Nat.reduceAdd, Nat.reduceMod, Nat.reduceLeDiff, Nat.reduceLT, Nat.reduceEqDiff, Nat.reducePow, Nat.le_refl, Nat.add_left_cancel_iff, Nat.add_eq_left, Nat.left_eq_add, Nat.add_zero]
            exact ih2 (i2 + 1) _ (by omega)
        simp only [r12_0, r12_1, r12_2, r12_3, r12_7, r12_8, r12_11, r12_12, r12_14, r12_15, r12_15n, r12_19, r12_20, r12_21, r12_22, r12_25, r12_28, r12_29, i32_10, reduceIte, gm_cmp1, gm_cmp3, gm_cmp4, gm_kd_sf, gm_ln_sf, gm_sf_1, gm_sf_2, gm_nw_1, gm_nw_2, gm_k_int, gm_k_ref, gm_k_null, gm_k_u, gm_k_long, and_true, true_and, true_or, or_true, or_false, false_or, and_self, or_self, if_true, if_false, List.map_nil, List.map_cons, List.sum_nil, List.sum_cons, Nat.zero_le, Option.toList_some, Option.toList_none, List.cons_append, List.nil_append, ne_eq, not_false_eq_true, not_true_eq_false, nI_1, nI_add, Value.category, Nat.reduceAdd, Nat.reduceMod, Nat.reduceLeDiff, Nat.reduceLT, Nat.reduceEqDiff, Nat.reducePow, Nat.le_refl, Nat.add_left_cancel_iff, Nat.add_eq_left, Nat.left_eq_add, Nat.add_zero, nI_leF (show i < k by omega) (show k < 2 ^ 31 by omega)]
        refine c12_16 (by simp [Value.category]) g_k0 (by omega) (m_next0 (by omega) B1.1 p1 (by omega) (by omega)) (gx_kn ?_) gx_kx
        have ef : gr_fl (gr_ui t 0 6 (nI (p + i))) (-3) = gr_ui (gr_ui t 0 6 (nI (gs_n K))) 0 8 (-3) := by unfold gr_fl; rw [if_pos e8, hpe]
        rw [ef]
        simp only [r12_0, r12_1, r12_2, r12_3, r12_7, r12_8, r12_11, r12_12, r12_14, r12_15, r12_15n, r12_19, r12_20, r12_21, r12_22, r12_25, r12_28, r12_29, i32_10, reduceIte, gm_cmp1, gm_cmp3, gm_cmp4, gm_kd_sf, gm_ln_sf, gm_sf_1, gm_sf_2, gm_nw_1, gm_nw_2, gm_k_int, gm_k_ref, gm_k_null, gm_k_u, gm_k_long, and_true, true_and, true_or, or_true, or_false, false_or, and_self, or_self, if_true, if_false, List.map_nil, List.map_cons, List.sum_nil, List.sum_cons, Nat.zero_le, Option.toList_some, Option.toList_none, List.cons_append, List.nil_append, ne_eq, not_false_eq_true, not_true_eq_false, nI_1, nI_add, Value.category, Nat.reduceAdd, Nat.reduceMod, Nat.reduceLeDiff, Nat.reduceLT, Nat.reduceEqDiff, Nat.reducePow, Nat.le_refl, Nat.add_left_cancel_iff, Nat.add_eq_left, Nat.left_eq_add, Nat.add_zero]
        exact bad j (i + 1) _ (by omega)
  have g0 := good k 0 (by omega) (by omega)
  rw [Nat.add_zero, gr_ui_id hp] at g0
  show gm_W E d 12 0 [.ref m, .int (nI k), gm_u, gm_u, gm_u] [] (gr_H h m t) Q
  simp only [r12_0, r12_1, r12_2, r12_3, r12_7, r12_8, r12_11, r12_12, r12_14, r12_15, r12_15n, r12_19, r12_20, r12_21, r12_22, r12_25, r12_28, r12_29, i32_10, reduceIte, gm_cmp1, gm_cmp3, gm_cmp4, gm_kd_sf, gm_ln_sf, gm_sf_1, gm_sf_2, gm_nw_1, gm_nw_2, gm_k_int, gm_k_ref, gm_k_null, gm_k_u, gm_k_long, and_true, true_and, true_or, or_true, or_false, false_or, and_self, or_self, if_true, if_false, List.map_nil, List.map_cons, List.sum_nil, List.sum_cons, Nat.zero_le, Option.toList_some, Option.toList_none, List.cons_append, List.nil_append, ne_eq, not_false_eq_true, not_true_eq_false, nI_1, nI_add, Value.category, Nat.reduceAdd, Nat.reduceMod, Nat.reduceLeDiff, Nat.reduceLT, Nat.reduceEqDiff, Nat.reducePow, Nat.le_refl, Nat.add_left_cancel_iff, Nat.add_eq_left, Nat.left_eq_add, Nat.add_zero]
  exact g0
/-- under a fault nothing is read -/
theorem m_numberF {p k : Nat} (hd : 2 ≤ d) (B : gr_B t K) (hp : t.1 0 6 = nI p) (hp7 : p ≤ 700) (h8 : ¬ t.1 0 8 = 0) (hk : k ≤ 8) : gm_Ca E d 12 [.ref m, .int (nI k)] (gr_H h m t) (fun r h' => ∃ v, r = .inl (some (.long v)) ∧ h' = gr_H h m t) := by
  obtain ⟨Q, hQ⟩ : ∃ Q : gm_R → gm_H → Prop, Q = (fun r h' => ∃ v, r = .inl (some (.long v)) ∧ h' = gr_H h m t) := ⟨_, rfl⟩
  rw [← hQ]
  have hn7 := B.2.1
  have ef : gr_fl t (-3) = t := by unfold gr_fl; rw [if_neg h8]
  have loop : ∀ (j i : Nat) (v : Int64), i + j = k → gm_W E d 12 5 [.ref m, .int (nI k), .long v, gm_u, .int (nI i)] [] (gr_H h m t) Q := by
    intro j
    induction j with
    | zero =>
      intro i v hi
      have hi : i = k := by omega
      subst hi
      simp only [r12_0, r12_1, r12_2, r12_3, r12_5, r12_7, r12_8, r12_11, r12_12, r12_14, r12_15, r12_15n, r12_19, r12_20, r12_21, r12_22, r12_25, r12_28, r12_29, i32_10, reduceIte, gm_cmp1, gm_cmp3, gm_cmp4, gm_kd_sf, gm_ln_sf, gm_sf_1, gm_sf_2, gm_nw_1, gm_nw_2, gm_k_int, gm_k_ref, gm_k_null, gm_k_u, gm_k_long, and_true, true_and, true_or, or_true, or_false, false_or, and_self, or_self, if_true, if_false, List.map_nil, List.map_cons, List.sum_nil, List.sum_cons, Nat.zero_le, Option.toList_some, Option.toList_none, List.cons_append, List.nil_append, ne_eq, not_false_eq_true, not_true_eq_false, nI_1, nI_add, Value.category, Nat.reduceAdd, Nat.reduceMod, Nat.reduceLeDiff, Nat.reduceLT, Nat.reduceEqDiff, Nat.reducePow, Nat.le_refl, Nat.add_left_cancel_iff, Nat.add_eq_left, Nat.left_eq_add, Nat.add_zero, nI_leT (Nat.le_refl i) (show i < 2 ^ 31 by omega)]
      rw [hQ]
      exact ⟨v, rfl, rfl⟩
    | succ j ih =>
      intro i v hi
      rw [r12_5]
      simp only [r12_0, r12_1, r12_2, r12_3, r12_7, r12_8, r12_11, r12_12, r12_14, r12_15, r12_15n, r12_19, r12_20, r12_21, r12_22, r12_25, r12_28, r12_29, i32_10, reduceIte, gm_cmp1, gm_cmp3, gm_cmp4, gm_kd_sf, gm_ln_sf, gm_sf_1, gm_sf_2, gm_nw_1, gm_nw_2, gm_k_int, gm_k_ref, gm_k_null, gm_k_u, gm_k_long, and_true, true_and, true_or, or_true, or_false, false_or, and_self, or_self, if_true, if_false, List.map_nil, List.map_cons, List.sum_nil, List.sum_cons, Nat.zero_le, Option.toList_some, Option.toList_none, List.cons_append, List.nil_append, ne_eq, not_false_eq_true, not_true_eq_false, nI_1, nI_add, Value.category, Nat.reduceAdd, Nat.reduceMod, Nat.reduceLeDiff, Nat.reduceLT, Nat.reduceEqDiff, Nat.reducePow, Nat.le_refl, Nat.add_left_cancel_iff, Nat.add_eq_left, Nat.left_eq_add, Nat.add_zero, nI_leF (show i < k by omega) (show k < 2 ^ 31 by omega)]
      by_cases hc : gs_n K ≤ p
      · refine c12_16 (by simp [Value.category]) g_k0 (by omega) (m_next0 (by omega) B.1 hp hp7 hc) (gx_kn ?_) gx_kx
        rw [ef]
        simp only [r12_0, r12_1, r12_2, r12_3, r12_7, r12_8, r12_11, r12_12, r12_14, r12_15, r12_15n, r12_19, r12_20, r12_21, r12_22, r12_25, r12_28, r12_29, i32_10, reduceIte, gm_cmp1, gm_cmp3, gm_cmp4, gm_kd_sf, gm_ln_sf, gm_sf_1, gm_sf_2, gm_nw_1, gm_nw_2, gm_k_int, gm_k_ref, gm_k_null, gm_k_u, gm_k_long, and_true, true_and, true_or, or_true, or_false, false_or, and_self, or_self, if_true, if_false, List.map_nil, List.map_cons, List.sum_nil, List.sum_cons, Nat.zero_le, Option.toList_some, Option.toList_none, List.cons_append, List.nil_append, ne_eq, not_false_eq_true, not_true_eq_false, nI_1, nI_add, Value.category, Nat.reduceAdd, Nat.reduceMod, Nat.reduceLeDiff, Nat.reduceLT, Nat.reduceEqDiff, Nat.reducePow, Nat.le_refl, Nat.add_left_cancel_iff, Nat.add_eq_left, Nat.left_eq_add, Nat.add_zero]
        exact ih (i + 1) _ (by omega)
      · refine c12_16 (by simp [Value.category]) g_k0 (by omega) (m_next1 B.1 hp hn7 (by omega) h8) (gx_kn ?_) gx_kx
        simp only [r12_0, r12_1, r12_2, r12_3, r12_7, r12_8, r12_11, r12_12, r12_14, r12_15, r12_15n, r12_19, r12_20, r12_21, r12_22, r12_25, r12_28, r12_29, i32_10, reduceIte, gm_cmp1, gm_cmp3, gm_cmp4, gm_kd_sf, gm_ln_sf, gm_sf_1, gm_sf_2, gm_nw_1, gm_nw_2, gm_k_int, gm_k_ref, gm_k_null, gm_k_u, gm_k_long, and_true, true_and, true_or, or_true, or_false, false_or, and_self, or_self, if_true, if_false, List.map_nil, List.map_cons, List.sum_nil, List.sum_cons, Nat.zero_le, Option.toList_some, Option.toList_none, List.cons_append, List.nil_append, ne_eq, not_false_eq_true, not_true_eq_false, nI_1, nI_add, Value.category, Nat.reduceAdd, Nat.reduceMod, Nat.reduceLeDiff, Nat.reduceLT, Nat.reduceEqDiff, Nat.reducePow, Nat.le_refl, Nat.add_left_cancel_iff, Nat.add_eq_left, Nat.left_eq_add, Nat.add_zero]
        exact ih (i + 1) _ (by omega)
  show gm_W E d 12 0 [.ref m, .int (nI k), gm_u, gm_u, gm_u] [] (gr_H h m t) Q
  simp only [r12_0, r12_1, r12_2, r12_3, r12_7, r12_8, r12_11, r12_12, r12_14, r12_15, r12_15n, r12_19, r12_20, r12_21, r12_22, r12_25, r12_28, r12_29, i32_10, reduceIte, gm_cmp1, gm_cmp3, gm_cmp4, gm_kd_sf, gm_ln_sf, gm_sf_1, gm_sf_2, gm_nw_1, gm_nw_2, gm_k_int, gm_k_ref, gm_k_null, gm_k_u, gm_k_long, and_true, true_and, true_or, or_true, or_false, false_or, and_self, or_self, if_true, if_false, List.map_nil, List.map_cons, List.sum_nil, List.sum_cons, Nat.zero_le, Option.toList_some, Option.toList_none, List.cons_append, List.nil_append, ne_eq, not_false_eq_true, not_true_eq_false, nI_1, nI_add, Value.category, Nat.reduceAdd, Nat.reduceMod, Nat.reduceLeDiff, Nat.reduceLT, Nat.reduceEqDiff, Nat.reducePow, Nat.le_refl, Nat.add_left_cancel_iff, Nat.add_eq_left, Nat.left_eq_add, Nat.add_zero]
  exact loop k 0 0 (by omega)
end M3
/-! THE REFERENCE, 3: classes: define, constant. -/
section M4
variable {E : Nat → Value} {d m : Nat} {h : gm_H} {t : gr_t} {K : gs_K}
def gr_o (o : Option Nat) : Int32 := match o with
  | none => -1
  | some c => nI c
/-- the classes -/
def gr_C (t : gr_t) (K : gs_K) : Prop := ∀ c, c < 6 → match gs_cls K c with
  | none => t.1 2 c = -1 ∧ t.1 5 c = 0 ∧ t.1 8 c = 0 ∧ t.1 9 c = 0
  | some C => t.1 2 c = gs_kind C ∧ (0 ≤ gs_kind C ∧ gs_kind C ≤ 4) ∧ t.1 4 c = gr_o (gs_sup C) ∧ t.2 3 c = gs_cid C ∧ t.1 5 c = nI (gs_fs C).length ∧ (gs_fs C).length ≤ 4 ∧ t.1 8 c = gs_con C ∧ t.1 9 c = (if gs_bar C = true then 1 else 0) ∧ ∀ (j : Nat) (q : Int32 × Int32), (gs_fs C)[j]? = some q → t.1 6 (4 * c + j) = q.1 ∧ t.1 7 (4 * c + j) = q.2
theorem gr_C.kind {c : Nat} (Cl : gr_C t K) (hc : c < 6) : (t.1 2 c < 0 ↔ gs_cls K c = none) ∧ ∀ C, gs_cls K c = some C → t.1 2 c = gs_kind C := by
  have q := Cl c hc
  cases e : gs_cls K c with
  | none =>
    rw [e] at q
    refine ⟨⟨fun _ => rfl, fun _ => by rw [q.1]; decide⟩, fun C z => by cases z⟩
  | some C =>
    rw [e] at q
    refine ⟨⟨fun z => ?_, fun z => by cases z⟩, fun C' z => by cases z; exact q.1⟩
    rw [q.1] at z
    exact absurd z (Int32.not_lt.mpr q.2.1.1)
theorem gr_noc_eq {n : Int32} (Cl : gr_C t K) (h6 : ∀ c, 6 ≤ c → gs_cls K c = none) : gr_noc t n = (gs_cn K n).isNone := by
  unfold gr_noc gs_cn
  by_cases h1 : n < 0
  · simp [h1]
  · obtain ⟨i, hi, rfl⟩ := nI_of h1
    rw [if_neg h1, nI_clamp hi]
    by_cases h2 : i < 6
    · have e6 : ¬ (6 : Int32) ≤ nI i := nI_ge (b := 6) h2 (by decide)
      have q := (Cl.kind h2).1
      cases e : gs_cls K i with
      | none => simp [q.mpr e]
      | some C =>
        have : ¬ t.1 2 i < 0 := fun z => by rw [q.mp z] at e; cases e
        simp [h1, e6, this]
    · have e6 : (6 : Int32) ≤ nI i := nI_le (a := 6) (by omega) hi
      simp [e6, h6 i (by omega)]
def gr_def (t : gr_t) (n : Nat) (k u : Int32) (id : Int64) : gr_t := gr_ul (gr_ui (gr_ui t 2 n k) 4 n u) 3 n id
theorem gr_lt1 {v n : Int32} : (if v < 0 then (1 : Int32) else if v < n then 0 else 1) = if (decide (v < 0) || decide (n ≤ v)) = true then 1 else 0 := by
  by_cases h1 : v < 0
  · simp [h1]
  · by_cases h2 : v < n
    · simp [h1, h2, Int32.not_le.mpr h2]
    · simp [h1, h2, Int32.not_lt.mp h2]
theorem m_define {n k u : Int32} {id : Int64} (hd : 2 ≤ d) (Cl : gr_C t K) (h6 : ∀ c, 6 ≤ c → gs_cls K c = none) : gm_Ca E d 6 [.ref m, .int n, .int k, .int u, .long id] (gr_H h m t) (fun r h' => if gs_defok K n k u = true then r = .inl (some (.int 0)) ∧ h' = gr_H h m (gr_def t n.toNatClampNeg k u id) else r = .inl (some (.int (-1))) ∧ h' = gr_H h m t) := by
  obtain ⟨Q, hQ⟩ : ∃ Q : gm_R → gm_H → Prop, Q = (fun r h' => if gs_defok K n k u = true then r = .inl (some (.int 0)) ∧ h' = gr_H h m (gr_def t n.toNatClampNeg k u id) else r = .inl (some (.int (-1))) ∧ h' = gr_H h m t) := ⟨_, rfl⟩
  rw [← hQ]
  have no : gs_defok K n k u = false → Q (.inl (some (.int (-1)))) (gr_H h m t) := by
    intro e
    rw [hQ, e]
    exact ⟨rfl, rfl⟩
  show gm_W E d 6 0 [.ref m, .int n, .int k, .int u, .long id, gm_u] [] (gr_H h m t) Q
  have n41 : gs_defok K n k u = false → gm_W E d 6 41 [.ref m, .int n, .int k, .int u, .long id, gm_u] [] (gr_H h m t) Q := fun e => by
    simp only [r6_0, r6_0n, r6_1, r6_2, r6_7, r6_10, r6_10n, r6_11, r6_12, r6_16, r6_19, r6_20, r6_21, r6_24, r6_25, r6_28, r6_29, r6_30, r6_33, r6_33n, r6_34, r6_38, r6_41, r6_42, r6_43, r6_43n, r6_44, r6_47, r6_48, r6_49, r6_52, r6_53, r6_54, r6_55, r6_58, r6_59, r6_60, r6_63, r6_63n, r6_64, r6_67, r6_68, r6_69, r6_70, r6_73, r6_74, r6_77, r6_77n, r6_78, r6_81, r6_82, r6_83, r6_86, r6_87, r6_88, r6_88n, r6_89, r6_92, r6_93, r6_94, r6_95, r6_95n, r6_96, r6_99, r6_100, r6_101, r6_102, r6_102n, r6_103, r6_106, r6_107, r6_109, r6_110, r6_111, i32_10, reduceIte, gm_cmp1, gm_cmp3, gm_cmp4, gm_kd_sf, gm_ln_sf, gm_sf_1, gm_sf_2, gm_nw_1, gm_nw_2, gm_k_int, gm_k_ref, gm_k_null, gm_k_u, gm_k_long, and_true, true_and, true_or, or_true, or_false, false_or, and_self, or_self, if_true, if_false, List.map_nil, List.map_cons, List.sum_nil, List.sum_cons, Nat.zero_le, Option.toList_some, Option.toList_none, List.cons_append, List.nil_append, ne_eq, not_false_eq_true, not_true_eq_false, nI_1, nI_add, Value.category, Nat.reduceAdd, Nat.reduceMod, Nat.reduceLeDiff, Nat.reduceLT, Nat.reduceEqDiff, Nat.reducePow, Nat.le_refl, Nat.add_left_cancel_iff, Nat.add_eq_left, Nat.left_eq_add, Nat.add_zero]; exact no e
  have n52 : gs_defok K n k u = false → gm_W E d 6 52 [.ref m, .int n, .int k, .int u, .long id, gm_u] [] (gr_H h m t) Q := fun e => by
    simp only [r6_0, r6_0n, r6_1, r6_2, r6_7, r6_10, r6_10n, r6_11, r6_12, r6_16, r6_19, r6_20, r6_21, r6_24, r6_25, r6_28, r6_29, r6_30, r6_33, r6_33n, r6_34, r6_38, r6_41, r6_42, r6_43, r6_43n, r6_44, r6_47, r6_48, r6_49, r6_52, r6_53, r6_54, r6_55, r6_58, r6_59, r6_60, r6_63, r6_63n, r6_64, r6_67, r6_68, r6_69, r6_70, r6_73, r6_74, r6_77, r6_77n, r6_78, r6_81, r6_82, r6_83, r6_86, r6_87, r6_88, r6_88n, r6_89, r6_92, r6_93, r6_94, r6_95, r6_95n, r6_96, r6_99, r6_100, r6_101, r6_102, r6_102n, r6_103, r6_106, r6_107, r6_109, r6_110, r6_111, i32_10, reduceIte, gm_cmp1, gm_cmp3, gm_cmp4, gm_kd_sf, gm_ln_sf, gm_sf_1, gm_sf_2, gm_nw_1, gm_nw_2, gm_k_int, gm_k_ref, gm_k_null, gm_k_u, gm_k_long, and_true, true_and, true_or, or_true, or_false, false_or, and_self, or_self, if_true, if_false, List.map_nil, List.map_cons, List.sum_nil, List.sum_cons, Nat.zero_le, Option.toList_some, Option.toList_none, List.cons_append, List.nil_append, ne_eq, not_false_eq_true, not_true_eq_false, nI_1, nI_add, Value.category, Nat.reduceAdd, Nat.reduceMod, Nat.reduceLeDiff, Nat.reduceLT, Nat.reduceEqDiff, Nat.reducePow, Nat.le_refl, Nat.add_left_cancel_iff, Nat.add_eq_left, Nat.left_eq_add, Nat.add_zero]; exact no e
  have n86 : gs_defok K n k u = false → gm_W E d 6 86 [.ref m, .int n, .int k, .int u, .long id, gm_u] [] (gr_H h m t) Q := fun e => by
    simp only [r6_0, r6_0n, r6_1, r6_2, r6_7, r6_10, r6_10n, r6_11, r6_12, r6_16, r6_19, r6_20, r6_21, r6_24, r6_25, r6_28, r6_29, r6_30, r6_33, r6_33n, r6_34, r6_38, r6_41, r6_42, r6_43, r6_43n, r6_44, r6_47, r6_48, r6_49, r6_52, r6_53, r6_54, r6_55, r6_58, r6_59, r6_60, r6_63, r6_63n, r6_64, r6_67, r6_68, r6_69, r6_70, r6_73, r6_74, r6_77, r6_77n, r6_78, r6_81, r6_82, r6_83, r6_86, r6_87, r6_88, r6_88n, r6_89, r6_92, r6_93, r6_94, r6_95, r6_95n, r6_96, r6_99, r6_100, r6_101, r6_102, r6_102n, r6_103, r6_106, r6_107, r6_109, r6_110, r6_111, i32_10, reduceIte, gm_cmp1, gm_cmp3, gm_cmp4, gm_kd_sf, gm_ln_sf, gm_sf_1, gm_sf_2, gm_nw_1, gm_nw_2, gm_k_int, gm_k_ref, gm_k_null, gm_k_u, gm_k_long, and_true, true_and, true_or, or_true, or_false, false_or, and_self, or_self, if_true, if_false, List.map_nil, List.map_cons, List.sum_nil, List.sum_cons, Nat.zero_le, Option.toList_some, Option.toList_none, List.cons_append, List.nil_append, ne_eq, not_false_eq_true, not_true_eq_false, nI_1, nI_add, Value.category, Nat.reduceAdd, Nat.reduceMod, Nat.reduceLeDiff, Nat.reduceLT, Nat.reduceEqDiff, Nat.reducePow, Nat.le_refl, Nat.add_left_cancel_iff, Nat.add_eq_left, Nat.left_eq_add, Nat.add_zero]; exact no e
  simp only [r6_0, r6_0n, r6_1, r6_2, r6_7, r6_10, r6_10n, r6_11, r6_12, r6_16, r6_19, r6_20, r6_21, r6_24, r6_25, r6_28, r6_29, r6_30, r6_33, r6_33n, r6_34, r6_38, r6_41, r6_42, r6_43, r6_43n, r6_44, r6_47, r6_48, r6_49, r6_52, r6_53, r6_54, r6_55, r6_58, r6_59, r6_60, r6_63, r6_63n, r6_64, r6_67, r6_68, r6_69, r6_70, r6_73, r6_74, r6_77, r6_77n, r6_78, r6_81, r6_82, r6_83, r6_86, r6_87, r6_88, r6_88n, r6_89, r6_92, r6_93, r6_94, r6_95, r6_95n, r6_96, r6_99, r6_100, r6_101, r6_102, r6_102n, r6_103, r6_106, r6_107, r6_109, r6_110, r6_111, i32_10, reduceIte, gm_cmp1, gm_cmp3, gm_cmp4, gm_kd_sf, gm_ln_sf, gm_sf_1, gm_sf_2, gm_nw_1, gm_nw_2, gm_k_int, gm_k_ref, gm_k_null, gm_k_u, gm_k_long, and_true, true_and, true_or, or_true, or_false, false_or, and_self, or_self, if_true, if_false, List.map_nil, List.map_cons, List.sum_nil, List.sum_cons, Nat.zero_le, Option.toList_some, Option.toList_none, List.cons_append, List.nil_append, ne_eq, not_false_eq_true, not_true_eq_false, nI_1, nI_add, Value.category, Nat.reduceAdd, Nat.reduceMod, Nat.reduceLeDiff, Nat.reduceLT, Nat.reduceEqDiff, Nat.reducePow, Nat.le_refl, Nat.add_left_cancel_iff, Nat.add_eq_left, Nat.left_eq_add, Nat.add_zero]
  refine c6_4 (by simp) g_k0 (by omega) m_out (gx_kn ?_) gx_kx
  by_cases h1 : n < 0
  · simp only [r6_0, r6_0n, r6_1, r6_2, r6_7, r6_10, r6_10n, r6_11, r6_12, r6_16, r6_19, r6_20, r6_21, r6_24, r6_25, r6_28, r6_29, r6_30, r6_33, r6_33n, r6_34, r6_38, r6_42, r6_44, r6_47, r6_48, r6_49, r6_52, r6_53, r6_54, r6_55, r6_58, r6_59, r6_60, r6_63, r6_63n, r6_64, r6_67, r6_68, r6_69, r6_70, r6_73, r6_74, r6_77, r6_77n, r6_78, r6_81, r6_82, r6_83, r6_86, r6_87, r6_88, r6_88n, r6_89, r6_92, r6_93, r6_94, r6_95, r6_95n, r6_96, r6_99, r6_100, r6_101, r6_102, r6_102n, r6_103, r6_106, r6_107, r6_109, r6_110, r6_111, i32_10, reduceIte, gm_cmp1, gm_cmp3, gm_cmp4, gm_kd_sf, gm_ln_sf, gm_sf_1, gm_sf_2, gm_nw_1, gm_nw_2, gm_k_int, gm_k_ref, gm_k_null, gm_k_u, gm_k_long, and_true, true_and, true_or, or_true, or_false, false_or, and_self, or_self, if_true, if_false, List.map_nil, List.map_cons, List.sum_nil, List.sum_cons, Nat.zero_le, Option.toList_some, Option.toList_none, List.cons_append, List.nil_append, ne_eq, not_false_eq_true, not_true_eq_false, nI_1, nI_add, Value.category, Nat.reduceAdd, Nat.reduceMod, Nat.reduceLeDiff, Nat.reduceLT, Nat.reduceEqDiff, Nat.reducePow, Nat.le_refl, Nat.add_left_cancel_iff, Nat.add_eq_left, Nat.left_eq_add, Nat.add_zero, h1]
    exact n41 (by unfold gs_defok; simp [Int32.not_le.mpr h1])
  by_cases h2 : n < 6
  · simp only [r6_0, r6_0n, r6_1, r6_2, r6_7, r6_10, r6_10n, r6_11, r6_12, r6_16, r6_19, r6_20, r6_21, r6_24, r6_25, r6_28, r6_29, r6_30, r6_33, r6_33n, r6_34, r6_38, r6_42, r6_44, r6_47, r6_48, r6_49, r6_52, r6_53, r6_54, r6_55, r6_58, r6_59, r6_60, r6_63, r6_63n, r6_64, r6_67, r6_68, r6_69, r6_70, r6_73, r6_74, r6_77, r6_77n, r6_78, r6_81, r6_82, r6_83, r6_86, r6_87, r6_88, r6_88n, r6_89, r6_92, r6_93, r6_94, r6_95, r6_95n, r6_96, r6_99, r6_100, r6_101, r6_102, r6_102n, r6_103, r6_106, r6_107, r6_109, r6_110, r6_111, i32_10, reduceIte, gm_cmp1, gm_cmp3, gm_cmp4, gm_kd_sf, gm_ln_sf, gm_sf_1, gm_sf_2, gm_nw_1, gm_nw_2, gm_k_int, gm_k_ref, gm_k_null, gm_k_u, gm_k_long, and_true, true_and, true_or, or_true, or_false, false_or, and_self, or_self, if_true, if_false, List.map_nil, List.map_cons, List.sum_nil, List.sum_cons, Nat.zero_le, Option.toList_some, Option.toList_none, List.cons_append, List.nil_append, ne_eq, not_false_eq_true, not_true_eq_false, nI_1, nI_add, Value.category, Nat.reduceAdd, Nat.reduceMod, Nat.reduceLeDiff, Nat.reduceLT, Nat.reduceEqDiff, Nat.reducePow, Nat.le_refl, Nat.add_left_cancel_iff, Nat.add_eq_left, Nat.left_eq_add, Nat.add_zero, h1, h2]
    refine c6_13 (by simp) g_k0 (by omega) m_out (gx_kn ?_) gx_kx
    by_cases h3 : k < 0
    · simp only [r6_0, r6_0n, r6_1, r6_2, r6_7, r6_10, r6_10n, r6_11, r6_12, r6_16, r6_19, r6_20, r6_21, r6_24, r6_25, r6_28, r6_29, r6_30, r6_33, r6_33n, r6_34, r6_38, r6_42, r6_44, r6_47, r6_48, r6_49, r6_52, r6_53, r6_54, r6_55, r6_58, r6_59, r6_60, r6_63, r6_63n, r6_64, r6_67, r6_68, r6_69, r6_70, r6_73, r6_74, r6_77, r6_77n, r6_78, r6_81, r6_82, r6_83, r6_86, r6_87, r6_88, r6_88n, r6_89, r6_92, r6_93, r6_94, r6_95, r6_95n, r6_96, r6_99, r6_100, r6_101, r6_102, r6_102n, r6_103, r6_106, r6_107, r6_109, r6_110, r6_111, i32_10, reduceIte, gm_cmp1, gm_cmp3, gm_cmp4, gm_kd_sf, gm_ln_sf, gm_sf_1, gm_sf_2, gm_nw_1, gm_nw_2, gm_k_int, gm_k_ref, gm_k_null, gm_k_u, gm_k_long, and_true, true_and, true_or, or_true, or_false, false_or, and_self, or_self, if_true, if_false, List.map_nil, List.map_cons, List.sum_nil, List.sum_cons, Nat.zero_le, Option.toList_some, Option.toList_none, List.cons_append, List.nil_append, ne_eq, not_false_eq_true, not_true_eq_false, nI_1, nI_add, Value.category, Nat.reduceAdd, Nat.reduceMod, Nat.reduceLeDiff, Nat.reduceLT, Nat.reduceEqDiff, Nat.reducePow, Nat.le_refl, Nat.add_left_cancel_iff, Nat.add_eq_left, Nat.left_eq_add, Nat.add_zero, h3]
      exact n41 (by unfold gs_defok; simp [Int32.not_le.mpr h3])
    by_cases h4 : k < 5
    · have h4' : k ≤ 4 := by
        obtain ⟨j, hj, rfl⟩ := nI_of h3
        have := (nI_ltI (b := 5) hj (by decide)).mp h4
        exact nI_le (b := 4) (by omega) (by decide)
      have p3 : 0 ≤ k := Int32.not_lt.mp h3
      simp only [r6_0, r6_0n, r6_1, r6_2, r6_7, r6_10, r6_10n, r6_11, r6_12, r6_16, r6_19, r6_20, r6_21, r6_24, r6_25, r6_28, r6_29, r6_30, r6_33, r6_33n, r6_34, r6_38, r6_42, r6_44, r6_47, r6_48, r6_49, r6_52, r6_53, r6_54, r6_55, r6_58, r6_59, r6_60, r6_63, r6_63n, r6_64, r6_67, r6_68, r6_69, r6_70, r6_73, r6_74, r6_77, r6_77n, r6_78, r6_81, r6_82, r6_83, r6_86, r6_87, r6_88, r6_88n, r6_89, r6_92, r6_93, r6_94, r6_95, r6_95n, r6_96, r6_99, r6_100, r6_101, r6_102, r6_102n, r6_103, r6_106, r6_107, r6_109, r6_110, r6_111, i32_10, reduceIte, gm_cmp1, gm_cmp3, gm_cmp4, gm_kd_sf, gm_ln_sf, gm_sf_1, gm_sf_2, gm_nw_1, gm_nw_2, gm_k_int, gm_k_ref, gm_k_null, gm_k_u, gm_k_long, and_true, true_and, true_or, or_true, or_false, false_or, and_self, or_self, if_true, if_false, List.map_nil, List.map_cons, List.sum_nil, List.sum_cons, Nat.zero_le, Option.toList_some, Option.toList_none, List.cons_append, List.nil_append, ne_eq, not_false_eq_true, not_true_eq_false, nI_1, nI_add, Value.category, Nat.reduceAdd, Nat.reduceMod, Nat.reduceLeDiff, Nat.reduceLT, Nat.reduceEqDiff, Nat.reducePow, Nat.le_refl, Nat.add_left_cancel_iff, Nat.add_eq_left, Nat.left_eq_add, Nat.add_zero, h3, h4]
      by_cases h5 : u < -1
      · simp only [r6_0, r6_0n, r6_1, r6_2, r6_7, r6_10, r6_10n, r6_11, r6_12, r6_16, r6_19, r6_20, r6_21, r6_24, r6_25, r6_28, r6_29, r6_30, r6_33, r6_33n, r6_34, r6_38, r6_42, r6_44, r6_47, r6_48, r6_49, r6_52, r6_53, r6_54, r6_55, r6_58, r6_59, r6_60, r6_63, r6_63n, r6_64, r6_67, r6_68, r6_69, r6_70, r6_73, r6_74, r6_77, r6_77n, r6_78, r6_81, r6_82, r6_83, r6_86, r6_87, r6_88, r6_88n, r6_89, r6_92, r6_93, r6_94, r6_95, r6_95n, r6_96, r6_99, r6_100, r6_101, r6_102, r6_102n, r6_103, r6_106, r6_107, r6_109, r6_110, r6_111, i32_10, reduceIte, gm_cmp1, gm_cmp3, gm_cmp4, gm_kd_sf, gm_ln_sf, gm_sf_1, gm_sf_2, gm_nw_1, gm_nw_2, gm_k_int, gm_k_ref, gm_k_null, gm_k_u, gm_k_long, and_true, true_and, true_or, or_true, or_false, false_or, and_self, or_self, if_true, if_false, List.map_nil, List.map_cons, List.sum_nil, List.sum_cons, Nat.zero_le, Option.toList_some, Option.toList_none, List.cons_append, List.nil_append, ne_eq, not_false_eq_true, not_true_eq_false, nI_1, nI_add, Value.category, Nat.reduceAdd, Nat.reduceMod, Nat.reduceLeDiff, Nat.reduceLT, Nat.reduceEqDiff, Nat.reducePow, Nat.le_refl, Nat.add_left_cancel_iff, Nat.add_eq_left, Nat.left_eq_add, Nat.add_zero, h5]
        exact n41 (by unfold gs_defok; simp [Int32.not_le.mpr h5])
      have p5 : -1 ≤ u := Int32.not_lt.mp h5
      obtain ⟨i, hi, rfl⟩ := nI_of h1
      have hi6 : i < 6 := (nI_ltI (b := 6) hi (by decide)).mp h2
      have p1 : 0 ≤ nI i := nI_pos' hi
      have ki := Cl.kind hi6
      -- behind the first questions
      have from43 : (u < nI i) → ((u < 0 ∨ ∃ q, u = nI q ∧ q < 6 ∧ (gs_cls K q).isSome = true)) → gm_W E d 6 43 [.ref m, .int (nI i), .int k, .int u, .long id, gm_u] [] (gr_H h m t) Q := by
        intro p6 hu
        by_cases hk : t.1 2 i < 0
        · have hC := ki.1.mp hk
          have fin : gs_defok K (nI i) k u = true → gm_W E d 6 88 [.ref m, .int (nI i), .int k, .int u, .long id, gm_u] [] (gr_H h m t) Q := by
            intro e
            simp only [r6_0, r6_0n, r6_1, r6_2, r6_7, r6_10, r6_10n, r6_11, r6_12, r6_16, r6_19, r6_20, r6_21, r6_24, r6_25, r6_28, r6_29, r6_30, r6_33, r6_33n, r6_34, r6_38, r6_41, r6_42, r6_43, r6_43n, r6_44, r6_47, r6_48, r6_49, r6_52, r6_53, r6_54, r6_55, r6_58, r6_59, r6_60, r6_63, r6_63n, r6_64, r6_67, r6_68, r6_69, r6_70, r6_73, r6_74, r6_77, r6_77n, r6_78, r6_81, r6_82, r6_83, r6_86, r6_87, r6_88, r6_88n, r6_89, r6_92, r6_93, r6_94, r6_95, r6_95n, r6_96, r6_99, r6_100, r6_101, r6_102, r6_102n, r6_103, r6_106, r6_107, r6_109, r6_110, r6_111, i32_10, reduceIte, gm_cmp1, gm_cmp3, gm_cmp4, gm_kd_sf, gm_ln_sf, gm_sf_1, gm_sf_2, gm_nw_1, gm_nw_2, gm_k_int, gm_k_ref, gm_k_null, gm_k_u, gm_k_long, and_true, true_and, true_or, or_true, or_false, false_or, and_self, or_self, if_true, if_false, List.map_nil, List.map_cons, List.sum_nil, List.sum_cons, Nat.zero_le, Option.toList_some, Option.toList_none, List.cons_append, List.nil_append, ne_eq, not_false_eq_true, not_true_eq_false, nI_1, nI_add, Value.category, Nat.reduceAdd, Nat.reduceMod, Nat.reduceLeDiff, Nat.reduceLT, Nat.reduceEqDiff, Nat.reducePow, Nat.le_refl, Nat.add_left_cancel_iff, Nat.add_eq_left, Nat.left_eq_add, Nat.add_zero, g_k0, g_k1, g_l1, g_p4, g_a1, g_w1, g_k2, g_l2, g_p10, g_a2, g_w2, g_k3, g_l3, g_p11, g_a3, g_w3, g_k4, g_l4, g_p12, g_a4, g_w4, g_k5, g_l5, g_p13, g_a5, g_w5, g_k6, g_l6, g_p14, g_a6, g_w6, g_k7, g_l7, g_p15, g_a7, g_w7, g_k8, g_l8, g_p16, g_a8, g_w8, g_k9, g_l9, g_p17, g_a9, g_w9, g_k10, g_l10, g_p18, g_a10, g_w10, g_k11, g_l11, g_p19, g_a11, g_w11, g_k12, g_l12, g_p20, g_a12, g_w12, g_k13, g_l13, g_p21, g_a13, g_w13, g_k14, g_l14, g_p22, g_a14, g_w14, g_k15, g_l15, g_p24, g_a15, g_w15, g_k16, g_l16, g_p26, g_a16, g_w16, g_k17, g_l17, g_p27, g_a17, g_w17, g_k18, g_l18, g_p29, g_a18, g_w18, g_k19, g_l19, g_p30, g_a19, g_w19, g_k20, g_l20, g_p31, g_a20, g_w20, g_k21, g_l21, g_p32, g_a21, g_w21, g_k22, g_l22, g_p33, g_a22, g_w22, g_k23, g_l23, g_p34, g_a23, g_w23, g_k24, g_l24, g_p35, g_a24, g_w24, g_k25, g_l25, g_p36, g_a25, g_w25, g_k26, g_l26, g_p37, g_a26, g_w26, g_k27, g_l27, g_p38, g_a27, g_w27, g_k28, g_l28, g_p40, g_a28, g_w28, g_k29, g_l29, g_p41, g_a29, g_w29, g_k30, g_l30, g_p42, g_a30, g_w30, g_k31, g_l31, g_p43, g_a31, g_w31, g_k32, g_l32, g_p44, g_a32, g_w32, g_k33, g_l33, g_p45, g_a33, g_w33, g_k34, g_l34, g_p46, g_a34, g_w34, g_f0, g_s0, g_f1, g_s1, g_f2, g_s2, g_f3, g_s3, g_f5, g_s5, g_f6, g_s6, g_f7, g_s7, g_f8, g_s8, g_f9, g_s9, g_f23, g_s23, g_f25, g_s25, g_f28, g_s28, g_f39, g_s39, g_f47, g_s47, gr_ui_eq, gr_ui_2, gr_ul_eq, gr_ul_1, gr_ui_no, gr_ui_ni, gr_ul_no, gr_ul_ni, hi6]
            rw [hQ]
            dsimp only
            rw [if_pos e, nI_clamp hi]
            exact ⟨rfl, rfl⟩
          rcases hu with hu | ⟨q, rfl, hq6, hqs⟩
          · simp only [r6_0, r6_0n, r6_1, r6_2, r6_7, r6_10, r6_10n, r6_11, r6_12, r6_16, r6_19, r6_20, r6_21, r6_24, r6_25, r6_28, r6_29, r6_30, r6_33, r6_33n, r6_34, r6_38, r6_41, r6_42, r6_43, r6_43n, r6_44, r6_47, r6_48, r6_49, r6_53, r6_54, r6_55, r6_58, r6_59, r6_60, r6_63, r6_63n, r6_64, r6_67, r6_68, r6_69, r6_70, r6_73, r6_74, r6_77, r6_77n, r6_78, r6_81, r6_82, r6_83, r6_87, r6_89, r6_92, r6_93, r6_94, r6_95, r6_95n, r6_96, r6_99, r6_100, r6_101, r6_102, r6_102n, r6_103, r6_106, r6_107, r6_109, r6_110, r6_111, i32_10, reduceIte, gm_cmp1, gm_cmp3, gm_cmp4, gm_kd_sf, gm_ln_sf, gm_sf_1, gm_sf_2, gm_nw_1, gm_nw_2, gm_k_int, gm_k_ref, gm_k_null, gm_k_u, gm_k_long, and_true, true_and, true_or, or_true, or_false, false_or, and_self, or_self, if_true, if_false, List.map_nil, List.map_cons, List.sum_nil, List.sum_cons, Nat.zero_le, Option.toList_some, Option.toList_none, List.cons_append, List.nil_append, ne_eq, not_false_eq_true, not_true_eq_false, nI_1, nI_add, Value.category, Nat.reduceAdd, Nat.reduceMod, Nat.reduceLeDiff, Nat.reduceLT, Nat.reduceEqDiff, Nat.reducePow, Nat.le_refl, Nat.add_left_cancel_iff, Nat.add_eq_left, Nat.left_eq_add, Nat.add_zero, g_k0, g_k1, g_l1, g_p4, g_a1, g_w1, g_k2, g_l2, g_p10, g_a2, g_w2, g_k3, g_l3, g_p11, g_a3, g_w3, g_k4, g_l4, g_p12, g_a4, g_w4, g_k5, g_l5, g_p13, g_a5, g_w5, g_k6, g_l6, g_p14, g_a6, g_w6, g_k7, g_l7, g_p15, g_a7, g_w7, g_k8, g_l8, g_p16, g_a8, g_w8, g_k9, g_l9, g_p17, g_a9, g_w9, g_k10, g_l10, g_p18, g_a10, g_w10, g_k11, g_l11, g_p19, g_a11, g_w11, g_k12, g_l12, g_p20, g_a12, g_w12, g_k13, g_l13, g_p21, g_a13, g_w13, g_k14, g_l14, g_p22, g_a14, g_w14, g_k15, g_l15, g_p24, g_a15, g_w15, g_k16, g_l16, g_p26, g_a16, g_w16, g_k17, g_l17, g_p27, g_a17, g_w17, g_k18, g_l18, g_p29, g_a18, g_w18, g_k19, g_l19, g_p30, g_a19, g_w19, g_k20, g_l20, g_p31, g_a20, g_w20, g_k21, g_l21, g_p32, g_a21, g_w21, g_k22, g_l22, g_p33, g_a22, g_w22, g_k23, g_l23, g_p34, g_a23, g_w23, g_k24, g_l24, g_p35, g_a24, g_w24, g_k25, g_l25, g_p36, g_a25, g_w25, g_k26, g_l26, g_p37, g_a26, g_w26, g_k27, g_l27, g_p38, g_a27, g_w27, g_k28, g_l28, g_p40, g_a28, g_w28, g_k29, g_l29, g_p41, g_a29, g_w29, g_k30, g_l30, g_p42, g_a30, g_w30, g_k31, g_l31, g_p43, g_a31, g_w31, g_k32, g_l32, g_p44, g_a32, g_w32, g_k33, g_l33, g_p45, g_a33, g_w33, g_k34, g_l34, g_p46, g_a34, g_w34, g_f0, g_s0, g_f1, g_s1, g_f2, g_s2, g_f3, g_s3, g_f5, g_s5, g_f6, g_s6, g_f7, g_s7, g_f8, g_s8, g_f9, g_s9, g_f23, g_s23, g_f25, g_s25, g_f28, g_s28, g_f39, g_s39, g_f47, g_s47, gr_ui_eq, gr_ui_2, gr_ul_eq, gr_ul_1, gr_ui_no, gr_ui_ni, gr_ul_no, gr_ul_ni, hi6, hk, hu]
            exact fin (by unfold gs_defok; simp [p1, h2, p3, h4', p5, p6, nI_clamp hi, hC, hu])
          · have hq31 : q < 2 ^ 31 := by omega
            have hu : ¬ nI q < 0 := nI_pos hq31
            obtain ⟨C, hC2⟩ := Option.isSome_iff_exists.mp hqs
            have kq := (Cl.kind hq6).2 C hC2
            have okx : gs_defok K (nI i) k (nI q) = gs_ext k (gs_kind C) := by unfold gs_defok; simp [p1, h2, p3, h4', p5, p6, nI_clamp hi, hC, hu, nI_clamp hq31, hC2]
            by_cases e1 : 2 < k
            · simp only [r6_0, r6_0n, r6_1, r6_2, r6_7, r6_10, r6_10n, r6_11, r6_12, r6_16, r6_19, r6_20, r6_21, r6_24, r6_25, r6_28, r6_29, r6_30, r6_33, r6_33n, r6_34, r6_38, r6_41, r6_42, r6_43, r6_43n, r6_44, r6_47, r6_48, r6_49, r6_53, r6_54, r6_55, r6_58, r6_59, r6_60, r6_63, r6_63n, r6_64, r6_67, r6_68, r6_69, r6_70, r6_73, r6_74, r6_77, r6_77n, r6_78, r6_81, r6_82, r6_83, r6_87, r6_89, r6_92, r6_93, r6_94, r6_95, r6_95n, r6_96, r6_99, r6_100, r6_101, r6_102, r6_102n, r6_103, r6_106, r6_107, r6_109, r6_110, r6_111, i32_10, reduceIte, gm_cmp1, gm_cmp3, gm_cmp4, gm_kd_sf, gm_ln_sf, gm_sf_1, gm_sf_2, gm_nw_1, gm_nw_2, gm_k_int, gm_k_ref, gm_k_null, gm_k_u, gm_k_long, and_true, true_and, true_or, or_true, or_false, false_or, and_self, or_self, if_true, if_false, List.map_nil, List.map_cons, List.sum_nil, List.sum_cons, Nat.zero_le, Option.toList_some, Option.toList_none, List.cons_append, List.nil_append, ne_eq, not_false_eq_true, not_true_eq_false, nI_1, nI_add, Value.category, Nat.reduceAdd, Nat.reduceMod, Nat.reduceLeDiff, Nat.reduceLT, Nat.reduceEqDiff, Nat.reducePow, Nat.le_refl, Nat.add_left_cancel_iff, Nat.add_eq_left, Nat.left_eq_add, Nat.add_zero, g_k0, g_k1, g_l1, g_p4, g_a1, g_w1, g_k2, g_l2, g_p10, g_a2, g_w2, g_k3, g_l3, g_p11, g_a3, g_w3, g_k4, g_l4, g_p12, g_a4, g_w4, g_k5, g_l5, g_p13, g_a5, g_w5, g_k6, g_l6, g_p14, g_a6, g_w6, g_k7, g_l7, g_p15, g_a7, g_w7, g_k8, g_l8, g_p16, g_a8, g_w8, g_k9, g_l9, g_p17, g_a9, g_w9, g_k10, g_l10, g_p18, g_a10, g_w10, g_k11, g_l11, g_p19, g_a11, g_w11, g_k12, g_l12, g_p20, g_a12, g_w12, g_k13, g_l13, g_p21, g_a13, g_w13, g_k14, g_l14, g_p22, g_a14, g_w14, g_k15, g_l15, g_p24, g_a15, g_w15, g_k16, g_l16, g_p26, g_a16, g_w16, g_k17, g_l17, g_p27, g_a17, g_w17, g_k18, g_l18, g_p29, g_a18, g_w18, g_k19, g_l19, g_p30, g_a19, g_w19, g_k20, g_l20, g_p31, g_a20, g_w20, g_k21, g_l21, g_p32, g_a21, g_w21, g_k22, g_l22, g_p33, g_a22, g_w22, g_k23, g_l23, g_p34, g_a23, g_w23, g_k24, g_l24, g_p35, g_a24, g_w24, g_k25, g_l25, g_p36, g_a25, g_w25, g_k26, g_l26, g_p37, g_a26, g_w26, g_k27, g_l27, g_p38, g_a27, g_w27, g_k28, g_l28, g_p40, g_a28, g_w28, g_k29, g_l29, g_p41, g_a29, g_w29, g_k30, g_l30, g_p42, g_a30, g_w30, g_k31, g_l31, g_p43, g_a31, g_w31, g_k32, g_l32, g_p44, g_a32, g_w32, g_k33, g_l33, g_p45, g_a33, g_w33, g_k34, g_l34, g_p46, g_a34, g_w34, g_f0, g_s0, g_f1, g_s1, g_f2, g_s2, g_f3, g_s3, g_f5, g_s5, g_f6, g_s6, g_f7, g_s7, g_f8, g_s8, g_f9, g_s9, g_f23, g_s23, g_f25, g_s25, g_f28, g_s28, g_f39, g_s39, g_f47, g_s47, gr_ui_eq, gr_ui_2, gr_ul_eq, gr_ul_1, gr_ui_no, gr_ui_ni, gr_ul_no, gr_ul_ni, hi6, hk, hu, e1]
              exact n86 (by rw [okx]; unfold gs_ext; simp [Int32.not_le.mpr e1])
            have e1' : k ≤ 2 := Int32.not_lt.mp e1
            by_cases e2 : 2 < gs_kind C
            · simp only [r6_0, r6_0n, r6_1, r6_2, r6_7, r6_10, r6_10n, r6_11, r6_12, r6_16, r6_19, r6_20, r6_21, r6_24, r6_25, r6_28, r6_29, r6_30, r6_33, r6_33n, r6_34, r6_38, r6_41, r6_42, r6_43, r6_43n, r6_44, r6_47, r6_48, r6_49, r6_53, r6_54, r6_55, r6_58, r6_59, r6_60, r6_63, r6_63n, r6_64, r6_67, r6_68, r6_69, r6_70, r6_73, r6_74, r6_77, r6_77n, r6_78, r6_81, r6_82, r6_83, r6_87, r6_89, r6_92, r6_93, r6_94, r6_95, r6_95n, r6_96, r6_99, r6_100, r6_101, r6_102, r6_102n, r6_103, r6_106, r6_107, r6_109, r6_110, r6_111, i32_10, reduceIte, gm_cmp1, gm_cmp3, gm_cmp4, gm_kd_sf, gm_ln_sf, gm_sf_1, gm_sf_2, gm_nw_1, gm_nw_2, gm_k_int, gm_k_ref, gm_k_null, gm_k_u, gm_k_long, and_true, true_and, true_or, or_true, or_false, false_or, and_self, or_self, if_true, if_false, List.map_nil, List.map_cons, List.sum_nil, List.sum_cons, Nat.zero_le, Option.toList_some, Option.toList_none, List.cons_append, List.nil_append, ne_eq, not_false_eq_true, not_true_eq_false, nI_1, nI_add, Value.category, Nat.reduceAdd, Nat.reduceMod, Nat.reduceLeDiff, Nat.reduceLT, Nat.reduceEqDiff, Nat.reducePow, Nat.le_refl, Nat.add_left_cancel_iff, Nat.add_eq_left, Nat.left_eq_add, Nat.add_zero, g_k0, g_k1, g_l1, g_p4, g_a1, g_w1, g_k2, g_l2, g_p10, g_a2, g_w2, g_k3, g_l3, g_p11, g_a3, g_w3, g_k4, g_l4, g_p12, g_a4, g_w4, g_k5, g_l5, g_p13, g_a5, g_w5, g_k6, g_l6, g_p14, g_a6, g_w6, g_k7, g_l7, g_p15, g_a7, g_w7, g_k8, g_l8, g_p16, g_a8, g_w8, g_k9, g_l9, g_p17, g_a9, g_w9, g_k10, g_l10, g_p18, g_a10, g_w10, g_k11, g_l11, g_p19, g_a11, g_w11, g_k12, g_l12, g_p20, g_a12, g_w12, g_k13, g_l13, g_p21, g_a13, g_w13, g_k14, g_l14, g_p22, g_a14, g_w14, g_k15, g_l15, g_p24, g_a15, g_w15, g_k16, g_l16, g_p26, g_a16, g_w16, g_k17, g_l17, g_p27, g_a17, g_w17, g_k18, g_l18, g_p29, g_a18, g_w18, g_k19, g_l19, g_p30, g_a19, g_w19, g_k20, g_l20, g_p31, g_a20, g_w20, g_k21, g_l21, g_p32, g_a21, g_w21, g_k22, g_l22, g_p33, g_a22, g_w22, g_k23, g_l23, g_p34, g_a23, g_w23, g_k24, g_l24, g_p35, g_a24, g_w24, g_k25, g_l25, g_p36, g_a25, g_w25, g_k26, g_l26, g_p37, g_a26, g_w26, g_k27, g_l27, g_p38, g_a27, g_w27, g_k28, g_l28, g_p40, g_a28, g_w28, g_k29, g_l29, g_p41, g_a29, g_w29, g_k30, g_l30, g_p42, g_a30, g_w30, g_k31, g_l31, g_p43, g_a31, g_w31, g_k32, g_l32, g_p44, g_a32, g_w32, g_k33, g_l33, g_p45, g_a33, g_w33, g_k34, g_l34, g_p46, g_a34, g_w34, g_f0, g_s0, g_f1, g_s1, g_f2, g_s2, g_f3, g_s3, g_f5, g_s5, g_f6, g_s6, g_f7, g_s7, g_f8, g_s8, g_f9, g_s9, g_f23, g_s23, g_f25, g_s25, g_f28, g_s28, g_f39, g_s39, g_f47, g_s47, gr_ui_eq, gr_ui_2, gr_ul_eq, gr_ul_1, gr_ui_no, gr_ui_ni, gr_ul_no, gr_ul_ni, hi6, hk, hu, e1, hq6, kq, e2]
              exact n86 (by rw [okx]; unfold gs_ext; simp [e2])
            by_cases e3 : k = 0
            · by_cases e4 : gs_kind C = 0
              · have f := fin (by rw [okx]; unfold gs_ext; simp [e2, e3, e4])
                simp only [r6_0, r6_0n, r6_1, r6_2, r6_7, r6_10, r6_10n, r6_11, r6_12, r6_16, r6_19, r6_20, r6_21, r6_24, r6_25, r6_28, r6_29, r6_30, r6_33, r6_33n, r6_34, r6_38, r6_41, r6_42, r6_43, r6_43n, r6_44, r6_47, r6_48, r6_49, r6_53, r6_54, r6_55, r6_58, r6_59, r6_60, r6_63, r6_63n, r6_64, r6_67, r6_68, r6_69, r6_70, r6_73, r6_74, r6_77, r6_77n, r6_78, r6_81, r6_82, r6_83, r6_87, r6_89, r6_92, r6_93, r6_94, r6_95, r6_95n, r6_96, r6_99, r6_100, r6_101, r6_102, r6_102n, r6_103, r6_106, r6_107, r6_109, r6_110, r6_111, i32_10, reduceIte, gm_cmp1, gm_cmp3, gm_cmp4, gm_kd_sf, gm_ln_sf, gm_sf_1, gm_sf_2, gm_nw_1, gm_nw_2, gm_k_int, gm_k_ref, gm_k_null, gm_k_u, gm_k_long, and_true, true_and, true_or, or_true, or_false, false_or, and_self, or_self, if_true, if_false, List.map_nil, List.map_cons, List.sum_nil, List.sum_cons, Nat.zero_le, Option.toList_some, Option.toList_none, List.cons_append, List.nil_append, ne_eq, not_false_eq_true, not_true_eq_false, nI_1, nI_add, Value.category, Nat.reduceAdd, Nat.reduceMod, Nat.reduceLeDiff, Nat.reduceLT, Nat.reduceEqDiff, Nat.reducePow, Nat.le_refl, Nat.add_left_cancel_iff, Nat.add_eq_left, Nat.left_eq_add, Nat.add_zero, g_k0, g_k1, g_l1, g_p4, g_a1, g_w1, g_k2, g_l2, g_p10, g_a2, g_w2, g_k3, g_l3, g_p11, g_a3, g_w3, g_k4, g_l4, g_p12, g_a4, g_w4, g_k5, g_l5, g_p13, g_a5, g_w5, g_k6, g_l6, g_p14, g_a6, g_w6, g_k7, g_l7, g_p15, g_a7, g_w7, g_k8, g_l8, g_p16, g_a8, g_w8, g_k9, g_l9, g_p17, g_a9, g_w9, g_k10, g_l10, g_p18, g_a10, g_w10, g_k11, g_l11, g_p19, g_a11, g_w11, g_k12, g_l12, g_p20, g_a12, g_w12, g_k13, g_l13, g_p21, g_a13, g_w13, g_k14, g_l14, g_p22, g_a14, g_w14, g_k15, g_l15, g_p24, g_a15, g_w15, g_k16, g_l16, g_p26, g_a16, g_w16, g_k17, g_l17, g_p27, g_a17, g_w17, g_k18, g_l18, g_p29, g_a18, g_w18, g_k19, g_l19, g_p30, g_a19, g_w19, g_k20, g_l20, g_p31, g_a20, g_w20, g_k21, g_l21, g_p32, g_a21, g_w21, g_k22, g_l22, g_p33, g_a22, g_w22, g_k23, g_l23, g_p34, g_a23, g_w23, g_k24, g_l24, g_p35, g_a24, g_w24, g_k25, g_l25, g_p36, g_a25, g_w25, g_k26, g_l26, g_p37, g_a26, g_w26, g_k27, g_l27, g_p38, g_a27, g_w27, g_k28, g_l28, g_p40, g_a28, g_w28, g_k29, g_l29, g_p41, g_a29, g_w29, g_k30, g_l30, g_p42, g_a30, g_w30, g_k31, g_l31, g_p43, g_a31, g_w31, g_k32, g_l32, g_p44, g_a32, g_w32, g_k33, g_l33, g_p45, g_a33, g_w33, g_k34, g_l34, g_p46, g_a34, g_w34, g_f0, g_s0, g_f1, g_s1, g_f2, g_s2, g_f3, g_s3, g_f5, g_s5, g_f6, g_s6, g_f7, g_s7, g_f8, g_s8, g_f9, g_s9, g_f23, g_s23, g_f25, g_s25, g_f28, g_s28, g_f39, g_s39, g_f47, g_s47, gr_ui_eq, gr_ui_2, gr_ul_eq, gr_ul_1, gr_ui_no, gr_ui_ni, gr_ul_no, gr_ul_ni, hi6, hk, hu, e1, hq6, kq, e2, e3, e4] at f ⊢
                exact f
              · have f := n86 (by rw [okx]; unfold gs_ext; simp [e2, e3, e4])
                simp only [r6_0, r6_0n, r6_1, r6_2, r6_7, r6_10, r6_10n, r6_11, r6_12, r6_16, r6_19, r6_20, r6_21, r6_24, r6_25, r6_28, r6_29, r6_30, r6_33, r6_33n, r6_34, r6_38, r6_41, r6_42, r6_43, r6_43n, r6_44, r6_47, r6_48, r6_49, r6_53, r6_54, r6_55, r6_58, r6_59, r6_60, r6_63, r6_63n, r6_64, r6_67, r6_68, r6_69, r6_70, r6_73, r6_74, r6_77, r6_77n, r6_78, r6_81, r6_82, r6_83, r6_87, r6_89, r6_92, r6_93, r6_94, r6_95, r6_95n, r6_96, r6_99, r6_100, r6_101, r6_102, r6_102n, r6_103, r6_106, r6_107, r6_109, r6_110, r6_111, i32_10, reduceIte, gm_cmp1, gm_cmp3, gm_cmp4, gm_kd_sf, gm_ln_sf, gm_sf_1, gm_sf_2, gm_nw_1, gm_nw_2, gm_k_int, gm_k_ref, gm_k_null, gm_k_u, gm_k_long, and_true, true_and, true_or, or_true, or_false, false_or, and_self, or_self, if_true, if_false, List.map_nil, List.map_cons, List.sum_nil, List.sum_cons, Nat.zero_le, Option.toList_some, Option.toList_none, List.cons_append, List.nil_append, ne_eq, not_false_eq_true, not_true_eq_false, nI_1, nI_add, Value.category, Nat.reduceAdd, Nat.reduceMod, Nat.reduceLeDiff, Nat.reduceLT, Nat.reduceEqDiff, Nat.reducePow, Nat.le_refl, Nat.add_left_cancel_iff, Nat.add_eq_left, Nat.left_eq_add, Nat.add_zero, g_k0, g_k1, g_l1, g_p4, g_a1, g_w1, g_k2, g_l2, g_p10, g_a2, g_w2, g_k3, g_l3, g_p11, g_a3, g_w3, g_k4, g_l4, g_p12, g_a4, g_w4, g_k5, g_l5, g_p13, g_a5, g_w5, g_k6, g_l6, g_p14, g_a6, g_w6, g_k7, g_l7, g_p15, g_a7, g_w7, g_k8, g_l8, g_p16, g_a8, g_w8, g_k9, g_l9, g_p17, g_a9, g_w9, g_k10, g_l10, g_p18, g_a10, g_w10, g_k11, g_l11, g_p19, g_a11, g_w11, g_k12, g_l12, g_p20, g_a12, g_w12, g_k13, g_l13, g_p21, g_a13, g_w13, g_k14, g_l14, g_p22, g_a14, g_w14, g_k15, g_l15, g_p24, g_a15, g_w15, g_k16, g_l16, g_p26, g_a16, g_w16, g_k17, g_l17, g_p27, g_a17, g_w17, g_k18, g_l18, g_p29, g_a18, g_w18, g_k19, g_l19, g_p30, g_a19, g_w19, g_k20, g_l20, g_p31, g_a20, g_w20, g_k21, g_l21, g_p32, g_a21, g_w21, g_k22, g_l22, g_p33, g_a22, g_w22, g_k23, g_l23, g_p34, g_a23, g_w23, g_k24, g_l24, g_p35, g_a24, g_w24, g_k25, g_l25, g_p36, g_a25, g_w25, g_k26, g_l26, g_p37, g_a26, g_w26, g_k27, g_l27, g_p38, g_a27, g_w27, g_k28, g_l28, g_p40, g_a28, g_w28, g_k29, g_l29, g_p41, g_a29, g_w29, g_k30, g_l30, g_p42, g_a30, g_w30, g_k31, g_l31, g_p43, g_a31, g_w31, g_k32, g_l32, g_p44, g_a32, g_w32, g_k33, g_l33, g_p45, g_a33, g_w33, g_k34, g_l34, g_p46, g_a34, g_w34, g_f0, g_s0, g_f1, g_s1, g_f2, g_s2, g_f3, g_s3, g_f5, g_s5, g_f6, g_s6, g_f7, g_s7, g_f8, g_s8, g_f9, g_s9, g_f23, g_s23, g_f25, g_s25, g_f28, g_s28, g_f39, g_s39, g_f47, g_s47, gr_ui_eq, gr_ui_2, gr_ul_eq, gr_ul_1, gr_ui_no, gr_ui_ni, gr_ul_no, gr_ul_ni, hi6, hk, hu, e1, hq6, kq, e2, e3, e4] at f ⊢
                exact f
            · simp only [r6_0, r6_0n, r6_1, r6_2, r6_7, r6_10, r6_10n, r6_11, r6_12, r6_16, r6_19, r6_20, r6_21, r6_24, r6_25, r6_28, r6_29, r6_30, r6_33, r6_33n, r6_34, r6_38, r6_41, r6_42, r6_43, r6_43n, r6_44, r6_47, r6_48, r6_49, r6_53, r6_54, r6_55, r6_58, r6_59, r6_60, r6_63, r6_63n, r6_64, r6_67, r6_68, r6_69, r6_70, r6_73, r6_74, r6_77, r6_77n, r6_78, r6_81, r6_82, r6_83, r6_87, r6_89, r6_92, r6_93, r6_94, r6_95, r6_95n, r6_96, r6_99, r6_100, r6_101, r6_102, r6_102n, r6_103, r6_106, r6_107, r6_109, r6_110, r6_111, i32_10, reduceIte, gm_cmp1, gm_cmp3, gm_cmp4, gm_kd_sf, gm_ln_sf, gm_sf_1, gm_sf_2, gm_nw_1, gm_nw_2, gm_k_int, gm_k_ref, gm_k_null, gm_k_u, gm_k_long, and_true, true_and, true_or, or_true, or_false, false_or, and_self, or_self, if_true, if_false, List.map_nil, List.map_cons, List.sum_nil, List.sum_cons, Nat.zero_le, Option.toList_some, Option.toList_none, List.cons_append, List.nil_append, ne_eq, not_false_eq_true, not_true_eq_false, nI_1, nI_add, Value.category, Nat.reduceAdd, Nat.reduceMod, Nat.reduceLeDiff, Nat.reduceLT, Nat.reduceEqDiff, Nat.reducePow, Nat.le_refl, Nat.add_left_cancel_iff, Nat.add_eq_left, Nat.left_eq_add, Nat.add_zero, g_k0, g_k1, g_l1, g_p4, g_a1, g_w1, g_k2, g_l2, g_p10, g_a2, g_w2, g_k3, g_l3, g_p11, g_a3, g_w3, g_k4, g_l4, g_p12, g_a4, g_w4, g_k5, g_l5, g_p13, g_a5, g_w5, g_k6, g_l6, g_p14, g_a6, g_w6, g_k7, g_l7, g_p15, g_a7, g_w7, g_k8, g_l8, g_p16, g_a8, g_w8, g_k9, g_l9, g_p17, g_a9, g_w9, g_k10, g_l10, g_p18, g_a10, g_w10, g_k11, g_l11, g_p19, g_a11, g_w11, g_k12, g_l12, g_p20, g_a12, g_w12, g_k13, g_l13, g_p21, g_a13, g_w13, g_k14, g_l14, g_p22, g_a14, g_w14, g_k15, g_l15, g_p24, g_a15, g_w15, g_k16, g_l16, g_p26, g_a16, g_w16, g_k17, g_l17, g_p27, g_a17, g_w17, g_k18, g_l18, g_p29, g_a18, g_w18, g_k19, g_l19, g_p30, g_a19, g_w19, g_k20, g_l20, g_p31, g_a20, g_w20, g_k21, g_l21, g_p32, g_a21, g_w21, g_k22, g_l22, g_p33, g_a22, g_w22, g_k23, g_l23, g_p34, g_a23, g_w23, g_k24, g_l24, g_p35, g_a24, g_w24, g_k25, g_l25, g_p36, g_a25, g_w25, g_k26, g_l26, g_p37, g_a26, g_w26, g_k27, g_l27, g_p38, g_a27, g_w27, g_k28, g_l28, g_p40, g_a28, g_w28, g_k29, g_l29, g_p41, g_a29, g_w29, g_k30, g_l30, g_p42, g_a30, g_w30, g_k31, g_l31, g_p43, g_a31, g_w31, g_k32, g_l32, g_p44, g_a32, g_w32, g_k33, g_l33, g_p45, g_a33, g_w33, g_k34, g_l34, g_p46, g_a34, g_w34, g_f0, g_s0, g_f1, g_s1, g_f2, g_s2, g_f3, g_s3, g_f5, g_s5, g_f6, g_s6, g_f7, g_s7, g_f8, g_s8, g_f9, g_s9, g_f23, g_s23, g_f25, g_s25, g_f28, g_s28, g_f39, g_s39, g_f47, g_s47, gr_ui_eq, gr_ui_2, gr_ul_eq, gr_ul_1, gr_ui_no, gr_ui_ni, gr_ul_no, gr_ul_ni, hi6, hk, hu, e1, hq6, kq, e2, e3]
              exact fin (by rw [okx]; unfold gs_ext; simp [e2, e3, e1'])
        · have hC : ¬ gs_cls K i = none := fun z => hk (ki.1.mpr z)
          simp only [r6_0, r6_0n, r6_1, r6_2, r6_7, r6_10, r6_10n, r6_11, r6_12, r6_16, r6_19, r6_20, r6_21, r6_24, r6_25, r6_28, r6_29, r6_30, r6_33, r6_33n, r6_34, r6_38, r6_41, r6_42, r6_43, r6_43n, r6_44, r6_47, r6_48, r6_49, r6_53, r6_54, r6_55, r6_58, r6_59, r6_60, r6_63, r6_63n, r6_64, r6_67, r6_68, r6_69, r6_70, r6_73, r6_74, r6_77, r6_77n, r6_78, r6_81, r6_82, r6_83, r6_87, r6_89, r6_92, r6_93, r6_94, r6_95, r6_95n, r6_96, r6_99, r6_100, r6_101, r6_102, r6_102n, r6_103, r6_106, r6_107, r6_109, r6_110, r6_111, i32_10, reduceIte, gm_cmp1, gm_cmp3, gm_cmp4, gm_kd_sf, gm_ln_sf, gm_sf_1, gm_sf_2, gm_nw_1, gm_nw_2, gm_k_int, gm_k_ref, gm_k_null, gm_k_u, gm_k_long, and_true, true_and, true_or, or_true, or_false, false_or, and_self, or_self, if_true, if_false, List.map_nil, List.map_cons, List.sum_nil, List.sum_cons, Nat.zero_le, Option.toList_some, Option.toList_none, List.cons_append, List.nil_append, ne_eq, not_false_eq_true, not_true_eq_false, nI_1, nI_add, Value.category, Nat.reduceAdd, Nat.reduceMod, Nat.reduceLeDiff, Nat.reduceLT, Nat.reduceEqDiff, Nat.reducePow, Nat.le_refl, Nat.add_left_cancel_iff, Nat.add_eq_left, Nat.left_eq_add, Nat.add_zero, g_k0, g_k1, g_l1, g_p4, g_a1, g_w1, g_k2, g_l2, g_p10, g_a2, g_w2, g_k3, g_l3, g_p11, g_a3, g_w3, g_k4, g_l4, g_p12, g_a4, g_w4, g_k5, g_l5, g_p13, g_a5, g_w5, g_k6, g_l6, g_p14, g_a6, g_w6, g_k7, g_l7, g_p15, g_a7, g_w7, g_k8, g_l8, g_p16, g_a8, g_w8, g_k9, g_l9, g_p17, g_a9, g_w9, g_k10, g_l10, g_p18, g_a10, g_w10, g_k11, g_l11, g_p19, g_a11, g_w11, g_k12, g_l12, g_p20, g_a12, g_w12, g_k13, g_l13, g_p21, g_a13, g_w13, g_k14, g_l14, g_p22, g_a14, g_w14, g_k15, g_l15, g_p24, g_a15, g_w15, g_k16, g_l16, g_p26, g_a16, g_w16, g_k17, g_l17, g_p27, g_a17, g_w17, g_k18, g_l18, g_p29, g_a18, g_w18, g_k19, g_l19, g_p30, g_a19, g_w19, g_k20, g_l20, g_p31, g_a20, g_w20, g_k21, g_l21, g_p32, g_a21, g_w21, g_k22, g_l22, g_p33, g_a22, g_w22, g_k23, g_l23, g_p34, g_a23, g_w23, g_k24, g_l24, g_p35, g_a24, g_w24, g_k25, g_l25, g_p36, g_a25, g_w25, g_k26, g_l26, g_p37, g_a26, g_w26, g_k27, g_l27, g_p38, g_a27, g_w27, g_k28, g_l28, g_p40, g_a28, g_w28, g_k29, g_l29, g_p41, g_a29, g_w29, g_k30, g_l30, g_p42, g_a30, g_w30, g_k31, g_l31, g_p43, g_a31, g_w31, g_k32, g_l32, g_p44, g_a32, g_w32, g_k33, g_l33, g_p45, g_a33, g_w33, g_k34, g_l34, g_p46, g_a34, g_w34, g_f0, g_s0, g_f1, g_s1, g_f2, g_s2, g_f3, g_s3, g_f5, g_s5, g_f6, g_s6, g_f7, g_s7, g_f8, g_s8, g_f9, g_s9, g_f23, g_s23, g_f25, g_s25, g_f28, g_s28, g_f39, g_s39, g_f47, g_s47, gr_ui_eq, gr_ui_2, gr_ul_eq, gr_ul_1, gr_ui_no, gr_ui_ni, gr_ul_no, gr_ul_ni, hi6, hk]
          exact n52 (by
            unfold gs_defok
            cases e : gs_cls K i with
            | none => exact absurd e hC
            | some C => simp [nI_clamp hi, e])
      by_cases hu : u < 0
      · simp only [r6_0, r6_0n, r6_1, r6_2, r6_7, r6_10, r6_10n, r6_11, r6_12, r6_16, r6_19, r6_20, r6_21, r6_24, r6_25, r6_28, r6_29, r6_30, r6_33, r6_33n, r6_34, r6_38, r6_42, r6_44, r6_47, r6_48, r6_49, r6_52, r6_53, r6_54, r6_55, r6_58, r6_59, r6_60, r6_63, r6_63n, r6_64, r6_67, r6_68, r6_69, r6_70, r6_73, r6_74, r6_77, r6_77n, r6_78, r6_81, r6_82, r6_83, r6_86, r6_87, r6_88, r6_88n, r6_89, r6_92, r6_93, r6_94, r6_95, r6_95n, r6_96, r6_99, r6_100, r6_101, r6_102, r6_102n, r6_103, r6_106, r6_107, r6_109, r6_110, r6_111, i32_10, reduceIte, gm_cmp1, gm_cmp3, gm_cmp4, gm_kd_sf, gm_ln_sf, gm_sf_1, gm_sf_2, gm_nw_1, gm_nw_2, gm_k_int, gm_k_ref, gm_k_null, gm_k_u, gm_k_long, and_true, true_and, true_or, or_true, or_false, false_or, and_self, or_self, if_true, if_false, List.map_nil, List.map_cons, List.sum_nil, List.sum_cons, Nat.zero_le, Option.toList_some, Option.toList_none, List.cons_append, List.nil_append, ne_eq, not_false_eq_true, not_true_eq_false, nI_1, nI_add, Value.category, Nat.reduceAdd, Nat.reduceMod, Nat.reduceLeDiff, Nat.reduceLT, Nat.reduceEqDiff, Nat.reducePow, Nat.le_refl, Nat.add_left_cancel_iff, Nat.add_eq_left, Nat.left_eq_add, Nat.add_zero, h5, hu]
        refine from43 ?_ (Or.inl hu)
        exact Int32.lt_of_lt_of_le hu p1
      obtain ⟨q, hq, rfl⟩ := nI_of hu
      by_cases h7 : nI i ≤ nI q
      · simp only [r6_0, r6_0n, r6_1, r6_2, r6_7, r6_10, r6_10n, r6_11, r6_12, r6_16, r6_19, r6_20, r6_21, r6_24, r6_25, r6_28, r6_29, r6_30, r6_33, r6_33n, r6_34, r6_38, r6_42, r6_44, r6_47, r6_48, r6_49, r6_52, r6_53, r6_54, r6_55, r6_58, r6_59, r6_60, r6_63, r6_63n, r6_64, r6_67, r6_68, r6_69, r6_70, r6_73, r6_74, r6_77, r6_77n, r6_78, r6_81, r6_82, r6_83, r6_86, r6_87, r6_88, r6_88n, r6_89, r6_92, r6_93, r6_94, r6_95, r6_95n, r6_96, r6_99, r6_100, r6_101, r6_102, r6_102n, r6_103, r6_106, r6_107, r6_109, r6_110, r6_111, i32_10, reduceIte, gm_cmp1, gm_cmp3, gm_cmp4, gm_kd_sf, gm_ln_sf, gm_sf_1, gm_sf_2, gm_nw_1, gm_nw_2, gm_k_int, gm_k_ref, gm_k_null, gm_k_u, gm_k_long, and_true, true_and, true_or, or_true, or_false, false_or, and_self, or_self, if_true, if_false, List.map_nil, List.map_cons, List.sum_nil, List.sum_cons, Nat.zero_le, Option.toList_some, Option.toList_none, List.cons_append, List.nil_append, ne_eq, not_false_eq_true, not_true_eq_false, nI_1, nI_add, Value.category, Nat.reduceAdd, Nat.reduceMod, Nat.reduceLeDiff, Nat.reduceLT, Nat.reduceEqDiff, Nat.reducePow, Nat.le_refl, Nat.add_left_cancel_iff, Nat.add_eq_left, Nat.left_eq_add, Nat.add_zero, h5, hu, h7]
        exact n41 (by unfold gs_defok; simp [Int32.not_lt.mpr h7])
      have p6 : nI q < nI i := Int32.not_le.mp h7
      have hqi : q < i := (nI_ltI hq hi).mp p6
      simp only [r6_0, r6_0n, r6_1, r6_2, r6_7, r6_10, r6_10n, r6_11, r6_12, r6_16, r6_19, r6_20, r6_21, r6_24, r6_25, r6_28, r6_29, r6_30, r6_33, r6_33n, r6_34, r6_38, r6_42, r6_44, r6_47, r6_48, r6_49, r6_52, r6_53, r6_54, r6_55, r6_58, r6_59, r6_60, r6_63, r6_63n, r6_64, r6_67, r6_68, r6_69, r6_70, r6_73, r6_74, r6_77, r6_77n, r6_78, r6_81, r6_82, r6_83, r6_86, r6_87, r6_88, r6_88n, r6_89, r6_92, r6_93, r6_94, r6_95, r6_95n, r6_96, r6_99, r6_100, r6_101, r6_102, r6_102n, r6_103, r6_106, r6_107, r6_109, r6_110, r6_111, i32_10, reduceIte, gm_cmp1, gm_cmp3, gm_cmp4, gm_kd_sf, gm_ln_sf, gm_sf_1, gm_sf_2, gm_nw_1, gm_nw_2, gm_k_int, gm_k_ref, gm_k_null, gm_k_u, gm_k_long, and_true, true_and, true_or, or_true, or_false, false_or, and_self, or_self, if_true, if_false, List.map_nil, List.map_cons, List.sum_nil, List.sum_cons, Nat.zero_le, Option.toList_some, Option.toList_none, List.cons_append, List.nil_append, ne_eq, not_false_eq_true, not_true_eq_false, nI_1, nI_add, Value.category, Nat.reduceAdd, Nat.reduceMod, Nat.reduceLeDiff, Nat.reduceLT, Nat.reduceEqDiff, Nat.reducePow, Nat.le_refl, Nat.add_left_cancel_iff, Nat.add_eq_left, Nat.left_eq_add, Nat.add_zero, h5, hu, h7]
      refine c6_35 (by simp) g_k0 (by omega) (m_noClass (by omega)) (gx_kn ?_) gx_kx
      have en : gr_noc t (nI q) = (gs_cls K q).isNone := by
        rw [gr_noc_eq Cl h6]
        unfold gs_cn
        rw [if_neg hu, nI_clamp hq]
        cases gs_cls K q <;> rfl
      cases e : gs_cls K q with
      | none =>
        rw [e] at en
        have en : gr_noc t (nI q) = true := en
        simp only [r6_0, r6_0n, r6_1, r6_2, r6_7, r6_10, r6_10n, r6_11, r6_12, r6_16, r6_19, r6_20, r6_21, r6_24, r6_25, r6_28, r6_29, r6_30, r6_33, r6_33n, r6_34, r6_38, r6_42, r6_44, r6_47, r6_48, r6_49, r6_52, r6_53, r6_54, r6_55, r6_58, r6_59, r6_60, r6_63, r6_63n, r6_64, r6_67, r6_68, r6_69, r6_70, r6_73, r6_74, r6_77, r6_77n, r6_78, r6_81, r6_82, r6_83, r6_86, r6_87, r6_88, r6_88n, r6_89, r6_92, r6_93, r6_94, r6_95, r6_95n, r6_96, r6_99, r6_100, r6_101, r6_102, r6_102n, r6_103, r6_106, r6_107, r6_109, r6_110, r6_111, i32_10, reduceIte, gm_cmp1, gm_cmp3, gm_cmp4, gm_kd_sf, gm_ln_sf, gm_sf_1, gm_sf_2, gm_nw_1, gm_nw_2, gm_k_int, gm_k_ref, gm_k_null, gm_k_u, gm_k_long, and_true, true_and, true_or, or_true, or_false, false_or, and_self, or_self, if_true, if_false, List.map_nil, List.map_cons, List.sum_nil, List.sum_cons, Nat.zero_le, Option.toList_some, Option.toList_none, List.cons_append, List.nil_append, ne_eq, not_false_eq_true, not_true_eq_false, nI_1, nI_add, Value.category, Nat.reduceAdd, Nat.reduceMod, Nat.reduceLeDiff, Nat.reduceLT, Nat.reduceEqDiff, Nat.reducePow, Nat.le_refl, Nat.add_left_cancel_iff, Nat.add_eq_left, Nat.left_eq_add, Nat.add_zero, en]
        exact n41 (by unfold gs_defok; simp [nI_clamp hq, e, hu])
      | some C =>
        rw [e] at en
        have en : gr_noc t (nI q) = false := en
        simp only [r6_0, r6_0n, r6_1, r6_2, r6_7, r6_10, r6_10n, r6_11, r6_12, r6_16, r6_19, r6_20, r6_21, r6_24, r6_25, r6_28, r6_29, r6_30, r6_33, r6_33n, r6_34, r6_38, r6_42, r6_44, r6_47, r6_48, r6_49, r6_52, r6_53, r6_54, r6_55, r6_58, r6_59, r6_60, r6_63, r6_63n, r6_64, r6_67, r6_68, r6_69, r6_70, r6_73, r6_74, r6_77, r6_77n, r6_78, r6_81, r6_82, r6_83, r6_86, r6_87, r6_88, r6_88n, r6_89, r6_92, r6_93, r6_94, r6_95, r6_95n, r6_96, r6_99, r6_100, r6_101, r6_102, r6_102n, r6_103, r6_106, r6_107, r6_109, r6_110, r6_111, i32_10, reduceIte, gm_cmp1, gm_cmp3, gm_cmp4, gm_kd_sf, gm_ln_sf, gm_sf_1, gm_sf_2, gm_nw_1, gm_nw_2, gm_k_int, gm_k_ref, gm_k_null, gm_k_u, gm_k_long, and_true, true_and, true_or, or_true, or_false, false_or, and_self, or_self, if_true, if_false, List.map_nil, List.map_cons, List.sum_nil, List.sum_cons, Nat.zero_le, Option.toList_some, Option.toList_none, List.cons_append, List.nil_append, ne_eq, not_false_eq_true, not_true_eq_false, nI_1, nI_add, Value.category, Nat.reduceAdd, Nat.reduceMod, Nat.reduceLeDiff, Nat.reduceLT, Nat.reduceEqDiff, Nat.reducePow, Nat.le_refl, Nat.add_left_cancel_iff, Nat.add_eq_left, Nat.left_eq_add, Nat.add_zero, en, Bool.false_eq_true]
        exact from43 p6 (Or.inr ⟨q, rfl, by omega, by rw [e]; rfl⟩)
    · have h4' : ¬ k ≤ 4 := fun z => by
        obtain ⟨j, hj, rfl⟩ := nI_of h3
        have := (nI_leI (b := 4) hj (by decide)).mp z
        exact h4 (nI_lt (b := 5) (by omega) (by decide))
      simp only [r6_0, r6_0n, r6_1, r6_2, r6_7, r6_10, r6_10n, r6_11, r6_12, r6_16, r6_19, r6_20, r6_21, r6_24, r6_25, r6_28, r6_29, r6_30, r6_33, r6_33n, r6_34, r6_38, r6_42, r6_44, r6_47, r6_48, r6_49, r6_52, r6_53, r6_54, r6_55, r6_58, r6_59, r6_60, r6_63, r6_63n, r6_64, r6_67, r6_68, r6_69, r6_70, r6_73, r6_74, r6_77, r6_77n, r6_78, r6_81, r6_82, r6_83, r6_86, r6_87, r6_88, r6_88n, r6_89, r6_92, r6_93, r6_94, r6_95, r6_95n, r6_96, r6_99, r6_100, r6_101, r6_102, r6_102n, r6_103, r6_106, r6_107, r6_109, r6_110, r6_111, i32_10, reduceIte, gm_cmp1, gm_cmp3, gm_cmp4, gm_kd_sf, gm_ln_sf, gm_sf_1, gm_sf_2, gm_nw_1, gm_nw_2, gm_k_int, gm_k_ref, gm_k_null, gm_k_u, gm_k_long, and_true, true_and, true_or, or_true, or_false, false_or, and_self, or_self, if_true, if_false, List.map_nil, List.map_cons, List.sum_nil, List.sum_cons, Nat.zero_le, Option.toList_some, Option.toList_none, List.cons_append, List.nil_append, ne_eq, not_false_eq_true, not_true_eq_false, nI_1, nI_add, Value.category, Nat.reduceAdd, Nat.reduceMod, Nat.reduceLeDiff, Nat.reduceLT, Nat.reduceEqDiff, Nat.reducePow, Nat.le_refl, Nat.add_left_cancel_iff, Nat.add_eq_left, Nat.left_eq_add, Nat.add_zero, h3, h4]
      exact n41 (by unfold gs_defok; simp [h4'])
  · simp only [r6_0, r6_0n, r6_1, r6_2, r6_7, r6_10, r6_10n, r6_11, r6_12, r6_16, r6_19, r6_20, r6_21, r6_24, r6_25, r6_28, r6_29, r6_30, r6_33, r6_33n, r6_34, r6_38, r6_42, r6_44, r6_47, r6_48, r6_49, r6_52, r6_53, r6_54, r6_55, r6_58, r6_59, r6_60, r6_63, r6_63n, r6_64, r6_67, r6_68, r6_69, r6_70, r6_73, r6_74, r6_77, r6_77n, r6_78, r6_81, r6_82, r6_83, r6_86, r6_87, r6_88, r6_88n, r6_89, r6_92, r6_93, r6_94, r6_95, r6_95n, r6_96, r6_99, r6_100, r6_101, r6_102, r6_102n, r6_103, r6_106, r6_107, r6_109, r6_110, r6_111, i32_10, reduceIte, gm_cmp1, gm_cmp3, gm_cmp4, gm_kd_sf, gm_ln_sf, gm_sf_1, gm_sf_2, gm_nw_1, gm_nw_2, gm_k_int, gm_k_ref, gm_k_null, gm_k_u, gm_k_long, and_true, true_and, true_or, or_true, or_false, false_or, and_self, or_self, if_true, if_false, List.map_nil, List.map_cons, List.sum_nil, List.sum_cons, Nat.zero_le, Option.toList_some, Option.toList_none, List.cons_append, List.nil_append, ne_eq, not_false_eq_true, not_true_eq_false, nI_1, nI_add, Value.category, Nat.reduceAdd, Nat.reduceMod, Nat.reduceLeDiff, Nat.reduceLT, Nat.reduceEqDiff, Nat.reducePow, Nat.le_refl, Nat.add_left_cancel_iff, Nat.add_eq_left, Nat.left_eq_add, Nat.add_zero, h1, h2]
    exact n41 (by unfold gs_defok; simp [h2])
end M4
/-! THE REFERENCE, 4: constant, field, count. -/
section M5
variable {E : Nat → Value} {d m : Nat} {h : gm_H} {t : gr_t} {K : gs_K} {s : gs_S}
theorem gr_cn_of {n : Int32} {c : Nat} (e : gs_cn K n = some c) : ¬ n < 0 ∧ n = nI c ∧ n.toNatClampNeg = c := by
  unfold gs_cn at e
  by_cases h1 : n < 0
  · rw [if_pos h1] at e; cases e
  · rw [if_neg h1] at e
    obtain ⟨i, hi, rfl⟩ := nI_of h1
    rw [nI_clamp hi] at e ⊢
    split at e
    · cases e; exact ⟨h1, rfl, rfl⟩
    · cases e
/-- constant: what becomes of the reference -/
def gr_cst (t : gr_t) (K : gs_K) (n nm on : Int32) : gr_t := match gs_cn K n with
  | none => t
  | some c => match gs_cls K c with
    | none => t
    | some C => if gs_kind C = 3 then (if nm < 0 ∨ 26 ≤ nm then t else gr_ui t 8 c (t.1 8 c ||| 1 <<< (nm &&& 31))) else gr_ui t 9 c (on &&& 1)
theorem m_constant {n nm on : Int32} (hd : 2 ≤ d) (Cl : gr_C t K) (h6 : ∀ c, 6 ≤ c → gs_cls K c = none) : gm_Ca E d 8 [.ref m, .int n, .int nm, .int on] (gr_H h m t) (gx_v (some (.int (gs_cst K n nm on).1)) (gr_H h m (gr_cst t K n nm on))) := by
  show gm_W E d 8 0 [.ref m, .int n, .int nm, .int on] [] (gr_H h m t) _
  simp only [r8_0, r8_0n, r8_1, r8_5, r8_8, r8_8n, r8_9, r8_12, r8_13, r8_14, r8_15, r8_18, r8_18n, r8_19, r8_20, r8_25, r8_28, r8_29, r8_30, r8_30n, r8_31, r8_34, r8_35, r8_36, r8_37, r8_40, r8_40n, r8_41, r8_44, r8_45, r8_46, r8_47, r8_48, r8_49, r8_50, r8_51, r8_52, r8_55, r8_55n, r8_56, r8_59, r8_60, r8_61, r8_61z, r8_62, r8_63, i32_10, reduceIte, gm_cmp1, gm_cmp3, gm_cmp4, gm_kd_sf, gm_ln_sf, gm_sf_1, gm_sf_2, gm_nw_1, gm_nw_2, gm_k_int, gm_k_ref, gm_k_null, gm_k_u, gm_k_long, and_true, true_and, true_or, or_true, or_false, false_or, and_self, or_self, if_true, if_false, List.map_nil, List.map_cons, List.sum_nil, List.sum_cons, Nat.zero_le, Option.toList_some, Option.toList_none, List.cons_append, List.nil_append, ne_eq, not_false_eq_true, not_true_eq_false, nI_1, nI_add, Value.category, Nat.reduceAdd, Nat.reduceMod, Nat.reduceLeDiff, Nat.reduceLT, Nat.reduceEqDiff, Nat.reducePow, Nat.le_refl, Nat.add_left_cancel_iff, Nat.add_eq_left, Nat.left_eq_add, Nat.add_zero]
  refine c8_2 (by simp) g_k0 (by omega) (m_noClass (by omega)) (gx_kn ?_) gx_kx
  unfold gs_cst gr_cst
  have en := gr_noc_eq (n := n) Cl h6
  cases e : gs_cn K n with
  | none =>
    rw [e] at en
    have en : gr_noc t n = true := en
    simp only [r8_0, r8_0n, r8_1, r8_5, r8_8, r8_8n, r8_9, r8_12, r8_13, r8_14, r8_15, r8_18, r8_18n, r8_19, r8_20, r8_25, r8_28, r8_29, r8_30, r8_30n, r8_31, r8_34, r8_35, r8_36, r8_37, r8_40, r8_40n, r8_41, r8_44, r8_45, r8_46, r8_47, r8_48, r8_49, r8_50, r8_51, r8_52, r8_55, r8_55n, r8_56, r8_59, r8_60, r8_61, r8_61z, r8_62, r8_63, i32_10, reduceIte, gm_cmp1, gm_cmp3, gm_cmp4, gm_kd_sf, gm_ln_sf, gm_sf_1, gm_sf_2, gm_nw_1, gm_nw_2, gm_k_int, gm_k_ref, gm_k_null, gm_k_u, gm_k_long, and_true, true_and, true_or, or_true, or_false, false_or, and_self, or_self, if_true, if_false, List.map_nil, List.map_cons, List.sum_nil, List.sum_cons, Nat.zero_le, Option.toList_some, Option.toList_none, List.cons_append, List.nil_append, ne_eq, not_false_eq_true, not_true_eq_false, nI_1, nI_add, Value.category, Nat.reduceAdd, Nat.reduceMod, Nat.reduceLeDiff, Nat.reduceLT, Nat.reduceEqDiff, Nat.reducePow, Nat.le_refl, Nat.add_left_cancel_iff, Nat.add_eq_left, Nat.left_eq_add, Nat.add_zero, en]
    exact ⟨rfl, rfl⟩
  | some c =>
    rw [e] at en
    have en : gr_noc t n = false := en
    obtain ⟨n0, rfl, -⟩ := gr_cn_of e
    obtain ⟨C, hC⟩ := Option.isSome_iff_exists.mp (gs_cn_some e)
    have hc6 : c < 6 := by
      rcases Nat.lt_or_ge c 6 with z | z
      · exact z
      · rw [h6 c z] at hC; cases hC
    have kc := (Cl.kind hc6).2 C hC
    dsimp only
    rw [hC]
    dsimp only
    by_cases k3 : gs_kind C = 3
    · rw [if_pos k3, if_pos k3]
      simp only [r8_0, r8_0n, r8_1, r8_5, r8_8, r8_8n, r8_9, r8_12, r8_13, r8_14, r8_15, r8_18, r8_18n, r8_19, r8_20, r8_25, r8_28, r8_29, r8_30, r8_30n, r8_31, r8_34, r8_35, r8_36, r8_37, r8_40, r8_40n, r8_41, r8_44, r8_45, r8_46, r8_47, r8_48, r8_49, r8_50, r8_51, r8_52, r8_55, r8_55n, r8_56, r8_59, r8_60, r8_61, r8_61z, r8_62, r8_63, i32_10, reduceIte, gm_cmp1, gm_cmp3, gm_cmp4, gm_kd_sf, gm_ln_sf, gm_sf_1, gm_sf_2, gm_nw_1, gm_nw_2, gm_k_int, gm_k_ref, gm_k_null, gm_k_u, gm_k_long, and_true, true_and, true_or, or_true, or_false, false_or, and_self, or_self, if_true, if_false, List.map_nil, List.map_cons, List.sum_nil, List.sum_cons, Nat.zero_le, Option.toList_some, Option.toList_none, List.cons_append, List.nil_append, ne_eq, not_false_eq_true, not_true_eq_false, nI_1, nI_add, Value.category, Nat.reduceAdd, Nat.reduceMod, Nat.reduceLeDiff, Nat.reduceLT, Nat.reduceEqDiff, Nat.reducePow, Nat.le_refl, Nat.add_left_cancel_iff, Nat.add_eq_left, Nat.left_eq_add, Nat.add_zero, g_k0, g_k1, g_l1, g_p4, g_a1, g_w1, g_k2, g_l2, g_p10, g_a2, g_w2, g_k3, g_l3, g_p11, g_a3, g_w3, g_k4, g_l4, g_p12, g_a4, g_w4, g_k5, g_l5, g_p13, g_a5, g_w5, g_k6, g_l6, g_p14, g_a6, g_w6, g_k7, g_l7, g_p15, g_a7, g_w7, g_k8, g_l8, g_p16, g_a8, g_w8, g_k9, g_l9, g_p17, g_a9, g_w9, g_k10, g_l10, g_p18, g_a10, g_w10, g_k11, g_l11, g_p19, g_a11, g_w11, g_k12, g_l12, g_p20, g_a12, g_w12, g_k13, g_l13, g_p21, g_a13, g_w13, g_k14, g_l14, g_p22, g_a14, g_w14, g_k15, g_l15, g_p24, g_a15, g_w15, g_k16, g_l16, g_p26, g_a16, g_w16, g_k17, g_l17, g_p27, g_a17, g_w17, g_k18, g_l18, g_p29, g_a18, g_w18, g_k19, g_l19, g_p30, g_a19, g_w19, g_k20, g_l20, g_p31, g_a20, g_w20, g_k21, g_l21, g_p32, g_a21, g_w21, g_k22, g_l22, g_p33, g_a22, g_w22, g_k23, g_l23, g_p34, g_a23, g_w23, g_k24, g_l24, g_p35, g_a24, g_w24, g_k25, g_l25, g_p36, g_a25, g_w25, g_k26, g_l26, g_p37, g_a26, g_w26, g_k27, g_l27, g_p38, g_a27, g_w27, g_k28, g_l28, g_p40, g_a28, g_w28, g_k29, g_l29, g_p41, g_a29, g_w29, g_k30, g_l30, g_p42, g_a30, g_w30, g_k31, g_l31, g_p43, g_a31, g_w31, g_k32, g_l32, g_p44, g_a32, g_w32, g_k33, g_l33, g_p45, g_a33, g_w33, g_k34, g_l34, g_p46, g_a34, g_w34, g_f0, g_s0, g_f1, g_s1, g_f2, g_s2, g_f3, g_s3, g_f5, g_s5, g_f6, g_s6, g_f7, g_s7, g_f8, g_s8, g_f9, g_s9, g_f23, g_s23, g_f25, g_s25, g_f28, g_s28, g_f39, g_s39, g_f47, g_s47, gr_ui_eq, gr_ui_2, gr_ul_eq, gr_ul_1, gr_ui_no, gr_ui_ni, gr_ul_no, gr_ul_ni, en, Bool.false_eq_true, hc6, kc, k3]
      refine c8_22 (by simp) g_k0 (by omega) m_out (gx_kn ?_) gx_kx
      by_cases m0 : nm < 0
      · simp only [r8_0, r8_0n, r8_1, r8_5, r8_8, r8_8n, r8_9, r8_12, r8_13, r8_14, r8_15, r8_18, r8_18n, r8_19, r8_20, r8_25, r8_28, r8_29, r8_30, r8_30n, r8_31, r8_34, r8_35, r8_36, r8_37, r8_40, r8_40n, r8_41, r8_44, r8_45, r8_46, r8_47, r8_48, r8_49, r8_50, r8_51, r8_52, r8_55, r8_55n, r8_56, r8_59, r8_60, r8_61, r8_61z, r8_62, r8_63, i32_10, reduceIte, gm_cmp1, gm_cmp3, gm_cmp4, gm_kd_sf, gm_ln_sf, gm_sf_1, gm_sf_2, gm_nw_1, gm_nw_2, gm_k_int, gm_k_ref, gm_k_null, gm_k_u, gm_k_long, and_true, true_and, true_or, or_true, or_false, false_or, and_self, or_self, if_true, if_false, List.map_nil, List.map_cons, List.sum_nil, List.sum_cons, Nat.zero_le, Option.toList_some, Option.toList_none, List.cons_append, List.nil_append, ne_eq, not_false_eq_true, not_true_eq_false, nI_1, nI_add, Value.category, Nat.reduceAdd, Nat.reduceMod, Nat.reduceLeDiff, Nat.reduceLT, Nat.reduceEqDiff, Nat.reducePow, Nat.le_refl, Nat.add_left_cancel_iff, Nat.add_eq_left, Nat.left_eq_add, Nat.add_zero, m0]
        exact ⟨rfl, rfl⟩
      by_cases m1 : nm < 26
      · have m1' : ¬ 26 ≤ nm := Int32.not_le.mpr m1
        simp only [r8_0, r8_0n, r8_1, r8_5, r8_8, r8_8n, r8_9, r8_12, r8_13, r8_14, r8_15, r8_18, r8_18n, r8_19, r8_20, r8_25, r8_28, r8_29, r8_30, r8_30n, r8_31, r8_34, r8_35, r8_36, r8_37, r8_40, r8_40n, r8_41, r8_44, r8_45, r8_46, r8_47, r8_48, r8_49, r8_50, r8_51, r8_52, r8_55, r8_55n, r8_56, r8_59, r8_60, r8_61, r8_61z, r8_62, r8_63, i32_10, reduceIte, gm_cmp1, gm_cmp3, gm_cmp4, gm_kd_sf, gm_ln_sf, gm_sf_1, gm_sf_2, gm_nw_1, gm_nw_2, gm_k_int, gm_k_ref, gm_k_null, gm_k_u, gm_k_long, and_true, true_and, true_or, or_true, or_false, false_or, and_self, or_self, if_true, if_false, List.map_nil, List.map_cons, List.sum_nil, List.sum_cons, Nat.zero_le, Option.toList_some, Option.toList_none, List.cons_append, List.nil_append, ne_eq, not_false_eq_true, not_true_eq_false, nI_1, nI_add, Value.category, Nat.reduceAdd, Nat.reduceMod, Nat.reduceLeDiff, Nat.reduceLT, Nat.reduceEqDiff, Nat.reducePow, Nat.le_refl, Nat.add_left_cancel_iff, Nat.add_eq_left, Nat.left_eq_add, Nat.add_zero, g_k0, g_k1, g_l1, g_p4, g_a1, g_w1, g_k2, g_l2, g_p10, g_a2, g_w2, g_k3, g_l3, g_p11, g_a3, g_w3, g_k4, g_l4, g_p12, g_a4, g_w4, g_k5, g_l5, g_p13, g_a5, g_w5, g_k6, g_l6, g_p14, g_a6, g_w6, g_k7, g_l7, g_p15, g_a7, g_w7, g_k8, g_l8, g_p16, g_a8, g_w8, g_k9, g_l9, g_p17, g_a9, g_w9, g_k10, g_l10, g_p18, g_a10, g_w10, g_k11, g_l11, g_p19, g_a11, g_w11, g_k12, g_l12, g_p20, g_a12, g_w12, g_k13, g_l13, g_p21, g_a13, g_w13, g_k14, g_l14, g_p22, g_a14, g_w14, g_k15, g_l15, g_p24, g_a15, g_w15, g_k16, g_l16, g_p26, g_a16, g_w16, g_k17, g_l17, g_p27, g_a17, g_w17, g_k18, g_l18, g_p29, g_a18, g_w18, g_k19, g_l19, g_p30, g_a19, g_w19, g_k20, g_l20, g_p31, g_a20, g_w20, g_k21, g_l21, g_p32, g_a21, g_w21, g_k22, g_l22, g_p33, g_a22, g_w22, g_k23, g_l23, g_p34, g_a23, g_w23, g_k24, g_l24, g_p35, g_a24, g_w24, g_k25, g_l25, g_p36, g_a25, g_w25, g_k26, g_l26, g_p37, g_a26, g_w26, g_k27, g_l27, g_p38, g_a27, g_w27, g_k28, g_l28, g_p40, g_a28, g_w28, g_k29, g_l29, g_p41, g_a29, g_w29, g_k30, g_l30, g_p42, g_a30, g_w30, g_k31, g_l31, g_p43, g_a31, g_w31, g_k32, g_l32, g_p44, g_a32, g_w32, g_k33, g_l33, g_p45, g_a33, g_w33, g_k34, g_l34, g_p46, g_a34, g_w34, g_f0, g_s0, g_f1, g_s1, g_f2, g_s2, g_f3, g_s3, g_f5, g_s5, g_f6, g_s6, g_f7, g_s7, g_f8, g_s8, g_f9, g_s9, g_f23, g_s23, g_f25, g_s25, g_f28, g_s28, g_f39, g_s39, g_f47, g_s47, gr_ui_eq, gr_ui_2, gr_ul_eq, gr_ul_1, gr_ui_no, gr_ui_ni, gr_ul_no, gr_ul_ni, m0, m1, m1', hc6, kc, k3]
        exact ⟨rfl, rfl⟩
      · have m1' : 26 ≤ nm := Int32.not_lt.mp m1
        simp only [r8_0, r8_0n, r8_1, r8_5, r8_8, r8_8n, r8_9, r8_12, r8_13, r8_14, r8_15, r8_18, r8_18n, r8_19, r8_20, r8_25, r8_28, r8_29, r8_30, r8_30n, r8_31, r8_34, r8_35, r8_36, r8_37, r8_40, r8_40n, r8_41, r8_44, r8_45, r8_46, r8_47, r8_48, r8_49, r8_50, r8_51, r8_52, r8_55, r8_55n, r8_56, r8_59, r8_60, r8_61, r8_61z, r8_62, r8_63, i32_10, reduceIte, gm_cmp1, gm_cmp3, gm_cmp4, gm_kd_sf, gm_ln_sf, gm_sf_1, gm_sf_2, gm_nw_1, gm_nw_2, gm_k_int, gm_k_ref, gm_k_null, gm_k_u, gm_k_long, and_true, true_and, true_or, or_true, or_false, false_or, and_self, or_self, if_true, if_false, List.map_nil, List.map_cons, List.sum_nil, List.sum_cons, Nat.zero_le, Option.toList_some, Option.toList_none, List.cons_append, List.nil_append, ne_eq, not_false_eq_true, not_true_eq_false, nI_1, nI_add, Value.category, Nat.reduceAdd, Nat.reduceMod, Nat.reduceLeDiff, Nat.reduceLT, Nat.reduceEqDiff, Nat.reducePow, Nat.le_refl, Nat.add_left_cancel_iff, Nat.add_eq_left, Nat.left_eq_add, Nat.add_zero, m0, m1, m1']
        exact ⟨rfl, rfl⟩
    · rw [if_neg k3, if_neg k3]
      simp only [r8_0, r8_0n, r8_1, r8_5, r8_8, r8_8n, r8_9, r8_12, r8_13, r8_14, r8_15, r8_18, r8_18n, r8_19, r8_20, r8_25, r8_28, r8_29, r8_30, r8_30n, r8_31, r8_34, r8_35, r8_36, r8_37, r8_40, r8_40n, r8_41, r8_44, r8_45, r8_46, r8_47, r8_48, r8_49, r8_50, r8_51, r8_52, r8_55, r8_55n, r8_56, r8_59, r8_60, r8_61, r8_61z, r8_62, r8_63, i32_10, reduceIte, gm_cmp1, gm_cmp3, gm_cmp4, gm_kd_sf, gm_ln_sf, gm_sf_1, gm_sf_2, gm_nw_1, gm_nw_2, gm_k_int, gm_k_ref, gm_k_null, gm_k_u, gm_k_long, and_true, true_and, true_or, or_true, or_false, false_or, and_self, or_self, if_true, if_false, List.map_nil, List.map_cons, List.sum_nil, List.sum_cons, Nat.zero_le, Option.toList_some, Option.toList_none, List.cons_append, List.nil_append, ne_eq, not_false_eq_true, not_true_eq_false, nI_1, nI_add, Value.category, Nat.reduceAdd, Nat.reduceMod, Nat.reduceLeDiff, Nat.reduceLT, Nat.reduceEqDiff, Nat.reducePow, Nat.le_refl, Nat.add_left_cancel_iff, Nat.add_eq_left, Nat.left_eq_add, Nat.add_zero, g_k0, g_k1, g_l1, g_p4, g_a1, g_w1, g_k2, g_l2, g_p10, g_a2, g_w2, g_k3, g_l3, g_p11, g_a3, g_w3, g_k4, g_l4, g_p12, g_a4, g_w4, g_k5, g_l5, g_p13, g_a5, g_w5, g_k6, g_l6, g_p14, g_a6, g_w6, g_k7, g_l7, g_p15, g_a7, g_w7, g_k8, g_l8, g_p16, g_a8, g_w8, g_k9, g_l9, g_p17, g_a9, g_w9, g_k10, g_l10, g_p18, g_a10, g_w10, g_k11, g_l11, g_p19, g_a11, g_w11, g_k12, g_l12, g_p20, g_a12, g_w12, g_k13, g_l13, g_p21, g_a13, g_w13, g_k14, g_l14, g_p22, g_a14, g_w14, g_k15, g_l15, g_p24, g_a15, g_w15, g_k16, g_l16, g_p26, g_a16, g_w16, g_k17, g_l17, g_p27, g_a17, g_w17, g_k18, g_l18, g_p29, g_a18, g_w18, g_k19, g_l19, g_p30, g_a19, g_w19, g_k20, g_l20, g_p31, g_a20, g_w20, g_k21, g_l21, g_p32, g_a21, g_w21, g_k22, g_l22, g_p33, g_a22, g_w22, g_k23, g_l23, g_p34, g_a23, g_w23, g_k24, g_l24, g_p35, g_a24, g_w24, g_k25, g_l25, g_p36, g_a25, g_w25, g_k26, g_l26, g_p37, g_a26, g_w26, g_k27, g_l27, g_p38, g_a27, g_w27, g_k28, g_l28, g_p40, g_a28, g_w28, g_k29, g_l29, g_p41, g_a29, g_w29, g_k30, g_l30, g_p42, g_a30, g_w30, g_k31, g_l31, g_p43, g_a31, g_w31, g_k32, g_l32, g_p44, g_a32, g_w32, g_k33, g_l33, g_p45, g_a33, g_w33, g_k34, g_l34, g_p46, g_a34, g_w34, g_f0, g_s0, g_f1, g_s1, g_f2, g_s2, g_f3, g_s3, g_f5, g_s5, g_f6, g_s6, g_f7, g_s7, g_f8, g_s8, g_f9, g_s9, g_f23, g_s23, g_f25, g_s25, g_f28, g_s28, g_f39, g_s39, g_f47, g_s47, gr_ui_eq, gr_ui_2, gr_ul_eq, gr_ul_1, gr_ui_no, gr_ui_ni, gr_ul_no, gr_ul_ni, en, Bool.false_eq_true, hc6, kc, k3]
      exact ⟨rfl, rfl⟩
theorem m_count {w : Int32} : gm_Ca E d 50 [.ref m, .int w] (gr_H h m t) (gx_v (some (.int (if w = 0 then t.1 0 6 else if w = 1 then t.1 0 28 else if w = 2 then t.1 0 23 else if w = 3 then t.1 0 7 else if w = 4 then t.1 0 5 else -1))) (gr_H h m t)) := by
  show gm_W E d 50 0 [.ref m, .int w] [] (gr_H h m t) _
  by_cases w0 : w = 0
  · subst w0
    simp (decide := true) only [r50_0, r50_1, r50_36, r50_36n, r50_37, r50_40, r50_41, r50_41n, r50_42, r50_45, r50_46, r50_46n, r50_47, r50_50, r50_51, r50_51n, r50_52, r50_55, r50_56, r50_56n, r50_57, r50_60, r50_61, r50_62, i32_10, reduceIte, gm_cmp1, gm_cmp3, gm_cmp4, gm_kd_sf, gm_ln_sf, gm_sf_1, gm_sf_2, gm_nw_1, gm_nw_2, gm_k_int, gm_k_ref, gm_k_null, gm_k_u, gm_k_long, and_true, true_and, true_or, or_true, or_false, false_or, and_self, or_self, if_true, if_false, List.map_nil, List.map_cons, List.sum_nil, List.sum_cons, Nat.zero_le, Option.toList_some, Option.toList_none, List.cons_append, List.nil_append, ne_eq, not_false_eq_true, not_true_eq_false, nI_1, nI_add, Value.category, Nat.reduceAdd, Nat.reduceMod, Nat.reduceLeDiff, Nat.reduceLT, Nat.reduceEqDiff, Nat.reducePow, Nat.le_refl, Nat.add_left_cancel_iff, Nat.add_eq_left, Nat.left_eq_add, Nat.add_zero, g_k0, g_k1, g_l1, g_p4, g_a1, g_w1, g_k2, g_l2, g_p10, g_a2, g_w2, g_k3, g_l3, g_p11, g_a3, g_w3, g_k4, g_l4, g_p12, g_a4, g_w4, g_k5, g_l5, g_p13, g_a5, g_w5, g_k6, g_l6, g_p14, g_a6, g_w6, g_k7, g_l7, g_p15, g_a7, g_w7, g_k8, g_l8, g_p16, g_a8, g_w8, g_k9, g_l9, g_p17, g_a9, g_w9, g_k10, g_l10, g_p18, g_a10, g_w10, g_k11, g_l11, g_p19, g_a11, g_w11, g_k12, g_l12, g_p20, g_a12, g_w12, g_k13, g_l13, g_p21, g_a13, g_w13, g_k14, g_l14, g_p22, g_a14, g_w14, g_k15, g_l15, g_p24, g_a15, g_w15, g_k16, g_l16, g_p26, g_a16, g_w16, g_k17, g_l17, g_p27, g_a17, g_w17, g_k18, g_l18, g_p29, g_a18, g_w18, g_k19, g_l19, g_p30, g_a19, g_w19, g_k20, g_l20, g_p31, g_a20, g_w20, g_k21, g_l21, g_p32, g_a21, g_w21, g_k22, g_l22, g_p33, g_a22, g_w22, g_k23, g_l23, g_p34, g_a23, g_w23, g_k24, g_l24, g_p35, g_a24, g_w24, g_k25, g_l25, g_p36, g_a25, g_w25, g_k26, g_l26, g_p37, g_a26, g_w26, g_k27, g_l27, g_p38, g_a27, g_w27, g_k28, g_l28, g_p40, g_a28, g_w28, g_k29, g_l29, g_p41, g_a29, g_w29, g_k30, g_l30, g_p42, g_a30, g_w30, g_k31, g_l31, g_p43, g_a31, g_w31, g_k32, g_l32, g_p44, g_a32, g_w32, g_k33, g_l33, g_p45, g_a33, g_w33, g_k34, g_l34, g_p46, g_a34, g_w34, g_f0, g_s0, g_f1, g_s1, g_f2, g_s2, g_f3, g_s3, g_f5, g_s5, g_f6, g_s6, g_f7, g_s7, g_f8, g_s8, g_f9, g_s9, g_f23, g_s23, g_f25, g_s25, g_f28, g_s28, g_f39, g_s39, g_f47, g_s47, gr_ui_eq, gr_ui_2, gr_ul_eq, gr_ul_1, gr_ui_no, gr_ui_ni, gr_ul_no, gr_ul_ni]
    exact ⟨rfl, rfl⟩
  by_cases w1 : w = 1
  · subst w1
    simp (decide := true) only [r50_0, r50_1, r50_36, r50_36n, r50_37, r50_40, r50_41, r50_41n, r50_42, r50_45, r50_46, r50_46n, r50_47, r50_50, r50_51, r50_51n, r50_52, r50_55, r50_56, r50_56n, r50_57, r50_60, r50_61, r50_62, i32_10, reduceIte, gm_cmp1, gm_cmp3, gm_cmp4, gm_kd_sf, gm_ln_sf, gm_sf_1, gm_sf_2, gm_nw_1, gm_nw_2, gm_k_int, gm_k_ref, gm_k_null, gm_k_u, gm_k_long, and_true, true_and, true_or, or_true, or_false, false_or, and_self, or_self, if_true, if_false, List.map_nil, List.map_cons, List.sum_nil, List.sum_cons, Nat.zero_le, Option.toList_some, Option.toList_none, List.cons_append, List.nil_append, ne_eq, not_false_eq_true, not_true_eq_false, nI_1, nI_add, Value.category, Nat.reduceAdd, Nat.reduceMod, Nat.reduceLeDiff, Nat.reduceLT, Nat.reduceEqDiff, Nat.reducePow, Nat.le_refl, Nat.add_left_cancel_iff, Nat.add_eq_left, Nat.left_eq_add, Nat.add_zero, g_k0, g_k1, g_l1, g_p4, g_a1, g_w1, g_k2, g_l2, g_p10, g_a2, g_w2, g_k3, g_l3, g_p11, g_a3, g_w3, g_k4, g_l4, g_p12, g_a4, g_w4, g_k5, g_l5, g_p13, g_a5, g_w5, g_k6, g_l6, g_p14, g_a6, g_w6, g_k7, g_l7, g_p15, g_a7, g_w7, g_k8, g_l8, g_p16, g_a8, g_w8, g_k9, g_l9, g_p17, g_a9, g_w9, g_k10, g_l10, g_p18, g_a10, g_w10, g_k11, g_l11, g_p19, g_a11, g_w11, g_k12, g_l12, g_p20, g_a12, g_w12, g_k13, g_l13, g_p21, g_a13, g_w13, g_k14, g_l14, g_p22, g_a14, g_w14, g_k15, g_l15, g_p24, g_a15, g_w15, g_k16, g_l16, g_p26, g_a16, g_w16, g_k17, g_l17, g_p27, g_a17, g_w17, g_k18, g_l18, g_p29, g_a18, g_w18, g_k19, g_l19, g_p30, g_a19, g_w19, g_k20, g_l20, g_p31, g_a20, g_w20, g_k21, g_l21, g_p32, g_a21, g_w21, g_k22, g_l22, g_p33, g_a22, g_w22, g_k23, g_l23, g_p34, g_a23, g_w23, g_k24, g_l24, g_p35, g_a24, g_w24, g_k25, g_l25, g_p36, g_a25, g_w25, g_k26, g_l26, g_p37, g_a26, g_w26, g_k27, g_l27, g_p38, g_a27, g_w27, g_k28, g_l28, g_p40, g_a28, g_w28, g_k29, g_l29, g_p41, g_a29, g_w29, g_k30, g_l30, g_p42, g_a30, g_w30, g_k31, g_l31, g_p43, g_a31, g_w31, g_k32, g_l32, g_p44, g_a32, g_w32, g_k33, g_l33, g_p45, g_a33, g_w33, g_k34, g_l34, g_p46, g_a34, g_w34, g_f0, g_s0, g_f1, g_s1, g_f2, g_s2, g_f3, g_s3, g_f5, g_s5, g_f6, g_s6, g_f7, g_s7, g_f8, g_s8, g_f9, g_s9, g_f23, g_s23, g_f25, g_s25, g_f28, g_s28, g_f39, g_s39, g_f47, g_s47, gr_ui_eq, gr_ui_2, gr_ul_eq, gr_ul_1, gr_ui_no, gr_ui_ni, gr_ul_no, gr_ul_ni]
    exact ⟨rfl, rfl⟩
  by_cases w2 : w = 2
  · subst w2
    simp (decide := true) only [r50_0, r50_1, r50_36, r50_36n, r50_37, r50_40, r50_41, r50_41n, r50_42, r50_45, r50_46, r50_46n, r50_47, r50_50, r50_51, r50_51n, r50_52, r50_55, r50_56, r50_56n, r50_57, r50_60, r50_61, r50_62, i32_10, reduceIte, gm_cmp1, gm_cmp3, gm_cmp4, gm_kd_sf, gm_ln_sf, gm_sf_1, gm_sf_2, gm_nw_1, gm_nw_2, gm_k_int, gm_k_ref, gm_k_null, gm_k_u, gm_k_long, and_true, true_and, true_or, or_true, or_false, false_or, and_self, or_self, if_true, if_false, List.map_nil, List.map_cons, List.sum_nil, List.sum_cons, Nat.zero_le, Option.toList_some, Option.toList_none, List.cons_append, List.nil_append, ne_eq, not_false_eq_true, not_true_eq_false, nI_1, nI_add, Value.category, Nat.reduceAdd, Nat.reduceMod, Nat.reduceLeDiff, Nat.reduceLT, Nat.reduceEqDiff, Nat.reducePow, Nat.le_refl, Nat.add_left_cancel_iff, Nat.add_eq_left, Nat.left_eq_add, Nat.add_zero, g_k0, g_k1, g_l1, g_p4, g_a1, g_w1, g_k2, g_l2, g_p10, g_a2, g_w2, g_k3, g_l3, g_p11, g_a3, g_w3, g_k4, g_l4, g_p12, g_a4, g_w4, g_k5, g_l5, g_p13, g_a5, g_w5, g_k6, g_l6, g_p14, g_a6, g_w6, g_k7, g_l7, g_p15, g_a7, g_w7, g_k8, g_l8, g_p16, g_a8, g_w8, g_k9, g_l9, g_p17, g_a9, g_w9, g_k10, g_l10, g_p18, g_a10, g_w10, g_k11, g_l11, g_p19, g_a11, g_w11, g_k12, g_l12, g_p20, g_a12, g_w12, g_k13, g_l13, g_p21, g_a13, g_w13, g_k14, g_l14, g_p22, g_a14, g_w14, g_k15, g_l15, g_p24, g_a15, g_w15, g_k16, g_l16, g_p26, g_a16, g_w16, g_k17, g_l17, g_p27, g_a17, g_w17, g_k18, g_l18, g_p29, g_a18, g_w18, g_k19, g_l19, g_p30, g_a19, g_w19, g_k20, g_l20, g_p31, g_a20, g_w20, g_k21, g_l21, g_p32, g_a21, g_w21, g_k22, g_l22, g_p33, g_a22, g_w22, g_k23, g_l23, g_p34, g_a23, g_w23, g_k24, g_l24, g_p35, g_a24, g_w24, g_k25, g_l25, g_p36, g_a25, g_w25, g_k26, g_l26, g_p37, g_a26, g_w26, g_k27, g_l27, g_p38, g_a27, g_w27, g_k28, g_l28, g_p40, g_a28, g_w28, g_k29, g_l29, g_p41, g_a29, g_w29, g_k30, g_l30, g_p42, g_a30, g_w30, g_k31, g_l31, g_p43, g_a31, g_w31, g_k32, g_l32, g_p44, g_a32, g_w32, g_k33, g_l33, g_p45, g_a33, g_w33, g_k34, g_l34, g_p46, g_a34, g_w34, g_f0, g_s0, g_f1, g_s1, g_f2, g_s2, g_f3, g_s3, g_f5, g_s5, g_f6, g_s6, g_f7, g_s7, g_f8, g_s8, g_f9, g_s9, g_f23, g_s23, g_f25, g_s25, g_f28, g_s28, g_f39, g_s39, g_f47, g_s47, gr_ui_eq, gr_ui_2, gr_ul_eq, gr_ul_1, gr_ui_no, gr_ui_ni, gr_ul_no, gr_ul_ni]
    exact ⟨rfl, rfl⟩
  by_cases w3 : w = 3
  · subst w3
    simp (decide := true) only [r50_0, r50_1, r50_36, r50_36n, r50_37, r50_40, r50_41, r50_41n, r50_42, r50_45, r50_46, r50_46n, r50_47, r50_50, r50_51, r50_51n, r50_52, r50_55, r50_56, r50_56n, r50_57, r50_60, r50_61, r50_62, i32_10, reduceIte, gm_cmp1, gm_cmp3, gm_cmp4, gm_kd_sf, gm_ln_sf, gm_sf_1, gm_sf_2, gm_nw_1, gm_nw_2, gm_k_int, gm_k_ref, gm_k_null, gm_k_u, gm_k_long, and_true, true_and, true_or, or_true, or_false, false_or, and_self, or_self, if_true, if_false, List.map_nil, List.map_cons, List.sum_nil, List.sum_cons, Nat.zero_le, Option.toList_some, Option.toList_none, List.cons_append, List.nil_append, ne_eq, not_false_eq_true, not_true_eq_false, nI_1, nI_add, Value.category, Nat.reduceAdd, Nat.reduceMod, Nat.reduceLeDiff, Nat.reduceLT, Nat.reduceEqDiff, Nat.reducePow, Nat.le_refl, Nat.add_left_cancel_iff, Nat.add_eq_left, Nat.left_eq_add, Nat.add_zero, g_k0, g_k1, g_l1, g_p4, g_a1, g_w1, g_k2, g_l2, g_p10, g_a2, g_w2, g_k3, g_l3, g_p11, g_a3, g_w3, g_k4, g_l4, g_p12, g_a4, g_w4, g_k5, g_l5, g_p13, g_a5, g_w5, g_k6, g_l6, g_p14, g_a6, g_w6, g_k7, g_l7, g_p15, g_a7, g_w7, g_k8, g_l8, g_p16, g_a8, g_w8, g_k9, g_l9, g_p17, g_a9, g_w9, g_k10, g_l10, g_p18, g_a10, g_w10, g_k11, g_l11, g_p19, g_a11, g_w11, g_k12, g_l12, g_p20, g_a12, g_w12, g_k13, g_l13, g_p21, g_a13, g_w13, g_k14, g_l14, g_p22, g_a14, g_w14, g_k15, g_l15, g_p24, g_a15, g_w15, g_k16, g_l16, g_p26, g_a16, g_w16, g_k17, g_l17, g_p27, g_a17, g_w17, g_k18, g_l18, g_p29, g_a18, g_w18, g_k19, g_l19, g_p30, g_a19, g_w19, g_k20, g_l20, g_p31, g_a20, g_w20, g_k21, g_l21, g_p32, g_a21, g_w21, g_k22, g_l22, g_p33, g_a22, g_w22, g_k23, g_l23, g_p34, g_a23, g_w23, g_k24, g_l24, g_p35, g_a24, g_w24, g_k25, g_l25, g_p36, g_a25, g_w25, g_k26, g_l26, g_p37, g_a26, g_w26, g_k27, g_l27, g_p38, g_a27, g_w27, g_k28, g_l28, g_p40, g_a28, g_w28, g_k29, g_l29, g_p41, g_a29, g_w29, g_k30, g_l30, g_p42, g_a30, g_w30, g_k31, g_l31, g_p43, g_a31, g_w31, g_k32, g_l32, g_p44, g_a32, g_w32, g_k33, g_l33, g_p45, g_a33, g_w33, g_k34, g_l34, g_p46, g_a34, g_w34, g_f0, g_s0, g_f1, g_s1, g_f2, g_s2, g_f3, g_s3, g_f5, g_s5, g_f6, g_s6, g_f7, g_s7, g_f8, g_s8, g_f9, g_s9, g_f23, g_s23, g_f25, g_s25, g_f28, g_s28, g_f39, g_s39, g_f47, g_s47, gr_ui_eq, gr_ui_2, gr_ul_eq, gr_ul_1, gr_ui_no, gr_ui_ni, gr_ul_no, gr_ul_ni]
    exact ⟨rfl, rfl⟩
  by_cases w4 : w = 4
  · subst w4
    simp (decide := true) only [r50_0, r50_1, r50_36, r50_36n, r50_37, r50_40, r50_41, r50_41n, r50_42, r50_45, r50_46, r50_46n, r50_47, r50_50, r50_51, r50_51n, r50_52, r50_55, r50_56, r50_56n, r50_57, r50_60, r50_61, r50_62, i32_10, reduceIte, gm_cmp1, gm_cmp3, gm_cmp4, gm_kd_sf, gm_ln_sf, gm_sf_1, gm_sf_2, gm_nw_1, gm_nw_2, gm_k_int, gm_k_ref, gm_k_null, gm_k_u, gm_k_long, and_true, true_and, true_or, or_true, or_false, false_or, and_self, or_self, if_true, if_false, List.map_nil, List.map_cons, List.sum_nil, List.sum_cons, Nat.zero_le, Option.toList_some, Option.toList_none, List.cons_append, List.nil_append, ne_eq, not_false_eq_true, not_true_eq_false, nI_1, nI_add, Value.category, Nat.reduceAdd, Nat.reduceMod, Nat.reduceLeDiff, Nat.reduceLT, Nat.reduceEqDiff, Nat.reducePow, Nat.le_refl, Nat.add_left_cancel_iff, Nat.add_eq_left, Nat.left_eq_add, Nat.add_zero, g_k0, g_k1, g_l1, g_p4, g_a1, g_w1, g_k2, g_l2, g_p10, g_a2, g_w2, g_k3, g_l3, g_p11, g_a3, g_w3, g_k4, g_l4, g_p12, g_a4, g_w4, g_k5, g_l5, g_p13, g_a5, g_w5, g_k6, g_l6, g_p14, g_a6, g_w6, g_k7, g_l7, g_p15, g_a7, g_w7, g_k8, g_l8, g_p16, g_a8, g_w8, g_k9, g_l9, g_p17, g_a9, g_w9, g_k10, g_l10, g_p18, g_a10, g_w10, g_k11, g_l11, g_p19, g_a11, g_w11, g_k12, g_l12, g_p20, g_a12, g_w12, g_k13, g_l13, g_p21, g_a13, g_w13, g_k14, g_l14, g_p22, g_a14, g_w14, g_k15, g_l15, g_p24, g_a15, g_w15, g_k16, g_l16, g_p26, g_a16, g_w16, g_k17, g_l17, g_p27, g_a17, g_w17, g_k18, g_l18, g_p29, g_a18, g_w18, g_k19, g_l19, g_p30, g_a19, g_w19, g_k20, g_l20, g_p31, g_a20, g_w20, g_k21, g_l21, g_p32, g_a21, g_w21, g_k22, g_l22, g_p33, g_a22, g_w22, g_k23, g_l23, g_p34, g_a23, g_w23, g_k24, g_l24, g_p35, g_a24, g_w24, g_k25, g_l25, g_p36, g_a25, g_w25, g_k26, g_l26, g_p37, g_a26, g_w26, g_k27, g_l27, g_p38, g_a27, g_w27, g_k28, g_l28, g_p40, g_a28, g_w28, g_k29, g_l29, g_p41, g_a29, g_w29, g_k30, g_l30, g_p42, g_a30, g_w30, g_k31, g_l31, g_p43, g_a31, g_w31, g_k32, g_l32, g_p44, g_a32, g_w32, g_k33, g_l33, g_p45, g_a33, g_w33, g_k34, g_l34, g_p46, g_a34, g_w34, g_f0, g_s0, g_f1, g_s1, g_f2, g_s2, g_f3, g_s3, g_f5, g_s5, g_f6, g_s6, g_f7, g_s7, g_f8, g_s8, g_f9, g_s9, g_f23, g_s23, g_f25, g_s25, g_f28, g_s28, g_f39, g_s39, g_f47, g_s47, gr_ui_eq, gr_ui_2, gr_ul_eq, gr_ul_1, gr_ui_no, gr_ui_ni, gr_ul_no, gr_ul_ni]
    exact ⟨rfl, rfl⟩
  simp only [r50_0, r50_1, r50_36, r50_36n, r50_37, r50_40, r50_41, r50_41n, r50_42, r50_45, r50_46, r50_46n, r50_47, r50_50, r50_51, r50_51n, r50_52, r50_55, r50_56, r50_56n, r50_57, r50_60, r50_61, r50_62, i32_10, reduceIte, gm_cmp1, gm_cmp3, gm_cmp4, gm_kd_sf, gm_ln_sf, gm_sf_1, gm_sf_2, gm_nw_1, gm_nw_2, gm_k_int, gm_k_ref, gm_k_null, gm_k_u, gm_k_long, and_true, true_and, true_or, or_true, or_false, false_or, and_self, or_self, if_true, if_false, List.map_nil, List.map_cons, List.sum_nil, List.sum_cons, Nat.zero_le, Option.toList_some, Option.toList_none, List.cons_append, List.nil_append, ne_eq, not_false_eq_true, not_true_eq_false, nI_1, nI_add, Value.category, Nat.reduceAdd, Nat.reduceMod, Nat.reduceLeDiff, Nat.reduceLT, Nat.reduceEqDiff, Nat.reducePow, Nat.le_refl, Nat.add_left_cancel_iff, Nat.add_eq_left, Nat.left_eq_add, Nat.add_zero, g_k0, g_k1, g_l1, g_p4, g_a1, g_w1, g_k2, g_l2, g_p10, g_a2, g_w2, g_k3, g_l3, g_p11, g_a3, g_w3, g_k4, g_l4, g_p12, g_a4, g_w4, g_k5, g_l5, g_p13, g_a5, g_w5, g_k6, g_l6, g_p14, g_a6, g_w6, g_k7, g_l7, g_p15, g_a7, g_w7, g_k8, g_l8, g_p16, g_a8, g_w8, g_k9, g_l9, g_p17, g_a9, g_w9, g_k10, g_l10, g_p18, g_a10, g_w10, g_k11, g_l11, g_p19, g_a11, g_w11, g_k12, g_l12, g_p20, g_a12, g_w12, g_k13, g_l13, g_p21, g_a13, g_w13, g_k14, g_l14, g_p22, g_a14, g_w14, g_k15, g_l15, g_p24, g_a15, g_w15, g_k16, g_l16, g_p26, g_a16, g_w16, g_k17, g_l17, g_p27, g_a17, g_w17, g_k18, g_l18, g_p29, g_a18, g_w18, g_k19, g_l19, g_p30, g_a19, g_w19, g_k20, g_l20, g_p31, g_a20, g_w20, g_k21, g_l21, g_p32, g_a21, g_w21, g_k22, g_l22, g_p33, g_a22, g_w22, g_k23, g_l23, g_p34, g_a23, g_w23, g_k24, g_l24, g_p35, g_a24, g_w24, g_k25, g_l25, g_p36, g_a25, g_w25, g_k26, g_l26, g_p37, g_a26, g_w26, g_k27, g_l27, g_p38, g_a27, g_w27, g_k28, g_l28, g_p40, g_a28, g_w28, g_k29, g_l29, g_p41, g_a29, g_w29, g_k30, g_l30, g_p42, g_a30, g_w30, g_k31, g_l31, g_p43, g_a31, g_w31, g_k32, g_l32, g_p44, g_a32, g_w32, g_k33, g_l33, g_p45, g_a33, g_w33, g_k34, g_l34, g_p46, g_a34, g_w34, g_f0, g_s0, g_f1, g_s1, g_f2, g_s2, g_f3, g_s3, g_f5, g_s5, g_f6, g_s6, g_f7, g_s7, g_f8, g_s8, g_f9, g_s9, g_f23, g_s23, g_f25, g_s25, g_f28, g_s28, g_f39, g_s39, g_f47, g_s47, gr_ui_eq, gr_ui_2, gr_ul_eq, gr_ul_1, gr_ui_no, gr_ui_ni, gr_ul_no, gr_ul_ni, w0, w1, w2, w3, w4]
  exact ⟨rfl, rfl⟩
end M5
/-! THE REFERENCE, 5: put, field. -/
theorem bv_255 {i : Nat} (hi : i < 32) : (255#32).getLsbD i = decide (i < 8) := by
  revert i
  decide
theorem bv_lo (w : BitVec 64) (s : Nat) (hs : s + 8 ≤ 64) : ((w.sshiftRight s).signExtend 32 &&& 255#32) = ((((w >>> s).signExtend 32).signExtend 8).signExtend 32 &&& 255#32) := by
  apply BitVec.eq_of_getLsbD_eq
  intro i hi
  rw [BitVec.getLsbD_and, BitVec.getLsbD_and, bv_255 hi]
  by_cases h8 : i < 8
  · simp only [h8, decide_true, Bool.and_true]
    rw [BitVec.getLsbD_signExtend, BitVec.getLsbD_signExtend, BitVec.getLsbD_signExtend, BitVec.getLsbD_signExtend]
    simp only [hi, h8, decide_true, Bool.true_and, if_true, show i < 64 by omega]
    rw [BitVec.getLsbD_sshiftRight, BitVec.getLsbD_ushiftRight]
    simp [show ¬ 64 ≤ i by omega, show s + i < 64 by omega]
  · simp [h8]
theorem pb_eq (v : Int64) : ∀ k, k < 8 → ((v >>> (((8 : Int32) * nI k).toInt64 &&& 63)).toInt32 &&& 255) = ((gs_pb v k).toInt8.toInt32 &&& 255) := by
  intro k hk
  have key : ∀ s : Nat, s + 8 ≤ 64 → ∀ a : Int64, ∀ b : UInt64, (v >>> a).toBitVec = v.toBitVec.sshiftRight s → (v.toUInt64 >>> b).toBitVec = v.toBitVec >>> s → ((v >>> a).toInt32 &&& 255) = (((v.toUInt64 >>> b).toInt64.toInt32.toInt8).toUInt8.toInt8.toInt32 &&& 255) := by
    intro s hs a b ha hb
    apply Int32.toBitVec_inj.mp
    have e1 : ((v >>> a).toInt32 &&& 255).toBitVec = ((v >>> a).toBitVec.signExtend 32 &&& 255#32) := rfl
    have e2 : (((v.toUInt64 >>> b).toInt64.toInt32.toInt8).toUInt8.toInt8.toInt32 &&& 255).toBitVec = ((((v.toUInt64 >>> b).toBitVec.signExtend 32).signExtend 8).signExtend 32 &&& 255#32) := rfl
    rw [e1, e2, ha, hb]
    exact bv_lo _ s hs
  unfold gs_pb
  rcases (show k = 0 ∨ k = 1 ∨ k = 2 ∨ k = 3 ∨ k = 4 ∨ k = 5 ∨ k = 6 ∨ k = 7 by omega) with rfl | rfl | rfl | rfl | rfl | rfl | rfl | rfl
  · exact key 0 (by decide) _ _ rfl rfl
  · exact key 8 (by decide) _ _ rfl rfl
  · exact key 16 (by decide) _ _ rfl rfl
  · exact key 24 (by decide) _ _ rfl rfl
  · exact key 32 (by decide) _ _ rfl rfl
  · exact key 40 (by decide) _ _ rfl rfl
  · exact key 48 (by decide) _ _ rfl rfl
  · exact key 56 (by decide) _ _ rfl rfl
section M6
variable {E : Nat → Value} {d m : Nat} {h : gm_H} {t : gr_t} {K : gs_K} {s : gs_S}
def gr_put1 (t : gr_t) (n : Nat) (u : UInt8) : gr_t := gr_ui (gr_ui t 1 n (u.toInt8.toInt32 &&& 255)) 0 5 (nI (n + 1))
def gr_puts (t : gr_t) (n : Nat) (v : Int64) : Nat → gr_t
  | 0 => t
  | k + 1 => gr_puts (gr_put1 t n (gs_pb v k)) (n + 1) v k
theorem gr_B.put1 {u : UInt8} (B : gr_B t K) (hn : gs_n K < 700) : gr_B (gr_put1 t (gs_n K) u) (gs_put1 K u) := by
  unfold gr_put1
  refine ⟨gr_ui_eq, hn, fun i hi => ?_⟩
  have hi : i < gs_n K + 1 := hi
  rw [gr_ui_no (by decide)]
  show _ = (if i = gs_n K then u else gs_by K i).toInt8.toInt32 &&& 255
  by_cases e : i = gs_n K
  · subst e
    rw [gr_ui_eq, if_pos rfl]
  · rw [gr_ui_ni e, if_neg e]
    exact B.2.2 i (by omega)
theorem gr_B.puts {v : Int64} : ∀ (k : Nat) {t : gr_t} {K : gs_K}, gr_B t K → gs_n K + k ≤ 700 → gr_B (gr_puts t (gs_n K) v k) (gs_puts K v k)
  | 0, _, _, B, _ => B
  | k + 1, t, K, B, hk => by
    have := gr_B.puts (v := v) k (B.put1 (u := gs_pb v k) (by omega)) (by show gs_n K + 1 + k ≤ 700; omega)
    exact this
theorem m_put {v : Int64} {c : Int32} (B : gr_B t K) : gm_Ca E d 9 [.ref m, .long v, .int c] (gr_H h m t) (gx_v (some (.int (gs_putr K v c).1)) (gr_H h m (if (c < 1 ∨ 8 < c ∨ 700 < gs_n K + c.toNatClampNeg) then t else gr_puts t (gs_n K) v c.toNatClampNeg))) := by
  have hn7 := B.2.1
  have loop : ∀ (j : Nat) (t : gr_t) (n : Nat), j ≤ 8 → n + j ≤ 700 → t.1 0 5 = nI n → gm_W E d 9 30 [.ref m, .long v, gm_u, .int c, .int (nI j - 1)] [] (gr_H h m t) (gx_v (some (.int (nI (n + j)))) (gr_H h m (gr_puts t n v j))) := by
    intro j
    induction j with
    | zero =>
      intro t n h8 hn e5
      have m1 : nI 0 - 1 < 0 := by decide
      simp only [r9_0, r9_1, r9_2, r9_5, r9_6, r9_8, r9_11, r9_11n, r9_12, r9_15, r9_16, r9_17, r9_20, r9_23, r9_24, r9_25, r9_26, r9_27, r9_28, r9_30, r9_32, r9_35, r9_35n, r9_36, r9_39, r9_39n, r9_40, r9_43, r9_44, r9_46, r9_48, r9_49, r9_50, r9_51, r9_54, r9_55, r9_56, r9_56n, r9_57, r9_57i, r9_58, r9_61, r9_62, r9_63, r9_66, r9_69, r9_72, r9_72n, r9_73, r9_76, i32_10, reduceIte, gm_cmp1, gm_cmp3, gm_cmp4, gm_kd_sf, gm_ln_sf, gm_sf_1, gm_sf_2, gm_nw_1, gm_nw_2, gm_k_int, gm_k_ref, gm_k_null, gm_k_u, gm_k_long, and_true, true_and, true_or, or_true, or_false, false_or, and_self, or_self, if_true, if_false, List.map_nil, List.map_cons, List.sum_nil, List.sum_cons, Nat.zero_le, Option.toList_some, Option.toList_none, List.cons_append, List.nil_append, ne_eq, not_false_eq_true, not_true_eq_false, nI_1, nI_add, Value.category, Nat.reduceAdd, Nat.reduceMod, Nat.reduceLeDiff, Nat.reduceLT, Nat.reduceEqDiff, Nat.reducePow, Nat.le_refl, Nat.add_left_cancel_iff, Nat.add_eq_left, Nat.left_eq_add, Nat.add_zero, g_k0, g_k1, g_l1, g_p4, g_a1, g_w1, g_k2, g_l2, g_p10, g_a2, g_w2, g_k3, g_l3, g_p11, g_a3, g_w3, g_k4, g_l4, g_p12, g_a4, g_w4, g_k5, g_l5, g_p13, g_a5, g_w5, g_k6, g_l6, g_p14, g_a6, g_w6, g_k7, g_l7, g_p15, g_a7, g_w7, g_k8, g_l8, g_p16, g_a8, g_w8, g_k9, g_l9, g_p17, g_a9, g_w9, g_k10, g_l10, g_p18, g_a10, g_w10, g_k11, g_l11, g_p19, g_a11, g_w11, g_k12, g_l12, g_p20, g_a12, g_w12, g_k13, g_l13, g_p21, g_a13, g_w13, g_k14, g_l14, g_p22, g_a14, g_w14, g_k15, g_l15, g_p24, g_a15, g_w15, g_k16, g_l16, g_p26, g_a16, g_w16, g_k17, g_l17, g_p27, g_a17, g_w17, g_k18, g_l18, g_p29, g_a18, g_w18, g_k19, g_l19, g_p30, g_a19, g_w19, g_k20, g_l20, g_p31, g_a20, g_w20, g_k21, g_l21, g_p32, g_a21, g_w21, g_k22, g_l22, g_p33, g_a22, g_w22, g_k23, g_l23, g_p34, g_a23, g_w23, g_k24, g_l24, g_p35, g_a24, g_w24, g_k25, g_l25, g_p36, g_a25, g_w25, g_k26, g_l26, g_p37, g_a26, g_w26, g_k27, g_l27, g_p38, g_a27, g_w27, g_k28, g_l28, g_p40, g_a28, g_w28, g_k29, g_l29, g_p41, g_a29, g_w29, g_k30, g_l30, g_p42, g_a30, g_w30, g_k31, g_l31, g_p43, g_a31, g_w31, g_k32, g_l32, g_p44, g_a32, g_w32, g_k33, g_l33, g_p45, g_a33, g_w33, g_k34, g_l34, g_p46, g_a34, g_w34, g_f0, g_s0, g_f1, g_s1, g_f2, g_s2, g_f3, g_s3, g_f5, g_s5, g_f6, g_s6, g_f7, g_s7, g_f8, g_s8, g_f9, g_s9, g_f23, g_s23, g_f25, g_s25, g_f28, g_s28, g_f39, g_s39, g_f47, g_s47, gr_ui_eq, gr_ui_2, gr_ul_eq, gr_ul_1, gr_ui_no, gr_ui_ni, gr_ul_no, gr_ul_ni, m1, e5]
      exact ⟨rfl, rfl⟩
    | succ j ih =>
      intro t n h8 hn e5
      have em : nI (j + 1) - 1 = nI j := nI_sub (b := 1) (by omega)
      have hn72 : n < 720 := by omega
      rw [r9_30]
      simp only [r9_0, r9_1, r9_2, r9_5, r9_6, r9_8, r9_11, r9_11n, r9_12, r9_15, r9_16, r9_17, r9_20, r9_23, r9_24, r9_25, r9_26, r9_27, r9_28, r9_32, r9_35, r9_35n, r9_36, r9_39, r9_39n, r9_40, r9_43, r9_44, r9_46, r9_48, r9_49, r9_50, r9_51, r9_54, r9_55, r9_56, r9_56n, r9_57, r9_57i, r9_58, r9_61, r9_62, r9_63, r9_66, r9_69, r9_72, r9_72n, r9_73, r9_76, i32_10, reduceIte, gm_cmp1, gm_cmp3, gm_cmp4, gm_kd_sf, gm_ln_sf, gm_sf_1, gm_sf_2, gm_nw_1, gm_nw_2, gm_k_int, gm_k_ref, gm_k_null, gm_k_u, gm_k_long, and_true, true_and, true_or, or_true, or_false, false_or, and_self, or_self, if_true, if_false, List.map_nil, List.map_cons, List.sum_nil, List.sum_cons, Nat.zero_le, Option.toList_some, Option.toList_none, List.cons_append, List.nil_append, ne_eq, not_false_eq_true, not_true_eq_false, nI_1, nI_add, Value.category, Nat.reduceAdd, Nat.reduceMod, Nat.reduceLeDiff, Nat.reduceLT, Nat.reduceEqDiff, Nat.reducePow, Nat.le_refl, Nat.add_left_cancel_iff, Nat.add_eq_left, Nat.left_eq_add, Nat.add_zero, g_k0, g_k1, g_l1, g_p4, g_a1, g_w1, g_k2, g_l2, g_p10, g_a2, g_w2, g_k3, g_l3, g_p11, g_a3, g_w3, g_k4, g_l4, g_p12, g_a4, g_w4, g_k5, g_l5, g_p13, g_a5, g_w5, g_k6, g_l6, g_p14, g_a6, g_w6, g_k7, g_l7, g_p15, g_a7, g_w7, g_k8, g_l8, g_p16, g_a8, g_w8, g_k9, g_l9, g_p17, g_a9, g_w9, g_k10, g_l10, g_p18, g_a10, g_w10, g_k11, g_l11, g_p19, g_a11, g_w11, g_k12, g_l12, g_p20, g_a12, g_w12, g_k13, g_l13, g_p21, g_a13, g_w13, g_k14, g_l14, g_p22, g_a14, g_w14, g_k15, g_l15, g_p24, g_a15, g_w15, g_k16, g_l16, g_p26, g_a16, g_w16, g_k17, g_l17, g_p27, g_a17, g_w17, g_k18, g_l18, g_p29, g_a18, g_w18, g_k19, g_l19, g_p30, g_a19, g_w19, g_k20, g_l20, g_p31, g_a20, g_w20, g_k21, g_l21, g_p32, g_a21, g_w21, g_k22, g_l22, g_p33, g_a22, g_w22, g_k23, g_l23, g_p34, g_a23, g_w23, g_k24, g_l24, g_p35, g_a24, g_w24, g_k25, g_l25, g_p36, g_a25, g_w25, g_k26, g_l26, g_p37, g_a26, g_w26, g_k27, g_l27, g_p38, g_a27, g_w27, g_k28, g_l28, g_p40, g_a28, g_w28, g_k29, g_l29, g_p41, g_a29, g_w29, g_k30, g_l30, g_p42, g_a30, g_w30, g_k31, g_l31, g_p43, g_a31, g_w31, g_k32, g_l32, g_p44, g_a32, g_w32, g_k33, g_l33, g_p45, g_a33, g_w33, g_k34, g_l34, g_p46, g_a34, g_w34, g_f0, g_s0, g_f1, g_s1, g_f2, g_s2, g_f3, g_s3, g_f5, g_s5, g_f6, g_s6, g_f7, g_s7, g_f8, g_s8, g_f9, g_s9, g_f23, g_s23, g_f25, g_s25, g_f28, g_s28, g_f39, g_s39, g_f47, g_s47, gr_ui_eq, gr_ui_2, gr_ul_eq, gr_ul_1, gr_ui_no, gr_ui_ni, gr_ul_no, gr_ul_ni, em, nI_pos (show j < 2 ^ 31 by omega), e5, hn72]
      rw [pb_eq v j (by omega), ← em, nI_dn]
      have q := ih (gr_put1 t n (gs_pb v j)) (n + 1) (by omega) (by omega) gr_ui_eq
      rw [show n + 1 + j = n + (j + 1) by omega] at q
      exact q
  show gm_W E d 9 0 [.ref m, .long v, gm_u, .int c, gm_u] [] (gr_H h m t) _
  unfold gs_putr
  by_cases c1 : c < 1
  · simp only [r9_0, r9_1, r9_2, r9_5, r9_6, r9_8, r9_11, r9_11n, r9_12, r9_15, r9_16, r9_17, r9_20, r9_23, r9_24, r9_25, r9_26, r9_27, r9_28, r9_30, r9_32, r9_35, r9_35n, r9_36, r9_39, r9_39n, r9_40, r9_43, r9_44, r9_46, r9_48, r9_49, r9_50, r9_51, r9_54, r9_55, r9_56, r9_56n, r9_57, r9_57i, r9_58, r9_61, r9_62, r9_63, r9_66, r9_69, r9_72, r9_72n, r9_73, r9_76, i32_10, reduceIte, gm_cmp1, gm_cmp3, gm_cmp4, gm_kd_sf, gm_ln_sf, gm_sf_1, gm_sf_2, gm_nw_1, gm_nw_2, gm_k_int, gm_k_ref, gm_k_null, gm_k_u, gm_k_long, and_true, true_and, true_or, or_true, or_false, false_or, and_self, or_self, if_true, if_false, List.map_nil, List.map_cons, List.sum_nil, List.sum_cons, Nat.zero_le, Option.toList_some, Option.toList_none, List.cons_append, List.nil_append, ne_eq, not_false_eq_true, not_true_eq_false, nI_1, nI_add, Value.category, Nat.reduceAdd, Nat.reduceMod, Nat.reduceLeDiff, Nat.reduceLT, Nat.reduceEqDiff, Nat.reducePow, Nat.le_refl, Nat.add_left_cancel_iff, Nat.add_eq_left, Nat.left_eq_add, Nat.add_zero, c1]
    exact ⟨rfl, rfl⟩
  by_cases c8 : 8 < c
  · simp only [r9_0, r9_1, r9_2, r9_5, r9_6, r9_8, r9_11, r9_11n, r9_12, r9_15, r9_16, r9_17, r9_20, r9_23, r9_24, r9_25, r9_26, r9_27, r9_28, r9_30, r9_32, r9_35, r9_35n, r9_36, r9_39, r9_39n, r9_40, r9_43, r9_44, r9_46, r9_48, r9_49, r9_50, r9_51, r9_54, r9_55, r9_56, r9_56n, r9_57, r9_57i, r9_58, r9_61, r9_62, r9_63, r9_66, r9_69, r9_72, r9_72n, r9_73, r9_76, i32_10, reduceIte, gm_cmp1, gm_cmp3, gm_cmp4, gm_kd_sf, gm_ln_sf, gm_sf_1, gm_sf_2, gm_nw_1, gm_nw_2, gm_k_int, gm_k_ref, gm_k_null, gm_k_u, gm_k_long, and_true, true_and, true_or, or_true, or_false, false_or, and_self, or_self, if_true, if_false, List.map_nil, List.map_cons, List.sum_nil, List.sum_cons, Nat.zero_le, Option.toList_some, Option.toList_none, List.cons_append, List.nil_append, ne_eq, not_false_eq_true, not_true_eq_false, nI_1, nI_add, Value.category, Nat.reduceAdd, Nat.reduceMod, Nat.reduceLeDiff, Nat.reduceLT, Nat.reduceEqDiff, Nat.reducePow, Nat.le_refl, Nat.add_left_cancel_iff, Nat.add_eq_left, Nat.left_eq_add, Nat.add_zero, c1, c8]
    exact ⟨rfl, rfl⟩
  have c0 : ¬ c < 0 := fun z => c1 (Int32.lt_of_lt_of_le z (by decide))
  obtain ⟨j, hj, rfl⟩ := nI_of c0
  have hm8 : j ≤ 8 := Nat.le_of_not_lt (fun z => c8 ((nI_ltI (a := 8) (by decide) hj).mpr z))
  rw [nI_clamp hj]
  by_cases h7 : 700 < gs_n K + j
  · have e7 : ¬ nI (gs_n K + j) ≤ 700 := nI_ge (a := 700) h7 (by omega)
    simp only [r9_0, r9_1, r9_2, r9_5, r9_6, r9_8, r9_11, r9_11n, r9_12, r9_15, r9_16, r9_17, r9_20, r9_23, r9_24, r9_25, r9_26, r9_27, r9_28, r9_30, r9_32, r9_35, r9_35n, r9_36, r9_39, r9_39n, r9_40, r9_43, r9_44, r9_46, r9_48, r9_49, r9_50, r9_51, r9_54, r9_55, r9_56, r9_56n, r9_57, r9_57i, r9_58, r9_61, r9_62, r9_63, r9_66, r9_69, r9_72, r9_72n, r9_73, r9_76, i32_10, reduceIte, gm_cmp1, gm_cmp3, gm_cmp4, gm_kd_sf, gm_ln_sf, gm_sf_1, gm_sf_2, gm_nw_1, gm_nw_2, gm_k_int, gm_k_ref, gm_k_null, gm_k_u, gm_k_long, and_true, true_and, true_or, or_true, or_false, false_or, and_self, or_self, if_true, if_false, List.map_nil, List.map_cons, List.sum_nil, List.sum_cons, Nat.zero_le, Option.toList_some, Option.toList_none, List.cons_append, List.nil_append, ne_eq, not_false_eq_true, not_true_eq_false, nI_1, nI_add, Value.category, Nat.reduceAdd, Nat.reduceMod, Nat.reduceLeDiff, Nat.reduceLT, Nat.reduceEqDiff, Nat.reducePow, Nat.le_refl, Nat.add_left_cancel_iff, Nat.add_eq_left, Nat.left_eq_add, Nat.add_zero, g_k0, g_k1, g_l1, g_p4, g_a1, g_w1, g_k2, g_l2, g_p10, g_a2, g_w2, g_k3, g_l3, g_p11, g_a3, g_w3, g_k4, g_l4, g_p12, g_a4, g_w4, g_k5, g_l5, g_p13, g_a5, g_w5, g_k6, g_l6, g_p14, g_a6, g_w6, g_k7, g_l7, g_p15, g_a7, g_w7, g_k8, g_l8, g_p16, g_a8, g_w8, g_k9, g_l9, g_p17, g_a9, g_w9, g_k10, g_l10, g_p18, g_a10, g_w10, g_k11, g_l11, g_p19, g_a11, g_w11, g_k12, g_l12, g_p20, g_a12, g_w12, g_k13, g_l13, g_p21, g_a13, g_w13, g_k14, g_l14, g_p22, g_a14, g_w14, g_k15, g_l15, g_p24, g_a15, g_w15, g_k16, g_l16, g_p26, g_a16, g_w16, g_k17, g_l17, g_p27, g_a17, g_w17, g_k18, g_l18, g_p29, g_a18, g_w18, g_k19, g_l19, g_p30, g_a19, g_w19, g_k20, g_l20, g_p31, g_a20, g_w20, g_k21, g_l21, g_p32, g_a21, g_w21, g_k22, g_l22, g_p33, g_a22, g_w22, g_k23, g_l23, g_p34, g_a23, g_w23, g_k24, g_l24, g_p35, g_a24, g_w24, g_k25, g_l25, g_p36, g_a25, g_w25, g_k26, g_l26, g_p37, g_a26, g_w26, g_k27, g_l27, g_p38, g_a27, g_w27, g_k28, g_l28, g_p40, g_a28, g_w28, g_k29, g_l29, g_p41, g_a29, g_w29, g_k30, g_l30, g_p42, g_a30, g_w30, g_k31, g_l31, g_p43, g_a31, g_w31, g_k32, g_l32, g_p44, g_a32, g_w32, g_k33, g_l33, g_p45, g_a33, g_w33, g_k34, g_l34, g_p46, g_a34, g_w34, g_f0, g_s0, g_f1, g_s1, g_f2, g_s2, g_f3, g_s3, g_f5, g_s5, g_f6, g_s6, g_f7, g_s7, g_f8, g_s8, g_f9, g_s9, g_f23, g_s23, g_f25, g_s25, g_f28, g_s28, g_f39, g_s39, g_f47, g_s47, gr_ui_eq, gr_ui_2, gr_ul_eq, gr_ul_1, gr_ui_no, gr_ui_ni, gr_ul_no, gr_ul_ni, c1, c8, B.1, e7, h7]
    exact ⟨rfl, rfl⟩
  · have e7 : nI (gs_n K + j) ≤ 700 := nI_le (b := 700) (by omega) (by decide)
    simp only [r9_0, r9_1, r9_2, r9_5, r9_6, r9_8, r9_11, r9_11n, r9_12, r9_15, r9_16, r9_17, r9_20, r9_23, r9_24, r9_25, r9_26, r9_27, r9_28, r9_32, r9_35, r9_35n, r9_36, r9_39, r9_39n, r9_40, r9_43, r9_44, r9_46, r9_48, r9_49, r9_50, r9_51, r9_54, r9_55, r9_56, r9_56n, r9_57, r9_57i, r9_58, r9_61, r9_62, r9_63, r9_66, r9_69, r9_72, r9_72n, r9_73, r9_76, i32_10, reduceIte, gm_cmp1, gm_cmp3, gm_cmp4, gm_kd_sf, gm_ln_sf, gm_sf_1, gm_sf_2, gm_nw_1, gm_nw_2, gm_k_int, gm_k_ref, gm_k_null, gm_k_u, gm_k_long, and_true, true_and, true_or, or_true, or_false, false_or, and_self, or_self, if_true, if_false, List.map_nil, List.map_cons, List.sum_nil, List.sum_cons, Nat.zero_le, Option.toList_some, Option.toList_none, List.cons_append, List.nil_append, ne_eq, not_false_eq_true, not_true_eq_false, nI_1, nI_add, Value.category, Nat.reduceAdd, Nat.reduceMod, Nat.reduceLeDiff, Nat.reduceLT, Nat.reduceEqDiff, Nat.reducePow, Nat.le_refl, Nat.add_left_cancel_iff, Nat.add_eq_left, Nat.left_eq_add, Nat.add_zero, g_k0, g_k1, g_l1, g_p4, g_a1, g_w1, g_k2, g_l2, g_p10, g_a2, g_w2, g_k3, g_l3, g_p11, g_a3, g_w3, g_k4, g_l4, g_p12, g_a4, g_w4, g_k5, g_l5, g_p13, g_a5, g_w5, g_k6, g_l6, g_p14, g_a6, g_w6, g_k7, g_l7, g_p15, g_a7, g_w7, g_k8, g_l8, g_p16, g_a8, g_w8, g_k9, g_l9, g_p17, g_a9, g_w9, g_k10, g_l10, g_p18, g_a10, g_w10, g_k11, g_l11, g_p19, g_a11, g_w11, g_k12, g_l12, g_p20, g_a12, g_w12, g_k13, g_l13, g_p21, g_a13, g_w13, g_k14, g_l14, g_p22, g_a14, g_w14, g_k15, g_l15, g_p24, g_a15, g_w15, g_k16, g_l16, g_p26, g_a16, g_w16, g_k17, g_l17, g_p27, g_a17, g_w17, g_k18, g_l18, g_p29, g_a18, g_w18, g_k19, g_l19, g_p30, g_a19, g_w19, g_k20, g_l20, g_p31, g_a20, g_w20, g_k21, g_l21, g_p32, g_a21, g_w21, g_k22, g_l22, g_p33, g_a22, g_w22, g_k23, g_l23, g_p34, g_a23, g_w23, g_k24, g_l24, g_p35, g_a24, g_w24, g_k25, g_l25, g_p36, g_a25, g_w25, g_k26, g_l26, g_p37, g_a26, g_w26, g_k27, g_l27, g_p38, g_a27, g_w27, g_k28, g_l28, g_p40, g_a28, g_w28, g_k29, g_l29, g_p41, g_a29, g_w29, g_k30, g_l30, g_p42, g_a30, g_w30, g_k31, g_l31, g_p43, g_a31, g_w31, g_k32, g_l32, g_p44, g_a32, g_w32, g_k33, g_l33, g_p45, g_a33, g_w33, g_k34, g_l34, g_p46, g_a34, g_w34, g_f0, g_s0, g_f1, g_s1, g_f2, g_s2, g_f3, g_s3, g_f5, g_s5, g_f6, g_s6, g_f7, g_s7, g_f8, g_s8, g_f9, g_s9, g_f23, g_s23, g_f25, g_s25, g_f28, g_s28, g_f39, g_s39, g_f47, g_s47, gr_ui_eq, gr_ui_2, gr_ul_eq, gr_ul_1, gr_ui_no, gr_ui_ni, gr_ul_no, gr_ul_ni, c1, c8, B.1, e7, h7]
    exact loop j t (gs_n K) hm8 (by omega) B.1
theorem i4m {c : Nat} : (4 : Int32) * nI c = nI (4 * c) := (Int32.ofNat_mul 4 c).symm
def gr_fld (t : gr_t) (c k : Nat) (nm ty : Int32) : gr_t := gr_ui (gr_ui (gr_ui t 6 (4 * c + k) nm) 7 (4 * c + k) ty) 5 c (nI (k + 1))
theorem m_field {n nm ty : Int32} (hd : 2 ≤ d) (Cl : gr_C t K) (h6 : ∀ c, 6 ≤ c → gs_cls K c = none) (hh : t.1 0 23 = nI (gs_hp s).length) (h234 : (gs_hp s).length ≤ 234) : gm_Ca E d 7 [.ref m, .int n, .int nm, .int ty] (gr_H h m t) (gx_v (some (.int (gs_fld K s n nm ty).1)) (gr_H h m (match gs_cn K n with
    | none => t
    | some c => match gs_cls K c with
      | none => t
      | some C => if gs_kind C = 3 ∨ (nm < 0 ∨ 26 ≤ nm) ∨ ty < 0 ∨ 7 < ty ∨ gs_hp s ≠ [] ∨ (gs_fs C).length = 4 ∨ (gs_ix (gs_fs C) nm).isSome = true then t else gr_fld t c (gs_fs C).length nm ty))) := by
  show gm_W E d 7 0 [.ref m, .int n, .int nm, .int ty, gm_u] [] (gr_H h m t) _
  simp only [r7_0, r7_0n, r7_1, r7_5, r7_8, r7_8n, r7_9, r7_12, r7_13, r7_14, r7_15, r7_18, r7_18n, r7_19, r7_20, r7_25, r7_28, r7_28n, r7_29, r7_30, r7_35, r7_38, r7_39, r7_40, r7_40n, r7_41, r7_44, r7_45, r7_46, r7_47, r7_50, r7_50n, r7_51, r7_54, r7_57, r7_58, r7_59, r7_60, r7_62, r7_64, r7_64n, r7_65, r7_68, r7_69, r7_70, r7_73, r7_73n, r7_74, r7_77, r7_78, r7_79, r7_80, r7_82, r7_83, r7_84, r7_85, r7_88, r7_89, r7_90, r7_93, r7_96, r7_96n, r7_97, r7_100, r7_101, r7_102, r7_103, r7_103n, r7_104, r7_107, r7_108, r7_109, r7_110, r7_111, r7_112, r7_112n, r7_113, r7_116, r7_117, r7_118, r7_119, r7_119n, r7_120, r7_123, r7_124, r7_125, r7_126, r7_127, r7_128, r7_128n, r7_129, r7_132, r7_133, r7_134, r7_135, r7_136, r7_137, r7_138, r7_138n, r7_139, r7_142, r7_143, r7_144, i32_10, reduceIte, gm_cmp1, gm_cmp3, gm_cmp4, gm_kd_sf, gm_ln_sf, gm_sf_1, gm_sf_2, gm_nw_1, gm_nw_2, gm_k_int, gm_k_ref, gm_k_null, gm_k_u, gm_k_long, and_true, true_and, true_or, or_true, or_false, false_or, and_self, or_self, if_true, if_false, List.map_nil, List.map_cons, List.sum_nil, List.sum_cons, Nat.zero_le, Option.toList_some, Option.toList_none, List.cons_append, List.nil_append, ne_eq, not_false_eq_true, not_true_eq_false, nI_1, nI_add, Value.category, Nat.reduceAdd, Nat.reduceMod, Nat.reduceLeDiff, Nat.reduceLT, Nat.reduceEqDiff, Nat.reducePow, Nat.le_refl, Nat.add_left_cancel_iff, Nat.add_eq_left, Nat.left_eq_add, Nat.add_zero]
  refine c7_2 (by simp) g_k0 (by omega) (m_noClass (by omega)) (gx_kn ?_) gx_kx
  unfold gs_fld
  have en := gr_noc_eq (n := n) Cl h6
  cases e : gs_cn K n with
  | none =>
    rw [e] at en
    have en : gr_noc t n = true := en
    simp only [r7_0, r7_0n, r7_1, r7_5, r7_8, r7_8n, r7_9, r7_12, r7_13, r7_14, r7_15, r7_18, r7_18n, r7_19, r7_20, r7_25, r7_28, r7_28n, r7_29, r7_30, r7_35, r7_38, r7_39, r7_40, r7_40n, r7_41, r7_44, r7_45, r7_46, r7_47, r7_50, r7_50n, r7_51, r7_54, r7_57, r7_58, r7_59, r7_60, r7_62, r7_64, r7_64n, r7_65, r7_68, r7_69, r7_70, r7_73, r7_73n, r7_74, r7_77, r7_78, r7_79, r7_80, r7_82, r7_83, r7_84, r7_85, r7_88, r7_89, r7_90, r7_93, r7_96, r7_96n, r7_97, r7_100, r7_101, r7_102, r7_103, r7_103n, r7_104, r7_107, r7_108, r7_109, r7_110, r7_111, r7_112, r7_112n, r7_113, r7_116, r7_117, r7_118, r7_119, r7_119n, r7_120, r7_123, r7_124, r7_125, r7_126, r7_127, r7_128, r7_128n, r7_129, r7_132, r7_133, r7_134, r7_135, r7_136, r7_137, r7_138, r7_138n, r7_139, r7_142, r7_143, r7_144, i32_10, reduceIte, gm_cmp1, gm_cmp3, gm_cmp4, gm_kd_sf, gm_ln_sf, gm_sf_1, gm_sf_2, gm_nw_1, gm_nw_2, gm_k_int, gm_k_ref, gm_k_null, gm_k_u, gm_k_long, and_true, true_and, true_or, or_true, or_false, false_or, and_self, or_self, if_true, if_false, List.map_nil, List.map_cons, List.sum_nil, List.sum_cons, Nat.zero_le, Option.toList_some, Option.toList_none, List.cons_append, List.nil_append, ne_eq, not_false_eq_true, not_true_eq_false, nI_1, nI_add, Value.category, Nat.reduceAdd, Nat.reduceMod, Nat.reduceLeDiff, Nat.reduceLT, Nat.reduceEqDiff, Nat.reducePow, Nat.le_refl, Nat.add_left_cancel_iff, Nat.add_eq_left, Nat.left_eq_add, Nat.add_zero, en]
    exact ⟨rfl, rfl⟩
  | some c =>
    rw [e] at en
    have en : gr_noc t n = false := en
    obtain ⟨n0, rfl, -⟩ := gr_cn_of e
    obtain ⟨C, hC⟩ := Option.isSome_iff_exists.mp (gs_cn_some e)
    have hc6 : c < 6 := by
      rcases Nat.lt_or_ge c 6 with z | z
      · exact z
      · rw [h6 c z] at hC; cases hC
    have q := Cl c hc6
    rw [hC] at q
    obtain ⟨q1, q2, q3, q4, q5, q6, q7, q8, q9⟩ := q
    dsimp only
    rw [hC]
    dsimp only
    obtain ⟨Q, hQ⟩ : ∃ Q : gm_R → gm_H → Prop, Q = gx_v (some (.int (if gs_kind C = 3 ∨ (nm < 0 ∨ 26 ≤ nm) ∨ ty < 0 ∨ 7 < ty ∨ gs_hp s ≠ [] ∨ (gs_fs C).length = 4 ∨ (gs_ix (gs_fs C) nm).isSome = true then (-1, K) else (nI ((gs_fs C).length + 1), gs_def1 K c (C.1, C.2.1, C.2.2.1, gs_fs C ++ [(nm, ty)], C.2.2.2.2))).1)) (gr_H h m (if gs_kind C = 3 ∨ (nm < 0 ∨ 26 ≤ nm) ∨ ty < 0 ∨ 7 < ty ∨ gs_hp s ≠ [] ∨ (gs_fs C).length = 4 ∨ (gs_ix (gs_fs C) nm).isSome = true then t else gr_fld t c (gs_fs C).length nm ty)) := ⟨_, rfl⟩
    rw [← hQ]
    have no : (gs_kind C = 3 ∨ (nm < 0 ∨ 26 ≤ nm) ∨ ty < 0 ∨ 7 < ty ∨ gs_hp s ≠ [] ∨ (gs_fs C).length = 4 ∨ (gs_ix (gs_fs C) nm).isSome = true) → Q (.inl (some (.int (-1)))) (gr_H h m t) := by
      intro z
      rw [hQ, if_pos z, if_pos z]
      exact ⟨rfl, rfl⟩
    by_cases c1 : gs_kind C = 3
    · simp only [r7_0, r7_0n, r7_1, r7_5, r7_8, r7_8n, r7_9, r7_12, r7_13, r7_14, r7_15, r7_18, r7_18n, r7_19, r7_20, r7_25, r7_28, r7_28n, r7_29, r7_30, r7_35, r7_38, r7_39, r7_40, r7_40n, r7_41, r7_44, r7_45, r7_46, r7_47, r7_50, r7_50n, r7_51, r7_54, r7_57, r7_58, r7_59, r7_60, r7_62, r7_64, r7_64n, r7_65, r7_68, r7_69, r7_70, r7_73, r7_73n, r7_74, r7_77, r7_78, r7_79, r7_80, r7_82, r7_83, r7_84, r7_85, r7_88, r7_89, r7_90, r7_93, r7_96, r7_96n, r7_97, r7_100, r7_101, r7_102, r7_103, r7_103n, r7_104, r7_107, r7_108, r7_109, r7_110, r7_111, r7_112, r7_112n, r7_113, r7_116, r7_117, r7_118, r7_119, r7_119n, r7_120, r7_123, r7_124, r7_125, r7_126, r7_127, r7_128, r7_128n, r7_129, r7_132, r7_133, r7_134, r7_135, r7_136, r7_137, r7_138, r7_138n, r7_139, r7_142, r7_143, r7_144, i32_10, reduceIte, gm_cmp1, gm_cmp3, gm_cmp4, gm_kd_sf, gm_ln_sf, gm_sf_1, gm_sf_2, gm_nw_1, gm_nw_2, gm_k_int, gm_k_ref, gm_k_null, gm_k_u, gm_k_long, and_true, true_and, true_or, or_true, or_false, false_or, and_self, or_self, if_true, if_false, List.map_nil, List.map_cons, List.sum_nil, List.sum_cons, Nat.zero_le, Option.toList_some, Option.toList_none, List.cons_append, List.nil_append, ne_eq, not_false_eq_true, not_true_eq_false, nI_1, nI_add, Value.category, Nat.reduceAdd, Nat.reduceMod, Nat.reduceLeDiff, Nat.reduceLT, Nat.reduceEqDiff, Nat.reducePow, Nat.le_refl, Nat.add_left_cancel_iff, Nat.add_eq_left, Nat.left_eq_add, Nat.add_zero, g_k0, g_k1, g_l1, g_p4, g_a1, g_w1, g_k2, g_l2, g_p10, g_a2, g_w2, g_k3, g_l3, g_p11, g_a3, g_w3, g_k4, g_l4, g_p12, g_a4, g_w4, g_k5, g_l5, g_p13, g_a5, g_w5, g_k6, g_l6, g_p14, g_a6, g_w6, g_k7, g_l7, g_p15, g_a7, g_w7, g_k8, g_l8, g_p16, g_a8, g_w8, g_k9, g_l9, g_p17, g_a9, g_w9, g_k10, g_l10, g_p18, g_a10, g_w10, g_k11, g_l11, g_p19, g_a11, g_w11, g_k12, g_l12, g_p20, g_a12, g_w12, g_k13, g_l13, g_p21, g_a13, g_w13, g_k14, g_l14, g_p22, g_a14, g_w14, g_k15, g_l15, g_p24, g_a15, g_w15, g_k16, g_l16, g_p26, g_a16, g_w16, g_k17, g_l17, g_p27, g_a17, g_w17, g_k18, g_l18, g_p29, g_a18, g_w18, g_k19, g_l19, g_p30, g_a19, g_w19, g_k20, g_l20, g_p31, g_a20, g_w20, g_k21, g_l21, g_p32, g_a21, g_w21, g_k22, g_l22, g_p33, g_a22, g_w22, g_k23, g_l23, g_p34, g_a23, g_w23, g_k24, g_l24, g_p35, g_a24, g_w24, g_k25, g_l25, g_p36, g_a25, g_w25, g_k26, g_l26, g_p37, g_a26, g_w26, g_k27, g_l27, g_p38, g_a27, g_w27, g_k28, g_l28, g_p40, g_a28, g_w28, g_k29, g_l29, g_p41, g_a29, g_w29, g_k30, g_l30, g_p42, g_a30, g_w30, g_k31, g_l31, g_p43, g_a31, g_w31, g_k32, g_l32, g_p44, g_a32, g_w32, g_k33, g_l33, g_p45, g_a33, g_w33, g_k34, g_l34, g_p46, g_a34, g_w34, g_f0, g_s0, g_f1, g_s1, g_f2, g_s2, g_f3, g_s3, g_f5, g_s5, g_f6, g_s6, g_f7, g_s7, g_f8, g_s8, g_f9, g_s9, g_f23, g_s23, g_f25, g_s25, g_f28, g_s28, g_f39, g_s39, g_f47, g_s47, gr_ui_eq, gr_ui_2, gr_ul_eq, gr_ul_1, gr_ui_no, gr_ui_ni, gr_ul_no, gr_ul_ni, en, Bool.false_eq_true, hc6, q1, c1]
      exact no (Or.inl c1)
    simp only [r7_0, r7_0n, r7_1, r7_5, r7_8, r7_8n, r7_9, r7_12, r7_13, r7_14, r7_15, r7_18, r7_18n, r7_19, r7_20, r7_25, r7_28, r7_28n, r7_29, r7_30, r7_35, r7_38, r7_39, r7_40, r7_40n, r7_41, r7_44, r7_45, r7_46, r7_47, r7_50, r7_50n, r7_51, r7_54, r7_57, r7_58, r7_59, r7_60, r7_62, r7_64, r7_64n, r7_65, r7_68, r7_69, r7_70, r7_73, r7_73n, r7_74, r7_77, r7_78, r7_79, r7_80, r7_82, r7_83, r7_84, r7_85, r7_88, r7_89, r7_90, r7_93, r7_96, r7_96n, r7_97, r7_100, r7_101, r7_102, r7_103, r7_103n, r7_104, r7_107, r7_108, r7_109, r7_110, r7_111, r7_112, r7_112n, r7_113, r7_116, r7_117, r7_118, r7_119, r7_119n, r7_120, r7_123, r7_124, r7_125, r7_126, r7_127, r7_128, r7_128n, r7_129, r7_132, r7_133, r7_134, r7_135, r7_136, r7_137, r7_138, r7_138n, r7_139, r7_142, r7_143, r7_144, i32_10, reduceIte, gm_cmp1, gm_cmp3, gm_cmp4, gm_kd_sf, gm_ln_sf, gm_sf_1, gm_sf_2, gm_nw_1, gm_nw_2, gm_k_int, gm_k_ref, gm_k_null, gm_k_u, gm_k_long, and_true, true_and, true_or, or_true, or_false, false_or, and_self, or_self, if_true, if_false, List.map_nil, List.map_cons, List.sum_nil, List.sum_cons, Nat.zero_le, Option.toList_some, Option.toList_none, List.cons_append, List.nil_append, ne_eq, not_false_eq_true, not_true_eq_false, nI_1, nI_add, Value.category, Nat.reduceAdd, Nat.reduceMod, Nat.reduceLeDiff, Nat.reduceLT, Nat.reduceEqDiff, Nat.reducePow, Nat.le_refl, Nat.add_left_cancel_iff, Nat.add_eq_left, Nat.left_eq_add, Nat.add_zero, g_k0, g_k1, g_l1, g_p4, g_a1, g_w1, g_k2, g_l2, g_p10, g_a2, g_w2, g_k3, g_l3, g_p11, g_a3, g_w3, g_k4, g_l4, g_p12, g_a4, g_w4, g_k5, g_l5, g_p13, g_a5, g_w5, g_k6, g_l6, g_p14, g_a6, g_w6, g_k7, g_l7, g_p15, g_a7, g_w7, g_k8, g_l8, g_p16, g_a8, g_w8, g_k9, g_l9, g_p17, g_a9, g_w9, g_k10, g_l10, g_p18, g_a10, g_w10, g_k11, g_l11, g_p19, g_a11, g_w11, g_k12, g_l12, g_p20, g_a12, g_w12, g_k13, g_l13, g_p21, g_a13, g_w13, g_k14, g_l14, g_p22, g_a14, g_w14, g_k15, g_l15, g_p24, g_a15, g_w15, g_k16, g_l16, g_p26, g_a16, g_w16, g_k17, g_l17, g_p27, g_a17, g_w17, g_k18, g_l18, g_p29, g_a18, g_w18, g_k19, g_l19, g_p30, g_a19, g_w19, g_k20, g_l20, g_p31, g_a20, g_w20, g_k21, g_l21, g_p32, g_a21, g_w21, g_k22, g_l22, g_p33, g_a22, g_w22, g_k23, g_l23, g_p34, g_a23, g_w23, g_k24, g_l24, g_p35, g_a24, g_w24, g_k25, g_l25, g_p36, g_a25, g_w25, g_k26, g_l26, g_p37, g_a26, g_w26, g_k27, g_l27, g_p38, g_a27, g_w27, g_k28, g_l28, g_p40, g_a28, g_w28, g_k29, g_l29, g_p41, g_a29, g_w29, g_k30, g_l30, g_p42, g_a30, g_w30, g_k31, g_l31, g_p43, g_a31, g_w31, g_k32, g_l32, g_p44, g_a32, g_w32, g_k33, g_l33, g_p45, g_a33, g_w33, g_k34, g_l34, g_p46, g_a34, g_w34, g_f0, g_s0, g_f1, g_s1, g_f2, g_s2, g_f3, g_s3, g_f5, g_s5, g_f6, g_s6, g_f7, g_s7, g_f8, g_s8, g_f9, g_s9, g_f23, g_s23, g_f25, g_s25, g_f28, g_s28, g_f39, g_s39, g_f47, g_s47, gr_ui_eq, gr_ui_2, gr_ul_eq, gr_ul_1, gr_ui_no, gr_ui_ni, gr_ul_no, gr_ul_ni, en, Bool.false_eq_true, hc6, q1, c1]
    refine c7_22 (by simp) g_k0 (by omega) m_out (gx_kn ?_) gx_kx
    by_cases c2 : nm < 0
    · simp only [r7_0, r7_0n, r7_1, r7_5, r7_8, r7_8n, r7_9, r7_12, r7_13, r7_14, r7_15, r7_18, r7_18n, r7_19, r7_20, r7_25, r7_28, r7_28n, r7_29, r7_30, r7_35, r7_38, r7_39, r7_40, r7_40n, r7_41, r7_44, r7_45, r7_46, r7_47, r7_50, r7_50n, r7_51, r7_54, r7_57, r7_58, r7_59, r7_60, r7_62, r7_64, r7_64n, r7_65, r7_68, r7_69, r7_70, r7_73, r7_73n, r7_74, r7_77, r7_78, r7_79, r7_80, r7_82, r7_83, r7_84, r7_85, r7_88, r7_89, r7_90, r7_93, r7_96, r7_96n, r7_97, r7_100, r7_101, r7_102, r7_103, r7_103n, r7_104, r7_107, r7_108, r7_109, r7_110, r7_111, r7_112, r7_112n, r7_113, r7_116, r7_117, r7_118, r7_119, r7_119n, r7_120, r7_123, r7_124, r7_125, r7_126, r7_127, r7_128, r7_128n, r7_129, r7_132, r7_133, r7_134, r7_135, r7_136, r7_137, r7_138, r7_138n, r7_139, r7_142, r7_143, r7_144, i32_10, reduceIte, gm_cmp1, gm_cmp3, gm_cmp4, gm_kd_sf, gm_ln_sf, gm_sf_1, gm_sf_2, gm_nw_1, gm_nw_2, gm_k_int, gm_k_ref, gm_k_null, gm_k_u, gm_k_long, and_true, true_and, true_or, or_true, or_false, false_or, and_self, or_self, if_true, if_false, List.map_nil, List.map_cons, List.sum_nil, List.sum_cons, Nat.zero_le, Option.toList_some, Option.toList_none, List.cons_append, List.nil_append, ne_eq, not_false_eq_true, not_true_eq_false, nI_1, nI_add, Value.category, Nat.reduceAdd, Nat.reduceMod, Nat.reduceLeDiff, Nat.reduceLT, Nat.reduceEqDiff, Nat.reducePow, Nat.le_refl, Nat.add_left_cancel_iff, Nat.add_eq_left, Nat.left_eq_add, Nat.add_zero, c2]
      exact no (Or.inr (Or.inl (Or.inl c2)))
    by_cases c3 : ¬ nm < 26
    · simp only [r7_0, r7_0n, r7_1, r7_5, r7_8, r7_8n, r7_9, r7_12, r7_13, r7_14, r7_15, r7_18, r7_18n, r7_19, r7_20, r7_25, r7_28, r7_28n, r7_29, r7_30, r7_35, r7_38, r7_39, r7_40, r7_40n, r7_41, r7_44, r7_45, r7_46, r7_47, r7_50, r7_50n, r7_51, r7_54, r7_57, r7_58, r7_59, r7_60, r7_62, r7_64, r7_64n, r7_65, r7_68, r7_69, r7_70, r7_73, r7_73n, r7_74, r7_77, r7_78, r7_79, r7_80, r7_82, r7_83, r7_84, r7_85, r7_88, r7_89, r7_90, r7_93, r7_96, r7_96n, r7_97, r7_100, r7_101, r7_102, r7_103, r7_103n, r7_104, r7_107, r7_108, r7_109, r7_110, r7_111, r7_112, r7_112n, r7_113, r7_116, r7_117, r7_118, r7_119, r7_119n, r7_120, r7_123, r7_124, r7_125, r7_126, r7_127, r7_128, r7_128n, r7_129, r7_132, r7_133, r7_134, r7_135, r7_136, r7_137, r7_138, r7_138n, r7_139, r7_142, r7_143, r7_144, i32_10, reduceIte, gm_cmp1, gm_cmp3, gm_cmp4, gm_kd_sf, gm_ln_sf, gm_sf_1, gm_sf_2, gm_nw_1, gm_nw_2, gm_k_int, gm_k_ref, gm_k_null, gm_k_u, gm_k_long, and_true, true_and, true_or, or_true, or_false, false_or, and_self, or_self, if_true, if_false, List.map_nil, List.map_cons, List.sum_nil, List.sum_cons, Nat.zero_le, Option.toList_some, Option.toList_none, List.cons_append, List.nil_append, ne_eq, not_false_eq_true, not_true_eq_false, nI_1, nI_add, Value.category, Nat.reduceAdd, Nat.reduceMod, Nat.reduceLeDiff, Nat.reduceLT, Nat.reduceEqDiff, Nat.reducePow, Nat.le_refl, Nat.add_left_cancel_iff, Nat.add_eq_left, Nat.left_eq_add, Nat.add_zero, c2, c3]
      exact no (Or.inr (Or.inl (Or.inr (Int32.not_lt.mp c3))))
    have c3 : nm < 26 := Decidable.of_not_not c3
    simp only [r7_0, r7_0n, r7_1, r7_5, r7_8, r7_8n, r7_9, r7_12, r7_13, r7_14, r7_15, r7_18, r7_18n, r7_19, r7_20, r7_25, r7_28, r7_28n, r7_29, r7_30, r7_35, r7_38, r7_39, r7_40, r7_40n, r7_41, r7_44, r7_45, r7_46, r7_47, r7_50, r7_50n, r7_51, r7_54, r7_57, r7_58, r7_59, r7_60, r7_62, r7_64, r7_64n, r7_65, r7_68, r7_69, r7_70, r7_73, r7_73n, r7_74, r7_77, r7_78, r7_79, r7_80, r7_82, r7_83, r7_84, r7_85, r7_88, r7_89, r7_90, r7_93, r7_96, r7_96n, r7_97, r7_100, r7_101, r7_102, r7_103, r7_103n, r7_104, r7_107, r7_108, r7_109, r7_110, r7_111, r7_112, r7_112n, r7_113, r7_116, r7_117, r7_118, r7_119, r7_119n, r7_120, r7_123, r7_124, r7_125, r7_126, r7_127, r7_128, r7_128n, r7_129, r7_132, r7_133, r7_134, r7_135, r7_136, r7_137, r7_138, r7_138n, r7_139, r7_142, r7_143, r7_144, i32_10, reduceIte, gm_cmp1, gm_cmp3, gm_cmp4, gm_kd_sf, gm_ln_sf, gm_sf_1, gm_sf_2, gm_nw_1, gm_nw_2, gm_k_int, gm_k_ref, gm_k_null, gm_k_u, gm_k_long, and_true, true_and, true_or, or_true, or_false, false_or, and_self, or_self, if_true, if_false, List.map_nil, List.map_cons, List.sum_nil, List.sum_cons, Nat.zero_le, Option.toList_some, Option.toList_none, List.cons_append, List.nil_append, ne_eq, not_false_eq_true, not_true_eq_false, nI_1, nI_add, Value.category, Nat.reduceAdd, Nat.reduceMod, Nat.reduceLeDiff, Nat.reduceLT, Nat.reduceEqDiff, Nat.reducePow, Nat.le_refl, Nat.add_left_cancel_iff, Nat.add_eq_left, Nat.left_eq_add, Nat.add_zero, c2, c3]
    refine c7_32 (by simp) g_k0 (by omega) m_out (gx_kn ?_) gx_kx
    by_cases c4 : ty < 0
    · simp only [r7_0, r7_0n, r7_1, r7_5, r7_8, r7_8n, r7_9, r7_12, r7_13, r7_14, r7_15, r7_18, r7_18n, r7_19, r7_20, r7_25, r7_28, r7_28n, r7_29, r7_30, r7_35, r7_38, r7_39, r7_40, r7_40n, r7_41, r7_44, r7_45, r7_46, r7_47, r7_50, r7_50n, r7_51, r7_54, r7_57, r7_58, r7_59, r7_60, r7_62, r7_64, r7_64n, r7_65, r7_68, r7_69, r7_70, r7_73, r7_73n, r7_74, r7_77, r7_78, r7_79, r7_80, r7_82, r7_83, r7_84, r7_85, r7_88, r7_89, r7_90, r7_93, r7_96, r7_96n, r7_97, r7_100, r7_101, r7_102, r7_103, r7_103n, r7_104, r7_107, r7_108, r7_109, r7_110, r7_111, r7_112, r7_112n, r7_113, r7_116, r7_117, r7_118, r7_119, r7_119n, r7_120, r7_123, r7_124, r7_125, r7_126, r7_127, r7_128, r7_128n, r7_129, r7_132, r7_133, r7_134, r7_135, r7_136, r7_137, r7_138, r7_138n, r7_139, r7_142, r7_143, r7_144, i32_10, reduceIte, gm_cmp1, gm_cmp3, gm_cmp4, gm_kd_sf, gm_ln_sf, gm_sf_1, gm_sf_2, gm_nw_1, gm_nw_2, gm_k_int, gm_k_ref, gm_k_null, gm_k_u, gm_k_long, and_true, true_and, true_or, or_true, or_false, false_or, and_self, or_self, if_true, if_false, List.map_nil, List.map_cons, List.sum_nil, List.sum_cons, Nat.zero_le, Option.toList_some, Option.toList_none, List.cons_append, List.nil_append, ne_eq, not_false_eq_true, not_true_eq_false, nI_1, nI_add, Value.category, Nat.reduceAdd, Nat.reduceMod, Nat.reduceLeDiff, Nat.reduceLT, Nat.reduceEqDiff, Nat.reducePow, Nat.le_refl, Nat.add_left_cancel_iff, Nat.add_eq_left, Nat.left_eq_add, Nat.add_zero, c4]
      exact no (Or.inr (Or.inr (Or.inl c4)))
    obtain ⟨y, hy, rfl⟩ := nI_of c4
    by_cases c5 : ¬ nI y < 8
    · simp only [r7_0, r7_0n, r7_1, r7_5, r7_8, r7_8n, r7_9, r7_12, r7_13, r7_14, r7_15, r7_18, r7_18n, r7_19, r7_20, r7_25, r7_28, r7_28n, r7_29, r7_30, r7_35, r7_38, r7_39, r7_40, r7_40n, r7_41, r7_44, r7_45, r7_46, r7_47, r7_50, r7_50n, r7_51, r7_54, r7_57, r7_58, r7_59, r7_60, r7_62, r7_64, r7_64n, r7_65, r7_68, r7_69, r7_70, r7_73, r7_73n, r7_74, r7_77, r7_78, r7_79, r7_80, r7_82, r7_83, r7_84, r7_85, r7_88, r7_89, r7_90, r7_93, r7_96, r7_96n, r7_97, r7_100, r7_101, r7_102, r7_103, r7_103n, r7_104, r7_107, r7_108, r7_109, r7_110, r7_111, r7_112, r7_112n, r7_113, r7_116, r7_117, r7_118, r7_119, r7_119n, r7_120, r7_123, r7_124, r7_125, r7_126, r7_127, r7_128, r7_128n, r7_129, r7_132, r7_133, r7_134, r7_135, r7_136, r7_137, r7_138, r7_138n, r7_139, r7_142, r7_143, r7_144, i32_10, reduceIte, gm_cmp1, gm_cmp3, gm_cmp4, gm_kd_sf, gm_ln_sf, gm_sf_1, gm_sf_2, gm_nw_1, gm_nw_2, gm_k_int, gm_k_ref, gm_k_null, gm_k_u, gm_k_long, and_true, true_and, true_or, or_true, or_false, false_or, and_self, or_self, if_true, if_false, List.map_nil, List.map_cons, List.sum_nil, List.sum_cons, Nat.zero_le, Option.toList_some, Option.toList_none, List.cons_append, List.nil_append, ne_eq, not_false_eq_true, not_true_eq_false, nI_1, nI_add, Value.category, Nat.reduceAdd, Nat.reduceMod, Nat.reduceLeDiff, Nat.reduceLT, Nat.reduceEqDiff, Nat.reducePow, Nat.le_refl, Nat.add_left_cancel_iff, Nat.add_eq_left, Nat.left_eq_add, Nat.add_zero, c4, c5]
      refine no (Or.inr (Or.inr (Or.inr (Or.inl ?_))))
      have := (nI_leI (a := 8) (by decide) hy).mp (Int32.not_lt.mp c5)
      exact nI_lt (a := 7) (by omega) hy
    have c5 : nI y < 8 := Decidable.of_not_not c5
    have c5' : ¬ (7 : Int32) < nI y := nI_nlt (b := y) (a := 7) (by have := (nI_ltI (b := 8) hy (by decide)).mp c5; omega) (by decide)
    have e4 : (nI (gs_fs C).length = 4) = ((gs_fs C).length = 4) := propext (nI_eq (b := 4) (by omega) (by decide))
    by_cases c7 : (gs_fs C).length = 4
    · simp only [r7_0, r7_0n, r7_1, r7_5, r7_8, r7_8n, r7_9, r7_12, r7_13, r7_14, r7_15, r7_18, r7_18n, r7_19, r7_20, r7_25, r7_28, r7_28n, r7_29, r7_30, r7_35, r7_38, r7_39, r7_40, r7_40n, r7_41, r7_44, r7_45, r7_46, r7_47, r7_50, r7_50n, r7_51, r7_54, r7_57, r7_58, r7_59, r7_60, r7_62, r7_64, r7_64n, r7_65, r7_68, r7_69, r7_70, r7_73, r7_73n, r7_74, r7_77, r7_78, r7_79, r7_80, r7_82, r7_83, r7_84, r7_85, r7_88, r7_89, r7_90, r7_93, r7_96, r7_96n, r7_97, r7_100, r7_101, r7_102, r7_103, r7_103n, r7_104, r7_107, r7_108, r7_109, r7_110, r7_111, r7_112, r7_112n, r7_113, r7_116, r7_117, r7_118, r7_119, r7_119n, r7_120, r7_123, r7_124, r7_125, r7_126, r7_127, r7_128, r7_128n, r7_129, r7_132, r7_133, r7_134, r7_135, r7_136, r7_137, r7_138, r7_138n, r7_139, r7_142, r7_143, r7_144, i32_10, reduceIte, gm_cmp1, gm_cmp3, gm_cmp4, gm_kd_sf, gm_ln_sf, gm_sf_1, gm_sf_2, gm_nw_1, gm_nw_2, gm_k_int, gm_k_ref, gm_k_null, gm_k_u, gm_k_long, and_true, true_and, true_or, or_true, or_false, false_or, and_self, or_self, if_true, if_false, List.map_nil, List.map_cons, List.sum_nil, List.sum_cons, Nat.zero_le, Option.toList_some, Option.toList_none, List.cons_append, List.nil_append, ne_eq, not_false_eq_true, not_true_eq_false, nI_1, nI_add, Value.category, Nat.reduceAdd, Nat.reduceMod, Nat.reduceLeDiff, Nat.reduceLT, Nat.reduceEqDiff, Nat.reducePow, Nat.le_refl, Nat.add_left_cancel_iff, Nat.add_eq_left, Nat.left_eq_add, Nat.add_zero, g_k0, g_k1, g_l1, g_p4, g_a1, g_w1, g_k2, g_l2, g_p10, g_a2, g_w2, g_k3, g_l3, g_p11, g_a3, g_w3, g_k4, g_l4, g_p12, g_a4, g_w4, g_k5, g_l5, g_p13, g_a5, g_w5, g_k6, g_l6, g_p14, g_a6, g_w6, g_k7, g_l7, g_p15, g_a7, g_w7, g_k8, g_l8, g_p16, g_a8, g_w8, g_k9, g_l9, g_p17, g_a9, g_w9, g_k10, g_l10, g_p18, g_a10, g_w10, g_k11, g_l11, g_p19, g_a11, g_w11, g_k12, g_l12, g_p20, g_a12, g_w12, g_k13, g_l13, g_p21, g_a13, g_w13, g_k14, g_l14, g_p22, g_a14, g_w14, g_k15, g_l15, g_p24, g_a15, g_w15, g_k16, g_l16, g_p26, g_a16, g_w16, g_k17, g_l17, g_p27, g_a17, g_w17, g_k18, g_l18, g_p29, g_a18, g_w18, g_k19, g_l19, g_p30, g_a19, g_w19, g_k20, g_l20, g_p31, g_a20, g_w20, g_k21, g_l21, g_p32, g_a21, g_w21, g_k22, g_l22, g_p33, g_a22, g_w22, g_k23, g_l23, g_p34, g_a23, g_w23, g_k24, g_l24, g_p35, g_a24, g_w24, g_k25, g_l25, g_p36, g_a25, g_w25, g_k26, g_l26, g_p37, g_a26, g_w26, g_k27, g_l27, g_p38, g_a27, g_w27, g_k28, g_l28, g_p40, g_a28, g_w28, g_k29, g_l29, g_p41, g_a29, g_w29, g_k30, g_l30, g_p42, g_a30, g_w30, g_k31, g_l31, g_p43, g_a31, g_w31, g_k32, g_l32, g_p44, g_a32, g_w32, g_k33, g_l33, g_p45, g_a33, g_w33, g_k34, g_l34, g_p46, g_a34, g_w34, g_f0, g_s0, g_f1, g_s1, g_f2, g_s2, g_f3, g_s3, g_f5, g_s5, g_f6, g_s6, g_f7, g_s7, g_f8, g_s8, g_f9, g_s9, g_f23, g_s23, g_f25, g_s25, g_f28, g_s28, g_f39, g_s39, g_f47, g_s47, gr_ui_eq, gr_ui_2, gr_ul_eq, gr_ul_1, gr_ui_no, gr_ui_ni, gr_ul_no, gr_ul_ni, c4, c5, hc6, q5, e4, c7]
      exact no (Or.inr (Or.inr (Or.inr (Or.inr (Or.inr (Or.inl c7))))))
    by_cases c6 : gs_hp s ≠ []
    · have l6 : ¬ nI (gs_hp s).length ≤ 0 := nI_ge (a := 0) (List.length_pos_iff.mpr c6) (by omega)
      simp only [r7_0, r7_0n, r7_1, r7_5, r7_8, r7_8n, r7_9, r7_12, r7_13, r7_14, r7_15, r7_18, r7_18n, r7_19, r7_20, r7_25, r7_28, r7_28n, r7_29, r7_30, r7_35, r7_38, r7_39, r7_40, r7_40n, r7_41, r7_44, r7_45, r7_46, r7_47, r7_50, r7_50n, r7_51, r7_54, r7_57, r7_58, r7_59, r7_60, r7_62, r7_64, r7_64n, r7_65, r7_68, r7_69, r7_70, r7_73, r7_73n, r7_74, r7_77, r7_78, r7_79, r7_80, r7_82, r7_83, r7_84, r7_85, r7_88, r7_89, r7_90, r7_93, r7_96, r7_96n, r7_97, r7_100, r7_101, r7_102, r7_103, r7_103n, r7_104, r7_107, r7_108, r7_109, r7_110, r7_111, r7_112, r7_112n, r7_113, r7_116, r7_117, r7_118, r7_119, r7_119n, r7_120, r7_123, r7_124, r7_125, r7_126, r7_127, r7_128, r7_128n, r7_129, r7_132, r7_133, r7_134, r7_135, r7_136, r7_137, r7_138, r7_138n, r7_139, r7_142, r7_143, r7_144, i32_10, reduceIte, gm_cmp1, gm_cmp3, gm_cmp4, gm_kd_sf, gm_ln_sf, gm_sf_1, gm_sf_2, gm_nw_1, gm_nw_2, gm_k_int, gm_k_ref, gm_k_null, gm_k_u, gm_k_long, and_true, true_and, true_or, or_true, or_false, false_or, and_self, or_self, if_true, if_false, List.map_nil, List.map_cons, List.sum_nil, List.sum_cons, Nat.zero_le, Option.toList_some, Option.toList_none, List.cons_append, List.nil_append, ne_eq, not_false_eq_true, not_true_eq_false, nI_1, nI_add, Value.category, Nat.reduceAdd, Nat.reduceMod, Nat.reduceLeDiff, Nat.reduceLT, Nat.reduceEqDiff, Nat.reducePow, Nat.le_refl, Nat.add_left_cancel_iff, Nat.add_eq_left, Nat.left_eq_add, Nat.add_zero, g_k0, g_k1, g_l1, g_p4, g_a1, g_w1, g_k2, g_l2, g_p10, g_a2, g_w2, g_k3, g_l3, g_p11, g_a3, g_w3, g_k4, g_l4, g_p12, g_a4, g_w4, g_k5, g_l5, g_p13, g_a5, g_w5, g_k6, g_l6, g_p14, g_a6, g_w6, g_k7, g_l7, g_p15, g_a7, g_w7, g_k8, g_l8, g_p16, g_a8, g_w8, g_k9, g_l9, g_p17, g_a9, g_w9, g_k10, g_l10, g_p18, g_a10, g_w10, g_k11, g_l11, g_p19, g_a11, g_w11, g_k12, g_l12, g_p20, g_a12, g_w12, g_k13, g_l13, g_p21, g_a13, g_w13, g_k14, g_l14, g_p22, g_a14, g_w14, g_k15, g_l15, g_p24, g_a15, g_w15, g_k16, g_l16, g_p26, g_a16, g_w16, g_k17, g_l17, g_p27, g_a17, g_w17, g_k18, g_l18, g_p29, g_a18, g_w18, g_k19, g_l19, g_p30, g_a19, g_w19, g_k20, g_l20, g_p31, g_a20, g_w20, g_k21, g_l21, g_p32, g_a21, g_w21, g_k22, g_l22, g_p33, g_a22, g_w22, g_k23, g_l23, g_p34, g_a23, g_w23, g_k24, g_l24, g_p35, g_a24, g_w24, g_k25, g_l25, g_p36, g_a25, g_w25, g_k26, g_l26, g_p37, g_a26, g_w26, g_k27, g_l27, g_p38, g_a27, g_w27, g_k28, g_l28, g_p40, g_a28, g_w28, g_k29, g_l29, g_p41, g_a29, g_w29, g_k30, g_l30, g_p42, g_a30, g_w30, g_k31, g_l31, g_p43, g_a31, g_w31, g_k32, g_l32, g_p44, g_a32, g_w32, g_k33, g_l33, g_p45, g_a33, g_w33, g_k34, g_l34, g_p46, g_a34, g_w34, g_f0, g_s0, g_f1, g_s1, g_f2, g_s2, g_f3, g_s3, g_f5, g_s5, g_f6, g_s6, g_f7, g_s7, g_f8, g_s8, g_f9, g_s9, g_f23, g_s23, g_f25, g_s25, g_f28, g_s28, g_f39, g_s39, g_f47, g_s47, gr_ui_eq, gr_ui_2, gr_ul_eq, gr_ul_1, gr_ui_no, gr_ui_ni, gr_ul_no, gr_ul_ni, c4, c5, hc6, q5, e4, c7, hh, l6]
      exact no (Or.inr (Or.inr (Or.inr (Or.inr (Or.inl c6)))))
    have c6' : gs_hp s = [] := Decidable.of_not_not c6
    have l6 : nI (gs_hp s).length ≤ 0 := by rw [c6']; decide
    have l24 : ∀ j, j < 4 → 4 * c + j < 24 := fun j hj => by omega
    have loop : ∀ (j i : Nat), i + j = (gs_fs C).length → (∀ a (ha : a < (gs_fs C).length), a < i → ¬ (gs_fs C)[a].1 = nm) → gm_W E d 7 62 [.ref m, .int (nI c), .int nm, .int (nI y), .int (nI i)] [] (gr_H h m t) Q := by
      intro j
      induction j with
      | zero =>
        intro i hi hall
        have hi : i = (gs_fs C).length := by omega
        subst hi
        have hix : gs_ix (gs_fs C) nm = none := by
          unfold gs_ix
          rw [List.findIdx?_eq_none_iff]
          intro q hq
          obtain ⟨a, ha, rfl⟩ := List.getElem_of_mem hq
          simpa using hall a ha ha
        have l2 : 4 * c + (gs_fs C).length < 24 := l24 _ (by omega)
        simp only [r7_0, r7_0n, r7_1, r7_5, r7_8, r7_8n, r7_9, r7_12, r7_13, r7_14, r7_15, r7_18, r7_18n, r7_19, r7_20, r7_25, r7_28, r7_28n, r7_29, r7_30, r7_35, r7_38, r7_39, r7_40, r7_40n, r7_41, r7_44, r7_45, r7_46, r7_47, r7_50, r7_50n, r7_51, r7_54, r7_57, r7_58, r7_59, r7_60, r7_62, r7_64, r7_64n, r7_65, r7_68, r7_69, r7_70, r7_73, r7_73n, r7_74, r7_77, r7_78, r7_79, r7_80, r7_82, r7_83, r7_84, r7_85, r7_88, r7_89, r7_90, r7_93, r7_96, r7_96n, r7_97, r7_100, r7_101, r7_102, r7_103, r7_103n, r7_104, r7_107, r7_108, r7_109, r7_110, r7_111, r7_112, r7_112n, r7_113, r7_116, r7_117, r7_118, r7_119, r7_119n, r7_120, r7_123, r7_124, r7_125, r7_126, r7_127, r7_128, r7_128n, r7_129, r7_132, r7_133, r7_134, r7_135, r7_136, r7_137, r7_138, r7_138n, r7_139, r7_142, r7_143, r7_144, i32_10, reduceIte, gm_cmp1, gm_cmp3, gm_cmp4, gm_kd_sf, gm_ln_sf, gm_sf_1, gm_sf_2, gm_nw_1, gm_nw_2, gm_k_int, gm_k_ref, gm_k_null, gm_k_u, gm_k_long, and_true, true_and, true_or, or_true, or_false, false_or, and_self, or_self, if_true, if_false, List.map_nil, List.map_cons, List.sum_nil, List.sum_cons, Nat.zero_le, Option.toList_some, Option.toList_none, List.cons_append, List.nil_append, ne_eq, not_false_eq_true, not_true_eq_false, nI_1, nI_add, Value.category, Nat.reduceAdd, Nat.reduceMod, Nat.reduceLeDiff, Nat.reduceLT, Nat.reduceEqDiff, Nat.reducePow, Nat.le_refl, Nat.add_left_cancel_iff, Nat.add_eq_left, Nat.left_eq_add, Nat.add_zero, g_k0, g_k1, g_l1, g_p4, g_a1, g_w1, g_k2, g_l2, g_p10, g_a2, g_w2, g_k3, g_l3, g_p11, g_a3, g_w3, g_k4, g_l4, g_p12, g_a4, g_w4, g_k5, g_l5, g_p13, g_a5, g_w5, g_k6, g_l6, g_p14, g_a6, g_w6, g_k7, g_l7, g_p15, g_a7, g_w7, g_k8, g_l8, g_p16, g_a8, g_w8, g_k9, g_l9, g_p17, g_a9, g_w9, g_k10, g_l10, g_p18, g_a10, g_w10, g_k11, g_l11, g_p19, g_a11, g_w11, g_k12, g_l12, g_p20, g_a12, g_w12, g_k13, g_l13, g_p21, g_a13, g_w13, g_k14, g_l14, g_p22, g_a14, g_w14, g_k15, g_l15, g_p24, g_a15, g_w15, g_k16, g_l16, g_p26, g_a16, g_w16, g_k17, g_l17, g_p27, g_a17, g_w17, g_k18, g_l18, g_p29, g_a18, g_w18, g_k19, g_l19, g_p30, g_a19, g_w19, g_k20, g_l20, g_p31, g_a20, g_w20, g_k21, g_l21, g_p32, g_a21, g_w21, g_k22, g_l22, g_p33, g_a22, g_w22, g_k23, g_l23, g_p34, g_a23, g_w23, g_k24, g_l24, g_p35, g_a24, g_w24, g_k25, g_l25, g_p36, g_a25, g_w25, g_k26, g_l26, g_p37, g_a26, g_w26, g_k27, g_l27, g_p38, g_a27, g_w27, g_k28, g_l28, g_p40, g_a28, g_w28, g_k29, g_l29, g_p41, g_a29, g_w29, g_k30, g_l30, g_p42, g_a30, g_w30, g_k31, g_l31, g_p43, g_a31, g_w31, g_k32, g_l32, g_p44, g_a32, g_w32, g_k33, g_l33, g_p45, g_a33, g_w33, g_k34, g_l34, g_p46, g_a34, g_w34, g_f0, g_s0, g_f1, g_s1, g_f2, g_s2, g_f3, g_s3, g_f5, g_s5, g_f6, g_s6, g_f7, g_s7, g_f8, g_s8, g_f9, g_s9, g_f23, g_s23, g_f25, g_s25, g_f28, g_s28, g_f39, g_s39, g_f47, g_s47, gr_ui_eq, gr_ui_2, gr_ul_eq, gr_ul_1, gr_ui_no, gr_ui_ni, gr_ul_no, gr_ul_ni, hc6, q5, nI_leT (Nat.le_refl (gs_fs C).length) (show (gs_fs C).length < 2 ^ 31 by omega), i4m, l2]
        have p : ¬ (gs_kind C = 3 ∨ (nm < 0 ∨ 26 ≤ nm) ∨ nI y < 0 ∨ 7 < nI y ∨ gs_hp s ≠ [] ∨ (gs_fs C).length = 4 ∨ (gs_ix (gs_fs C) nm).isSome = true) := by
          rintro (z | (z | z) | z | z | z | z | z)
          · exact c1 z
          · exact c2 z
          · exact absurd c3 (Int32.not_lt.mpr z)
          · exact c4 z
          · exact c5' z
          · exact c6 z
          · exact c7 z
          · rw [hix] at z; cases z
        rw [hQ, if_neg p, if_neg p]
        exact ⟨rfl, rfl⟩
      | succ j ih =>
        intro i hi hall
        have hil : i < (gs_fs C).length := by omega
        have l2 : 4 * c + i < 24 := l24 _ (by omega)
        have f6 := (q9 i _ (List.getElem?_eq_getElem hil)).1
        rw [r7_62]
        simp only [r7_0, r7_0n, r7_1, r7_5, r7_8, r7_8n, r7_9, r7_12, r7_13, r7_14, r7_15, r7_18, r7_18n, r7_19, r7_20, r7_25, r7_28, r7_28n, r7_29, r7_30, r7_35, r7_38, r7_39, r7_40, r7_40n, r7_41, r7_44, r7_45, r7_46, r7_47, r7_50, r7_50n, r7_51, r7_54, r7_57, r7_58, r7_59, r7_60, r7_64, r7_64n, r7_65, r7_68, r7_69, r7_70, r7_73, r7_73n, r7_74, r7_77, r7_78, r7_79, r7_80, r7_82, r7_83, r7_84, r7_85, r7_88, r7_89, r7_90, r7_93, r7_96, r7_96n, r7_97, r7_100, r7_101, r7_102, r7_103, r7_103n, r7_104, r7_107, r7_108, r7_109, r7_110, r7_111, r7_112, r7_112n, r7_113, r7_116, r7_117, r7_118, r7_119, r7_119n, r7_120, r7_123, r7_124, r7_125, r7_126, r7_127, r7_128, r7_128n, r7_129, r7_132, r7_133, r7_134, r7_135, r7_136, r7_137, r7_138, r7_138n, r7_139, r7_142, r7_143, r7_144, i32_10, reduceIte, gm_cmp1, gm_cmp3, gm_cmp4, gm_kd_sf, gm_ln_sf, gm_sf_1, gm_sf_2, gm_nw_1, gm_nw_2, gm_k_int, gm_k_ref, gm_k_null, gm_k_u, gm_k_long, and_true, true_and, true_or, or_true, or_false, false_or, and_self, or_self, if_true, if_false, List.map_nil, List.map_cons, List.sum_nil, List.sum_cons, Nat.zero_le, Option.toList_some, Option.toList_none, List.cons_append, List.nil_append, ne_eq, not_false_eq_true, not_true_eq_false, nI_1, nI_add, Value.category, Nat.reduceAdd, Nat.reduceMod, Nat.reduceLeDiff, Nat.reduceLT, Nat.reduceEqDiff, Nat.reducePow, Nat.le_refl, Nat.add_left_cancel_iff, Nat.add_eq_left, Nat.left_eq_add, Nat.add_zero, g_k0, g_k1, g_l1, g_p4, g_a1, g_w1, g_k2, g_l2, g_p10, g_a2, g_w2, g_k3, g_l3, g_p11, g_a3, g_w3, g_k4, g_l4, g_p12, g_a4, g_w4, g_k5, g_l5, g_p13, g_a5, g_w5, g_k6, g_l6, g_p14, g_a6, g_w6, g_k7, g_l7, g_p15, g_a7, g_w7, g_k8, g_l8, g_p16, g_a8, g_w8, g_k9, g_l9, g_p17, g_a9, g_w9, g_k10, g_l10, g_p18, g_a10, g_w10, g_k11, g_l11, g_p19, g_a11, g_w11, g_k12, g_l12, g_p20, g_a12, g_w12, g_k13, g_l13, g_p21, g_a13, g_w13, g_k14, g_l14, g_p22, g_a14, g_w14, g_k15, g_l15, g_p24, g_a15, g_w15, g_k16, g_l16, g_p26, g_a16, g_w16, g_k17, g_l17, g_p27, g_a17, g_w17, g_k18, g_l18, g_p29, g_a18, g_w18, g_k19, g_l19, g_p30, g_a19, g_w19, g_k20, g_l20, g_p31, g_a20, g_w20, g_k21, g_l21, g_p32, g_a21, g_w21, g_k22, g_l22, g_p33, g_a22, g_w22, g_k23, g_l23, g_p34, g_a23, g_w23, g_k24, g_l24, g_p35, g_a24, g_w24, g_k25, g_l25, g_p36, g_a25, g_w25, g_k26, g_l26, g_p37, g_a26, g_w26, g_k27, g_l27, g_p38, g_a27, g_w27, g_k28, g_l28, g_p40, g_a28, g_w28, g_k29, g_l29, g_p41, g_a29, g_w29, g_k30, g_l30, g_p42, g_a30, g_w30, g_k31, g_l31, g_p43, g_a31, g_w31, g_k32, g_l32, g_p44, g_a32, g_w32, g_k33, g_l33, g_p45, g_a33, g_w33, g_k34, g_l34, g_p46, g_a34, g_w34, g_f0, g_s0, g_f1, g_s1, g_f2, g_s2, g_f3, g_s3, g_f5, g_s5, g_f6, g_s6, g_f7, g_s7, g_f8, g_s8, g_f9, g_s9, g_f23, g_s23, g_f25, g_s25, g_f28, g_s28, g_f39, g_s39, g_f47, g_s47, gr_ui_eq, gr_ui_2, gr_ul_eq, gr_ul_1, gr_ui_no, gr_ui_ni, gr_ul_no, gr_ul_ni, hc6, q5, nI_leF hil (show (gs_fs C).length < 2 ^ 31 by omega), i4m, l2, f6]
        by_cases ev : (gs_fs C)[i].1 = nm
        · simp only [ev, reduceIte]
          refine no (Or.inr (Or.inr (Or.inr (Or.inr (Or.inr (Or.inr ?_))))))
          have hix : gs_ix (gs_fs C) nm = some i := by
            unfold gs_ix
            rw [List.findIdx?_eq_some_iff_getElem]
            exact ⟨hil, by simpa using ev, fun a ha => by simpa using hall a (by omega) ha⟩
          rw [hix]; rfl
        · simp only [ev, reduceIte]
          refine ih (i + 1) (by omega) (fun a ha hai => ?_)
          by_cases ea : a = i
          · subst ea; exact ev
          · exact hall a ha (by omega)
    simp only [r7_0, r7_0n, r7_1, r7_5, r7_8, r7_8n, r7_9, r7_12, r7_13, r7_14, r7_15, r7_18, r7_18n, r7_19, r7_20, r7_25, r7_28, r7_28n, r7_29, r7_30, r7_35, r7_38, r7_39, r7_40, r7_40n, r7_41, r7_44, r7_45, r7_46, r7_47, r7_50, r7_50n, r7_51, r7_54, r7_57, r7_58, r7_59, r7_60, r7_64, r7_64n, r7_65, r7_68, r7_69, r7_70, r7_73, r7_73n, r7_74, r7_77, r7_78, r7_79, r7_80, r7_82, r7_83, r7_84, r7_85, r7_88, r7_89, r7_90, r7_93, r7_96, r7_96n, r7_97, r7_100, r7_101, r7_102, r7_103, r7_103n, r7_104, r7_107, r7_108, r7_109, r7_110, r7_111, r7_112, r7_112n, r7_113, r7_116, r7_117, r7_118, r7_119, r7_119n, r7_120, r7_123, r7_124, r7_125, r7_126, r7_127, r7_128, r7_128n, r7_129, r7_132, r7_133, r7_134, r7_135, r7_136, r7_137, r7_138, r7_138n, r7_139, r7_142, r7_143, r7_144, i32_10, reduceIte, gm_cmp1, gm_cmp3, gm_cmp4, gm_kd_sf, gm_ln_sf, gm_sf_1, gm_sf_2, gm_nw_1, gm_nw_2, gm_k_int, gm_k_ref, gm_k_null, gm_k_u, gm_k_long, and_true, true_and, true_or, or_true, or_false, false_or, and_self, or_self, if_true, if_false, List.map_nil, List.map_cons, List.sum_nil, List.sum_cons, Nat.zero_le, Option.toList_some, Option.toList_none, List.cons_append, List.nil_append, ne_eq, not_false_eq_true, not_true_eq_false, nI_1, nI_add, Value.category, Nat.reduceAdd, Nat.reduceMod, Nat.reduceLeDiff, Nat.reduceLT, Nat.reduceEqDiff, Nat.reducePow, Nat.le_refl, Nat.add_left_cancel_iff, Nat.add_eq_left, Nat.left_eq_add, Nat.add_zero, g_k0, g_k1, g_l1, g_p4, g_a1, g_w1, g_k2, g_l2, g_p10, g_a2, g_w2, g_k3, g_l3, g_p11, g_a3, g_w3, g_k4, g_l4, g_p12, g_a4, g_w4, g_k5, g_l5, g_p13, g_a5, g_w5, g_k6, g_l6, g_p14, g_a6, g_w6, g_k7, g_l7, g_p15, g_a7, g_w7, g_k8, g_l8, g_p16, g_a8, g_w8, g_k9, g_l9, g_p17, g_a9, g_w9, g_k10, g_l10, g_p18, g_a10, g_w10, g_k11, g_l11, g_p19, g_a11, g_w11, g_k12, g_l12, g_p20, g_a12, g_w12, g_k13, g_l13, g_p21, g_a13, g_w13, g_k14, g_l14, g_p22, g_a14, g_w14, g_k15, g_l15, g_p24, g_a15, g_w15, g_k16, g_l16, g_p26, g_a16, g_w16, g_k17, g_l17, g_p27, g_a17, g_w17, g_k18, g_l18, g_p29, g_a18, g_w18, g_k19, g_l19, g_p30, g_a19, g_w19, g_k20, g_l20, g_p31, g_a20, g_w20, g_k21, g_l21, g_p32, g_a21, g_w21, g_k22, g_l22, g_p33, g_a22, g_w22, g_k23, g_l23, g_p34, g_a23, g_w23, g_k24, g_l24, g_p35, g_a24, g_w24, g_k25, g_l25, g_p36, g_a25, g_w25, g_k26, g_l26, g_p37, g_a26, g_w26, g_k27, g_l27, g_p38, g_a27, g_w27, g_k28, g_l28, g_p40, g_a28, g_w28, g_k29, g_l29, g_p41, g_a29, g_w29, g_k30, g_l30, g_p42, g_a30, g_w30, g_k31, g_l31, g_p43, g_a31, g_w31, g_k32, g_l32, g_p44, g_a32, g_w32, g_k33, g_l33, g_p45, g_a33, g_w33, g_k34, g_l34, g_p46, g_a34, g_w34, g_f0, g_s0, g_f1, g_s1, g_f2, g_s2, g_f3, g_s3, g_f5, g_s5, g_f6, g_s6, g_f7, g_s7, g_f8, g_s8, g_f9, g_s9, g_f23, g_s23, g_f25, g_s25, g_f28, g_s28, g_f39, g_s39, g_f47, g_s47, gr_ui_eq, gr_ui_2, gr_ul_eq, gr_ul_1, gr_ui_no, gr_ui_ni, gr_ul_no, gr_ul_ni, c4, c5, hc6, q5, e4, c7, hh, l6]
    exact loop (gs_fs C).length 0 (by omega) (fun a _ z => by omega)
end M6
/-! THE REFERENCE, 6: a new one (by program: genm2.py). -/
theorem gr_p_le : ∀ i, i < 48 → gr_p i ≤ 34 := by decide
def gr_d0 (f : Nat) : Value := if gr_p f = 0 then .int 0 else .null
/-- so many arrays made -/
def gr_I (h0 h : gm_H) (m j : Nat) : Prop := h.1 = m + 1 + j ∧ gm_kd h m = 5 ∧ (∀ o, 1 ≤ o → o ≤ j → gm_rd h (m + o) = some (gr_k o, List.replicate (gr_l o) (if gr_lg o = true then .long 0 else .int 0))) ∧ (∀ f, f < 48 → gm_fv h m f = if gr_p f ≠ 0 ∧ gr_p f ≤ j then .ref (m + gr_p f) else gr_d0 f) ∧ ∀ b, b < m → gm_rd h b = gm_rd h0 b
section M7
variable {E : Nat → Value} {d m : Nat} {h h0 : gm_H} {t : gr_t}
theorem gr_I.al {j f k n : Nat} {v : Value} (I : gr_I h0 h m j) (hf : f < 48) (h1 : gr_p f = j + 1) (h2 : ∀ f', f' < 48 → gr_p f' = j + 1 → f' = f) (h3 : gr_k (j + 1) = k) (h4 : gr_l (j + 1) = n) (h5 : v = if gr_lg (j + 1) = true then .long 0 else .int 0) : gr_I h0 (gx_al h m f (k, List.replicate n v) n) m (j + 1) := by
  obtain ⟨c, k5, ar, fl, lo⟩ := I
  have lm : gm_ln h m = 48 := gm_kd_ln k5 (by decide)
  refine ⟨by rw [al_1.1, c]; omega, by rw [al_kd (by omega)]; exact k5, fun o o1 o2 => ?_, fun f' hf' => ?_, fun b hb => by rw [al_rd (by omega) (by omega)]; exact lo b hb⟩
  · by_cases e : o = j + 1
    · subst e
      have e1 : m + (j + 1) = h.1 := by omega
      rw [e1]
      unfold gx_al
      rw [gm_rd_sfn (by omega), gm_rd_nw, if_pos rfl, h3, h4, h5]
    · rw [al_rd (by omega) (by omega)]
      exact ar o o1 (by omega)
  · by_cases e : f' = f
    · subst e
      have e2 : h.1 = m + (j + 1) := by omega
      rw [al_fk (by omega) (by omega), e2, h1, if_pos ⟨by omega, Nat.le_refl _⟩]
    · rw [al_fj (Or.inr e) (by omega), fl f' hf']
      have hne : gr_p f' ≠ j + 1 := fun z => e (h2 f' hf' z)
      by_cases z : gr_p f' ≠ 0 ∧ gr_p f' ≤ j
      · rw [if_pos z, if_pos ⟨z.1, by omega⟩]
      · rw [if_neg z, if_neg (fun y => z ⟨y.1, by omega⟩)]
/-- all made: the reference's own form -/
theorem gr_I.done (I : gr_I h0 h m 34) : h = gr_H h m (fun _ _ => 0, fun _ _ => 0) := by
  obtain ⟨c, k5, ar, fl, lo⟩ := I
  obtain ⟨vs, v1, v2, v3, v4⟩ := gm_kd_rd k5 (by decide)
  have vl : vs.length = 48 := v3 (by decide)
  unfold gr_H
  refine Prod.ext rfl (Prod.ext rfl ?_)
  funext b
  dsimp only
  by_cases hb : m ≤ b ∧ b ≤ m + 34
  · rw [if_pos hb]
    by_cases e : b = m
    · subst e
      show gm_rd h b = _
      rw [v1, Nat.sub_self]
      show some (5, vs) = some (5, _)
      congr 2
      apply List.ext_getElem?
      intro i
      by_cases hi : i < 48
      · have := (v4 i).symm.trans (fl i hi)
        rw [List.getD_eq_getElem?_getD, List.getElem?_eq_getElem (by omega)] at this
        rw [List.getElem?_eq_getElem (by omega), List.getElem?_map, List.getElem?_range (show i < gr_l 0 from hi)]
        have this : vs[i] = _ := this
        rw [this]
        show some _ = some (gr_v b (fun _ _ => 0, fun _ _ => 0) 0 i)
        unfold gr_v gr_d0
        rw [if_pos rfl]
        by_cases z : gr_p i = 0
        · rw [if_neg (fun y => y.1 z), if_pos z, if_pos z]
        · have hle : gr_p i ≤ 34 := gr_p_le i hi
          rw [if_pos ⟨z, hle⟩, if_neg z]
      · rw [List.getElem?_eq_none (by omega), List.getElem?_eq_none (by simp; exact Nat.le_of_not_lt hi)]
    · obtain ⟨o, rfl⟩ : ∃ o, b = m + o := ⟨b - m, by omega⟩
      show gm_rd h (m + o) = _
      rw [ar o (by omega) (by omega), Nat.add_sub_cancel_left]
      congr 2
      apply List.ext_getElem?
      intro i
      rw [List.getElem?_replicate, List.getElem?_map]
      by_cases hi : i < gr_l o
      · rw [if_pos hi, List.getElem?_range hi]
        show some _ = some (gr_v m (fun _ _ => 0, fun _ _ => 0) o i)
        unfold gr_v
        rw [if_neg (show ¬ o = 0 by omega)]
      · rw [if_neg hi, List.getElem?_eq_none (by simp; omega)]
        rfl
  · rw [if_neg hb]
def gr_x0 (h : gm_H) : gm_H := gm_nw h (5, [.int 0, .int 0, .int 0, .int 0, .null, .int 0, .int 0, .int 0, .int 0, .int 0, .null, .null, .null, .null, .null, .null, .null, .null, .null, .null, .null, .null, .null, .int 0, .null, .int 0, .null, .null, .int 0, .null, .null, .null, .null, .null, .null, .null, .null, .null, .null, .int 0, .null, .null, .null, .null, .null, .null, .null, .int 0]) 48
/-- the first state of the reference, its limits left out -/
theorem m_new0 {p q r u : Int32} {Q : gm_R → gm_H → Prop} (K : ∀ hF : gm_H, hF.1 = h.1 + 35 → hF.2.1 = h.2.1 + 12392 → (∀ b, b < h.1 → gm_rd hF b = gm_rd h b) → gm_W E d 2 295 [.ref h.1, .int p, .int q, .int r, .int u, gm_u] [] (gr_H hF h.1 (fun _ _ => 0, fun _ _ => 0)) Q) : gm_Ca E d 2 [.ref h.1, .int p, .int q, .int r, .int u] (gr_x0 h) Q := by
  obtain ⟨m, hm⟩ : ∃ m, m = h.1 := ⟨_, rfl⟩
  rw [← hm] at K ⊢
  obtain ⟨g0, e0⟩ : ∃ g0, g0 = gr_x0 h := ⟨_, rfl⟩
  rw [← e0]
  have I0 : gr_I h g0 m 0 := by
    refine ⟨by rw [e0, hm]; rfl, by rw [e0, hm]; unfold gr_x0; rw [gm_kd_nw1]; rfl, fun o o1 o2 => absurd o2 (by omega), fun f hf => ?_, fun b hb => by rw [e0]; exact gm_rd_nwn (by omega)⟩
    rw [e0, hm]
    unfold gr_x0
    rw [gm_fv_nw1, if_neg (by omega)]
    revert hf
    revert f
    decide
  have s0 : g0.2.1 = h.2.1 + 48 := by rw [e0]; rfl
  clear e0
  show gm_W E d 2 0 [.ref m, .int p, .int q, .int r, .int u, gm_u] [] g0 Q
  rw [r2_0, r2_1 (by simp)]
  rw [r2_4, r2_5, r2_8, r2_10 (by rw [gm_kd_nw (by have := I0.1; omega)]; exact I0.2.1)]
  have I1 := I0.al (f := 4) (k := 200) (n := 720) (v := .int 0) (by decide) (by decide) (by decide) (by decide) (by decide) rfl
  have s1 : (gx_al g0 m 4 (200, List.replicate 720 (.int 0)) 720).2.1 = h.2.1 + 768 := by rw [al_1.2, s0]
  show gm_W E d 2 13 [.ref m, .int p, .int q, .int r, .int u, gm_u] [] (gx_al g0 m 4 (200, List.replicate 720 (.int 0)) 720) Q
  generalize gx_al g0 m 4 (200, List.replicate 720 (.int 0)) 720 = g1 at I1 s1 ⊢
  rw [r2_13, r2_14, r2_16, r2_18 (by rw [gm_kd_nw (by have := I1.1; omega)]; exact I1.2.1)]
  have I2 := I1.al (f := 10) (k := 200) (n := 6) (v := .int 0) (by decide) (by decide) (by decide) (by decide) (by decide) rfl
  have s2 : (gx_al g1 m 10 (200, List.replicate 6 (.int 0)) 6).2.1 = h.2.1 + 774 := by rw [al_1.2, s1]
  show gm_W E d 2 21 [.ref m, .int p, .int q, .int r, .int u, gm_u] [] (gx_al g1 m 10 (200, List.replicate 6 (.int 0)) 6) Q
  generalize gx_al g1 m 10 (200, List.replicate 6 (.int 0)) 6 = g2 at I2 s2 ⊢
  rw [r2_21, r2_22, r2_24, r2_26 (by rw [gm_kd_nw (by have := I2.1; omega)]; exact I2.2.1)]
  have I3 := I2.al (f := 11) (k := 201) (n := 6) (v := .long 0) (by decide) (by decide) (by decide) (by decide) (by decide) rfl
  have s3 : (gx_al g2 m 11 (201, List.replicate 6 (.long 0)) 6).2.1 = h.2.1 + 780 := by rw [al_1.2, s2]
  show gm_W E d 2 29 [.ref m, .int p, .int q, .int r, .int u, gm_u] [] (gx_al g2 m 11 (201, List.replicate 6 (.long 0)) 6) Q
  generalize gx_al g2 m 11 (201, List.replicate 6 (.long 0)) 6 = g3 at I3 s3 ⊢
  rw [r2_29, r2_30, r2_32, r2_34 (by rw [gm_kd_nw (by have := I3.1; omega)]; exact I3.2.1)]
  have I4 := I3.al (f := 12) (k := 200) (n := 6) (v := .int 0) (by decide) (by decide) (by decide) (by decide) (by decide) rfl
  have s4 : (gx_al g3 m 12 (200, List.replicate 6 (.int 0)) 6).2.1 = h.2.1 + 786 := by rw [al_1.2, s3]
  show gm_W E d 2 37 [.ref m, .int p, .int q, .int r, .int u, gm_u] [] (gx_al g3 m 12 (200, List.replicate 6 (.int 0)) 6) Q
  generalize gx_al g3 m 12 (200, List.replicate 6 (.int 0)) 6 = g4 at I4 s4 ⊢
  rw [r2_37, r2_38, r2_40, r2_42 (by rw [gm_kd_nw (by have := I4.1; omega)]; exact I4.2.1)]
  have I5 := I4.al (f := 13) (k := 200) (n := 6) (v := .int 0) (by decide) (by decide) (by decide) (by decide) (by decide) rfl
  have s5 : (gx_al g4 m 13 (200, List.replicate 6 (.int 0)) 6).2.1 = h.2.1 + 792 := by rw [al_1.2, s4]
  show gm_W E d 2 45 [.ref m, .int p, .int q, .int r, .int u, gm_u] [] (gx_al g4 m 13 (200, List.replicate 6 (.int 0)) 6) Q
  generalize gx_al g4 m 13 (200, List.replicate 6 (.int 0)) 6 = g5 at I5 s5 ⊢
  rw [r2_45, r2_46, r2_48, r2_50 (by rw [gm_kd_nw (by have := I5.1; omega)]; exact I5.2.1)]
  have I6 := I5.al (f := 14) (k := 200) (n := 24) (v := .int 0) (by decide) (by decide) (by decide) (by decide) (by decide) rfl
  have s6 : (gx_al g5 m 14 (200, List.replicate 24 (.int 0)) 24).2.1 = h.2.1 + 816 := by rw [al_1.2, s5]
  show gm_W E d 2 53 [.ref m, .int p, .int q, .int r, .int u, gm_u] [] (gx_al g5 m 14 (200, List.replicate 24 (.int 0)) 24) Q
  generalize gx_al g5 m 14 (200, List.replicate 24 (.int 0)) 24 = g6 at I6 s6 ⊢
  rw [r2_53, r2_54, r2_56, r2_58 (by rw [gm_kd_nw (by have := I6.1; omega)]; exact I6.2.1)]
  have I7 := I6.al (f := 15) (k := 200) (n := 24) (v := .int 0) (by decide) (by decide) (by decide) (by decide) (by decide) rfl
  have s7 : (gx_al g6 m 15 (200, List.replicate 24 (.int 0)) 24).2.1 = h.2.1 + 840 := by rw [al_1.2, s6]
  show gm_W E d 2 61 [.ref m, .int p, .int q, .int r, .int u, gm_u] [] (gx_al g6 m 15 (200, List.replicate 24 (.int 0)) 24) Q
  generalize gx_al g6 m 15 (200, List.replicate 24 (.int 0)) 24 = g7 at I7 s7 ⊢
  rw [r2_61, r2_62, r2_64, r2_66 (by rw [gm_kd_nw (by have := I7.1; omega)]; exact I7.2.1)]
  have I8 := I7.al (f := 16) (k := 200) (n := 6) (v := .int 0) (by decide) (by decide) (by decide) (by decide) (by decide) rfl
  have s8 : (gx_al g7 m 16 (200, List.replicate 6 (.int 0)) 6).2.1 = h.2.1 + 846 := by rw [al_1.2, s7]
  show gm_W E d 2 69 [.ref m, .int p, .int q, .int r, .int u, gm_u] [] (gx_al g7 m 16 (200, List.replicate 6 (.int 0)) 6) Q
  generalize gx_al g7 m 16 (200, List.replicate 6 (.int 0)) 6 = g8 at I8 s8 ⊢
  rw [r2_69, r2_70, r2_72, r2_74 (by rw [gm_kd_nw (by have := I8.1; omega)]; exact I8.2.1)]
  have I9 := I8.al (f := 17) (k := 203) (n := 6) (v := .int 0) (by decide) (by decide) (by decide) (by decide) (by decide) rfl
  have s9 : (gx_al g8 m 17 (203, List.replicate 6 (.int 0)) 6).2.1 = h.2.1 + 852 := by rw [al_1.2, s8]
  show gm_W E d 2 77 [.ref m, .int p, .int q, .int r, .int u, gm_u] [] (gx_al g8 m 17 (203, List.replicate 6 (.int 0)) 6) Q
  generalize gx_al g8 m 17 (203, List.replicate 6 (.int 0)) 6 = g9 at I9 s9 ⊢
  rw [r2_77, r2_78, r2_81, r2_83 (by rw [gm_kd_nw (by have := I9.1; omega)]; exact I9.2.1)]
  have I10 := I9.al (f := 18) (k := 200) (n := 720) (v := .int 0) (by decide) (by decide) (by decide) (by decide) (by decide) rfl
  have s10 : (gx_al g9 m 18 (200, List.replicate 720 (.int 0)) 720).2.1 = h.2.1 + 1572 := by rw [al_1.2, s9]
  show gm_W E d 2 86 [.ref m, .int p, .int q, .int r, .int u, gm_u] [] (gx_al g9 m 18 (200, List.replicate 720 (.int 0)) 720) Q
  generalize gx_al g9 m 18 (200, List.replicate 720 (.int 0)) 720 = g10 at I10 s10 ⊢
  rw [r2_86, r2_87, r2_90, r2_92 (by rw [gm_kd_nw (by have := I10.1; omega)]; exact I10.2.1)]
  have I11 := I10.al (f := 19) (k := 200) (n := 720) (v := .int 0) (by decide) (by decide) (by decide) (by decide) (by decide) rfl
  have s11 : (gx_al g10 m 19 (200, List.replicate 720 (.int 0)) 720).2.1 = h.2.1 + 2292 := by rw [al_1.2, s10]
  show gm_W E d 2 95 [.ref m, .int p, .int q, .int r, .int u, gm_u] [] (gx_al g10 m 19 (200, List.replicate 720 (.int 0)) 720) Q
  generalize gx_al g10 m 19 (200, List.replicate 720 (.int 0)) 720 = g11 at I11 s11 ⊢
  rw [r2_95, r2_96, r2_99, r2_101 (by rw [gm_kd_nw (by have := I11.1; omega)]; exact I11.2.1)]
  have I12 := I11.al (f := 20) (k := 200) (n := 720) (v := .int 0) (by decide) (by decide) (by decide) (by decide) (by decide) rfl
  have s12 : (gx_al g11 m 20 (200, List.replicate 720 (.int 0)) 720).2.1 = h.2.1 + 3012 := by rw [al_1.2, s11]
  show gm_W E d 2 104 [.ref m, .int p, .int q, .int r, .int u, gm_u] [] (gx_al g11 m 20 (200, List.replicate 720 (.int 0)) 720) Q
  generalize gx_al g11 m 20 (200, List.replicate 720 (.int 0)) 720 = g12 at I12 s12 ⊢
  rw [r2_104, r2_105, r2_108, r2_110 (by rw [gm_kd_nw (by have := I12.1; omega)]; exact I12.2.1)]
  have I13 := I12.al (f := 21) (k := 200) (n := 720) (v := .int 0) (by decide) (by decide) (by decide) (by decide) (by decide) rfl
  have s13 : (gx_al g12 m 21 (200, List.replicate 720 (.int 0)) 720).2.1 = h.2.1 + 3732 := by rw [al_1.2, s12]
  show gm_W E d 2 113 [.ref m, .int p, .int q, .int r, .int u, gm_u] [] (gx_al g12 m 21 (200, List.replicate 720 (.int 0)) 720) Q
  generalize gx_al g12 m 21 (200, List.replicate 720 (.int 0)) 720 = g13 at I13 s13 ⊢
  rw [r2_113, r2_114, r2_117, r2_119 (by rw [gm_kd_nw (by have := I13.1; omega)]; exact I13.2.1)]
  have I14 := I13.al (f := 22) (k := 200) (n := 720) (v := .int 0) (by decide) (by decide) (by decide) (by decide) (by decide) rfl
  have s14 : (gx_al g13 m 22 (200, List.replicate 720 (.int 0)) 720).2.1 = h.2.1 + 4452 := by rw [al_1.2, s13]
  show gm_W E d 2 122 [.ref m, .int p, .int q, .int r, .int u, gm_u] [] (gx_al g13 m 22 (200, List.replicate 720 (.int 0)) 720) Q
  generalize gx_al g13 m 22 (200, List.replicate 720 (.int 0)) 720 = g14 at I14 s14 ⊢
  rw [r2_122, r2_123, r2_126, r2_128 (by rw [gm_kd_nw (by have := I14.1; omega)]; exact I14.2.1)]
  have I15 := I14.al (f := 24) (k := 201) (n := 4000) (v := .long 0) (by decide) (by decide) (by decide) (by decide) (by decide) rfl
  have s15 : (gx_al g14 m 24 (201, List.replicate 4000 (.long 0)) 4000).2.1 = h.2.1 + 8452 := by rw [al_1.2, s14]
  show gm_W E d 2 131 [.ref m, .int p, .int q, .int r, .int u, gm_u] [] (gx_al g14 m 24 (201, List.replicate 4000 (.long 0)) 4000) Q
  generalize gx_al g14 m 24 (201, List.replicate 4000 (.long 0)) 4000 = g15 at I15 s15 ⊢
  rw [r2_131, r2_132, r2_135, r2_137 (by rw [gm_kd_nw (by have := I15.1; omega)]; exact I15.2.1)]
  have I16 := I15.al (f := 26) (k := 200) (n := 130) (v := .int 0) (by decide) (by decide) (by decide) (by decide) (by decide) rfl
  have s16 : (gx_al g15 m 26 (200, List.replicate 130 (.int 0)) 130).2.1 = h.2.1 + 8582 := by rw [al_1.2, s15]
  show gm_W E d 2 140 [.ref m, .int p, .int q, .int r, .int u, gm_u] [] (gx_al g15 m 26 (200, List.replicate 130 (.int 0)) 130) Q
  generalize gx_al g15 m 26 (200, List.replicate 130 (.int 0)) 130 = g16 at I16 s16 ⊢
  rw [r2_140, r2_141, r2_144, r2_146 (by rw [gm_kd_nw (by have := I16.1; omega)]; exact I16.2.1)]
  have I17 := I16.al (f := 27) (k := 200) (n := 130) (v := .int 0) (by decide) (by decide) (by decide) (by decide) (by decide) rfl
  have s17 : (gx_al g16 m 27 (200, List.replicate 130 (.int 0)) 130).2.1 = h.2.1 + 8712 := by rw [al_1.2, s16]
  show gm_W E d 2 149 [.ref m, .int p, .int q, .int r, .int u, gm_u] [] (gx_al g16 m 27 (200, List.replicate 130 (.int 0)) 130) Q
  generalize gx_al g16 m 27 (200, List.replicate 130 (.int 0)) 130 = g17 at I17 s17 ⊢
  rw [r2_149, r2_150, r2_153, r2_155 (by rw [gm_kd_nw (by have := I17.1; omega)]; exact I17.2.1)]
  have I18 := I17.al (f := 29) (k := 200) (n := 130) (v := .int 0) (by decide) (by decide) (by decide) (by decide) (by decide) rfl
  have s18 : (gx_al g17 m 29 (200, List.replicate 130 (.int 0)) 130).2.1 = h.2.1 + 8842 := by rw [al_1.2, s17]
  show gm_W E d 2 158 [.ref m, .int p, .int q, .int r, .int u, gm_u] [] (gx_al g17 m 29 (200, List.replicate 130 (.int 0)) 130) Q
  generalize gx_al g17 m 29 (200, List.replicate 130 (.int 0)) 130 = g18 at I18 s18 ⊢
  rw [r2_158, r2_159, r2_162, r2_164 (by rw [gm_kd_nw (by have := I18.1; omega)]; exact I18.2.1)]
  have I19 := I18.al (f := 30) (k := 200) (n := 130) (v := .int 0) (by decide) (by decide) (by decide) (by decide) (by decide) rfl
  have s19 : (gx_al g18 m 30 (200, List.replicate 130 (.int 0)) 130).2.1 = h.2.1 + 8972 := by rw [al_1.2, s18]
  show gm_W E d 2 167 [.ref m, .int p, .int q, .int r, .int u, gm_u] [] (gx_al g18 m 30 (200, List.replicate 130 (.int 0)) 130) Q
  generalize gx_al g18 m 30 (200, List.replicate 130 (.int 0)) 130 = g19 at I19 s19 ⊢
  rw [r2_167, r2_168, r2_171, r2_173 (by rw [gm_kd_nw (by have := I19.1; omega)]; exact I19.2.1)]
  have I20 := I19.al (f := 31) (k := 200) (n := 130) (v := .int 0) (by decide) (by decide) (by decide) (by decide) (by decide) rfl
  have s20 : (gx_al g19 m 31 (200, List.replicate 130 (.int 0)) 130).2.1 = h.2.1 + 9102 := by rw [al_1.2, s19]
  show gm_W E d 2 176 [.ref m, .int p, .int q, .int r, .int u, gm_u] [] (gx_al g19 m 31 (200, List.replicate 130 (.int 0)) 130) Q
  generalize gx_al g19 m 31 (200, List.replicate 130 (.int 0)) 130 = g20 at I20 s20 ⊢
  rw [r2_176, r2_177, r2_180, r2_182 (by rw [gm_kd_nw (by have := I20.1; omega)]; exact I20.2.1)]
  have I21 := I20.al (f := 32) (k := 200) (n := 130) (v := .int 0) (by decide) (by decide) (by decide) (by decide) (by decide) rfl
  have s21 : (gx_al g20 m 32 (200, List.replicate 130 (.int 0)) 130).2.1 = h.2.1 + 9232 := by rw [al_1.2, s20]
  show gm_W E d 2 185 [.ref m, .int p, .int q, .int r, .int u, gm_u] [] (gx_al g20 m 32 (200, List.replicate 130 (.int 0)) 130) Q
  generalize gx_al g20 m 32 (200, List.replicate 130 (.int 0)) 130 = g21 at I21 s21 ⊢
  rw [r2_185, r2_186, r2_189, r2_191 (by rw [gm_kd_nw (by have := I21.1; omega)]; exact I21.2.1)]
  have I22 := I21.al (f := 33) (k := 200) (n := 130) (v := .int 0) (by decide) (by decide) (by decide) (by decide) (by decide) rfl
  have s22 : (gx_al g21 m 33 (200, List.replicate 130 (.int 0)) 130).2.1 = h.2.1 + 9362 := by rw [al_1.2, s21]
  show gm_W E d 2 194 [.ref m, .int p, .int q, .int r, .int u, gm_u] [] (gx_al g21 m 33 (200, List.replicate 130 (.int 0)) 130) Q
  generalize gx_al g21 m 33 (200, List.replicate 130 (.int 0)) 130 = g22 at I22 s22 ⊢
  rw [r2_194, r2_195, r2_198, r2_200 (by rw [gm_kd_nw (by have := I22.1; omega)]; exact I22.2.1)]
  have I23 := I22.al (f := 34) (k := 201) (n := 130) (v := .long 0) (by decide) (by decide) (by decide) (by decide) (by decide) rfl
  have s23 : (gx_al g22 m 34 (201, List.replicate 130 (.long 0)) 130).2.1 = h.2.1 + 9492 := by rw [al_1.2, s22]
  show gm_W E d 2 203 [.ref m, .int p, .int q, .int r, .int u, gm_u] [] (gx_al g22 m 34 (201, List.replicate 130 (.long 0)) 130) Q
  generalize gx_al g22 m 34 (201, List.replicate 130 (.long 0)) 130 = g23 at I23 s23 ⊢
  rw [r2_203, r2_204, r2_207, r2_209 (by rw [gm_kd_nw (by have := I23.1; omega)]; exact I23.2.1)]
  have I24 := I23.al (f := 35) (k := 200) (n := 130) (v := .int 0) (by decide) (by decide) (by decide) (by decide) (by decide) rfl
  have s24 : (gx_al g23 m 35 (200, List.replicate 130 (.int 0)) 130).2.1 = h.2.1 + 9622 := by rw [al_1.2, s23]
  show gm_W E d 2 212 [.ref m, .int p, .int q, .int r, .int u, gm_u] [] (gx_al g23 m 35 (200, List.replicate 130 (.int 0)) 130) Q
  generalize gx_al g23 m 35 (200, List.replicate 130 (.int 0)) 130 = g24 at I24 s24 ⊢
  rw [r2_212, r2_213, r2_216, r2_218 (by rw [gm_kd_nw (by have := I24.1; omega)]; exact I24.2.1)]
  have I25 := I24.al (f := 36) (k := 200) (n := 1040) (v := .int 0) (by decide) (by decide) (by decide) (by decide) (by decide) rfl
  have s25 : (gx_al g24 m 36 (200, List.replicate 1040 (.int 0)) 1040).2.1 = h.2.1 + 10662 := by rw [al_1.2, s24]
  show gm_W E d 2 221 [.ref m, .int p, .int q, .int r, .int u, gm_u] [] (gx_al g24 m 36 (200, List.replicate 1040 (.int 0)) 1040) Q
  generalize gx_al g24 m 36 (200, List.replicate 1040 (.int 0)) 1040 = g25 at I25 s25 ⊢
  rw [r2_221, r2_222, r2_225, r2_227 (by rw [gm_kd_nw (by have := I25.1; omega)]; exact I25.2.1)]
  have I26 := I25.al (f := 37) (k := 200) (n := 1040) (v := .int 0) (by decide) (by decide) (by decide) (by decide) (by decide) rfl
  have s26 : (gx_al g25 m 37 (200, List.replicate 1040 (.int 0)) 1040).2.1 = h.2.1 + 11702 := by rw [al_1.2, s25]
  show gm_W E d 2 230 [.ref m, .int p, .int q, .int r, .int u, gm_u] [] (gx_al g25 m 37 (200, List.replicate 1040 (.int 0)) 1040) Q
  generalize gx_al g25 m 37 (200, List.replicate 1040 (.int 0)) 1040 = g26 at I26 s26 ⊢
  rw [r2_230, r2_231, r2_234, r2_236 (by rw [gm_kd_nw (by have := I26.1; omega)]; exact I26.2.1)]
  have I27 := I26.al (f := 38) (k := 200) (n := 130) (v := .int 0) (by decide) (by decide) (by decide) (by decide) (by decide) rfl
  have s27 : (gx_al g26 m 38 (200, List.replicate 130 (.int 0)) 130).2.1 = h.2.1 + 11832 := by rw [al_1.2, s26]
  show gm_W E d 2 239 [.ref m, .int p, .int q, .int r, .int u, gm_u] [] (gx_al g26 m 38 (200, List.replicate 130 (.int 0)) 130) Q
  generalize gx_al g26 m 38 (200, List.replicate 130 (.int 0)) 130 = g27 at I27 s27 ⊢
  rw [r2_239, r2_240, r2_242, r2_244 (by rw [gm_kd_nw (by have := I27.1; omega)]; exact I27.2.1)]
  have I28 := I27.al (f := 40) (k := 200) (n := 80) (v := .int 0) (by decide) (by decide) (by decide) (by decide) (by decide) rfl
  have s28 : (gx_al g27 m 40 (200, List.replicate 80 (.int 0)) 80).2.1 = h.2.1 + 11912 := by rw [al_1.2, s27]
  show gm_W E d 2 247 [.ref m, .int p, .int q, .int r, .int u, gm_u] [] (gx_al g27 m 40 (200, List.replicate 80 (.int 0)) 80) Q
  generalize gx_al g27 m 40 (200, List.replicate 80 (.int 0)) 80 = g28 at I28 s28 ⊢
  rw [r2_247, r2_248, r2_250, r2_252 (by rw [gm_kd_nw (by have := I28.1; omega)]; exact I28.2.1)]
  have I29 := I28.al (f := 41) (k := 200) (n := 80) (v := .int 0) (by decide) (by decide) (by decide) (by decide) (by decide) rfl
  have s29 : (gx_al g28 m 41 (200, List.replicate 80 (.int 0)) 80).2.1 = h.2.1 + 11992 := by rw [al_1.2, s28]
  show gm_W E d 2 255 [.ref m, .int p, .int q, .int r, .int u, gm_u] [] (gx_al g28 m 41 (200, List.replicate 80 (.int 0)) 80) Q
  generalize gx_al g28 m 41 (200, List.replicate 80 (.int 0)) 80 = g29 at I29 s29 ⊢
  rw [r2_255, r2_256, r2_258, r2_260 (by rw [gm_kd_nw (by have := I29.1; omega)]; exact I29.2.1)]
  have I30 := I29.al (f := 42) (k := 200) (n := 80) (v := .int 0) (by decide) (by decide) (by decide) (by decide) (by decide) rfl
  have s30 : (gx_al g29 m 42 (200, List.replicate 80 (.int 0)) 80).2.1 = h.2.1 + 12072 := by rw [al_1.2, s29]
  show gm_W E d 2 263 [.ref m, .int p, .int q, .int r, .int u, gm_u] [] (gx_al g29 m 42 (200, List.replicate 80 (.int 0)) 80) Q
  generalize gx_al g29 m 42 (200, List.replicate 80 (.int 0)) 80 = g30 at I30 s30 ⊢
  rw [r2_263, r2_264, r2_266, r2_268 (by rw [gm_kd_nw (by have := I30.1; omega)]; exact I30.2.1)]
  have I31 := I30.al (f := 43) (k := 200) (n := 80) (v := .int 0) (by decide) (by decide) (by decide) (by decide) (by decide) rfl
  have s31 : (gx_al g30 m 43 (200, List.replicate 80 (.int 0)) 80).2.1 = h.2.1 + 12152 := by rw [al_1.2, s30]
  show gm_W E d 2 271 [.ref m, .int p, .int q, .int r, .int u, gm_u] [] (gx_al g30 m 43 (200, List.replicate 80 (.int 0)) 80) Q
  generalize gx_al g30 m 43 (200, List.replicate 80 (.int 0)) 80 = g31 at I31 s31 ⊢
  rw [r2_271, r2_272, r2_274, r2_276 (by rw [gm_kd_nw (by have := I31.1; omega)]; exact I31.2.1)]
  have I32 := I31.al (f := 44) (k := 200) (n := 80) (v := .int 0) (by decide) (by decide) (by decide) (by decide) (by decide) rfl
  have s32 : (gx_al g31 m 44 (200, List.replicate 80 (.int 0)) 80).2.1 = h.2.1 + 12232 := by rw [al_1.2, s31]
  show gm_W E d 2 279 [.ref m, .int p, .int q, .int r, .int u, gm_u] [] (gx_al g31 m 44 (200, List.replicate 80 (.int 0)) 80) Q
  generalize gx_al g31 m 44 (200, List.replicate 80 (.int 0)) 80 = g32 at I32 s32 ⊢
  rw [r2_279, r2_280, r2_282, r2_284 (by rw [gm_kd_nw (by have := I32.1; omega)]; exact I32.2.1)]
  have I33 := I32.al (f := 45) (k := 200) (n := 80) (v := .int 0) (by decide) (by decide) (by decide) (by decide) (by decide) rfl
  have s33 : (gx_al g32 m 45 (200, List.replicate 80 (.int 0)) 80).2.1 = h.2.1 + 12312 := by rw [al_1.2, s32]
  show gm_W E d 2 287 [.ref m, .int p, .int q, .int r, .int u, gm_u] [] (gx_al g32 m 45 (200, List.replicate 80 (.int 0)) 80) Q
  generalize gx_al g32 m 45 (200, List.replicate 80 (.int 0)) 80 = g33 at I33 s33 ⊢
  rw [r2_287, r2_288, r2_290, r2_292 (by rw [gm_kd_nw (by have := I33.1; omega)]; exact I33.2.1)]
  have I34 := I33.al (f := 46) (k := 200) (n := 80) (v := .int 0) (by decide) (by decide) (by decide) (by decide) (by decide) rfl
  have s34 : (gx_al g33 m 46 (200, List.replicate 80 (.int 0)) 80).2.1 = h.2.1 + 12392 := by rw [al_1.2, s33]
  show gm_W E d 2 295 [.ref m, .int p, .int q, .int r, .int u, gm_u] [] (gx_al g33 m 46 (200, List.replicate 80 (.int 0)) 80) Q
  generalize gx_al g33 m 46 (200, List.replicate 80 (.int 0)) 80 = g34 at I34 s34 ⊢
  rw [I34.done]
  exact K g34 (by have := I34.1; omega) s34 I34.2.2.2.2
end M7
