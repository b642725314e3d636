/-! THE REFERENCE'S HEAP, by program (genm.py): the object at m, its 34 arrays behind it. -/
/-- ints and longs, by offset and place -/
abbrev gr_t : Type := (Nat → Nat → Int32) × (Nat → Nat → Int64)
def gr_k : Nat → Nat
  | 0 => 5
  | 1 => 200
  | 2 => 200
  | 3 => 201
  | 4 => 200
  | 5 => 200
  | 6 => 200
  | 7 => 200
  | 8 => 200
  | 9 => 203
  | 10 => 200
  | 11 => 200
  | 12 => 200
  | 13 => 200
  | 14 => 200
  | 15 => 201
  | 16 => 200
  | 17 => 200
  | 18 => 200
  | 19 => 200
  | 20 => 200
  | 21 => 200
  | 22 => 200
  | 23 => 201
  | 24 => 200
  | 25 => 200
  | 26 => 200
  | 27 => 200
  | 28 => 200
  | 29 => 200
  | 30 => 200
  | 31 => 200
  | 32 => 200
  | 33 => 200
  | 34 => 200
  | _ => 0
def gr_l : Nat → Nat
  | 0 => 48
  | 1 => 720
  | 2 => 6
  | 3 => 6
  | 4 => 6
  | 5 => 6
  | 6 => 24
  | 7 => 24
  | 8 => 6
  | 9 => 6
  | 10 => 720
  | 11 => 720
  | 12 => 720
  | 13 => 720
  | 14 => 720
  | 15 => 4000
  | 16 => 130
  | 17 => 130
  | 18 => 130
  | 19 => 130
  | 20 => 130
  | 21 => 130
  | 22 => 130
  | 23 => 130
  | 24 => 130
  | 25 => 1040
  | 26 => 1040
  | 27 => 130
  | 28 => 80
  | 29 => 80
  | 30 => 80
  | 31 => 80
  | 32 => 80
  | 33 => 80
  | 34 => 80
  | _ => 0
/-- the array of a field -/
def gr_p : Nat → Nat
  | 4 => 1
  | 10 => 2
  | 11 => 3
  | 12 => 4
  | 13 => 5
  | 14 => 6
  | 15 => 7
  | 16 => 8
  | 17 => 9
  | 18 => 10
  | 19 => 11
  | 20 => 12
  | 21 => 13
  | 22 => 14
  | 24 => 15
  | 26 => 16
  | 27 => 17
  | 29 => 18
  | 30 => 19
  | 31 => 20
  | 32 => 21
  | 33 => 22
  | 34 => 23
  | 35 => 24
  | 36 => 25
  | 37 => 26
  | 38 => 27
  | 40 => 28
  | 41 => 29
  | 42 => 30
  | 43 => 31
  | 44 => 32
  | 45 => 33
  | 46 => 34
  | _ => 0
def gr_lg : Nat → Bool
  | 3 => true
  | 15 => true
  | 23 => true
  | _ => false
def gr_v (m : Nat) (t : gr_t) (o i : Nat) : Value := if o = 0 then (if gr_p i = 0 then .int (t.1 0 i) else .ref (m + gr_p i)) else if gr_lg o = true then .long (t.2 o i) else .int (t.1 o i)
def gr_H (h : gm_H) (m : Nat) (t : gr_t) : gm_H := (h.1, h.2.1, fun b => if m ≤ b ∧ b ≤ m + 34 then some (gr_k (b - m), (List.range (gr_l (b - m))).map (gr_v m t (b - m))) else h.2.2 b)
def gr_ui (t : gr_t) (o i : Nat) (x : Int32) : gr_t := ((fun o2 i2 => if o2 = o ∧ i2 = i then x else t.1 o2 i2), t.2)
def gr_ul (t : gr_t) (o i : Nat) (x : Int64) : gr_t := (t.1, (fun o2 i2 => if o2 = o ∧ i2 = i then x else t.2 o2 i2))
section GR
variable {h : gm_H} {m o i o2 i2 : Nat} {t : gr_t} {x : Int32} {y : Int64}
theorem gr_rd (ho : o ≤ 34) : gm_rd (gr_H h m t) (m + o) = some (gr_k o, (List.range (gr_l o)).map (gr_v m t o)) := by
  show (if m ≤ m + o ∧ m + o ≤ m + 34 then some (gr_k (m + o - m), (List.range (gr_l (m + o - m))).map (gr_v m t (m + o - m))) else h.2.2 (m + o)) = _
  rw [if_pos ⟨by omega, by omega⟩, Nat.add_sub_cancel_left]
theorem gr_rdn {b : Nat} (hb : b < m ∨ m + 34 < b) : gm_rd (gr_H h m t) b = gm_rd h b := by
  show (if m ≤ b ∧ b ≤ m + 34 then some (gr_k (b - m), (List.range (gr_l (b - m))).map (gr_v m t (b - m))) else h.2.2 b) = _
  rw [if_neg (by omega)]
  rfl
theorem gr_1 : (gr_H h m t).1 = h.1 := rfl
theorem gr_2 : (gr_H h m t).2.1 = h.2.1 := rfl
theorem gr_kd (ho : o ≤ 34) (hk : gr_k o = 5 ∨ 100 ≤ gr_k o) (hl : gr_k o = 5 → gr_l o = gm_N 5) : gm_kd (gr_H h m t) (m + o) = gr_k o := by
  unfold gm_kd
  rw [gr_rd ho]
  dsimp only
  rw [if_neg]
  rintro ⟨h1, h2⟩
  rcases hk with z | z
  · rw [z] at h2
    simp at h2
    exact h2 (hl z)
  · omega
theorem gr_ln (ho : o ≤ 34) : gm_ln (gr_H h m t) (m + o) = gr_l o := by
  unfold gm_ln
  rw [gr_rd ho]
  simp
theorem gr_fv (ho : o ≤ 34) (hi : i < gr_l o) : gm_fv (gr_H h m t) (m + o) i = gr_v m t o i := by
  unfold gm_fv
  rw [gr_rd ho]
  simp [List.getD, hi]
theorem gr_sf {v : Value} {t' : gr_t} (ho : o ≤ 34) (hv : ∀ o2 i2, gr_v m t' o2 i2 = if o2 = o ∧ i2 = i then v else gr_v m t o2 i2) : gm_sf (gr_H h m t) (m + o) i v = gr_H h m t' := by
  unfold gm_sf
  rw [gr_rd ho]
  dsimp only
  unfold gm_wr gr_H
  refine Prod.ext rfl (Prod.ext rfl ?_)
  funext b
  dsimp only
  by_cases e : b = m + o
  · subst e
    rw [if_pos rfl, if_pos ⟨by omega, by omega⟩, Nat.add_sub_cancel_left]
    congr 2
    apply List.ext_getElem?
    intro j
    rw [List.getElem?_set, List.getElem?_map, List.getElem?_map]
    by_cases hj : j < gr_l o
    · rw [List.getElem?_range hj, List.length_map, List.length_range]
      by_cases e : i = j
      · subst e
        rw [if_pos rfl, if_pos hj]
        simp [hv]
      · rw [if_neg e]
        simp [hv, Ne.symm e]
    · rw [List.getElem?_eq_none (by simp; omega), List.length_map, List.length_range]
      by_cases e : i = j
      · subst e
        rw [if_pos rfl, if_neg hj]; rfl
      · rw [if_neg e]; rfl
  · rw [if_neg e]
    by_cases hb : m ≤ b ∧ b ≤ m + 34
    · rw [if_pos hb, if_pos hb]
      congr 2
      apply List.map_congr_left
      intro j _
      rw [hv, if_neg (fun z => e (by omega))]
    · rw [if_neg hb, if_neg hb]
theorem gr_ui_eq : (gr_ui t o i x).1 o i = x := by unfold gr_ui; simp
theorem gr_ui_no (ho : o2 ≠ o) : (gr_ui t o i x).1 o2 i2 = t.1 o2 i2 := by unfold gr_ui; simp [ho]
theorem gr_ui_ni (hi : i2 ≠ i) : (gr_ui t o i x).1 o2 i2 = t.1 o2 i2 := by unfold gr_ui; simp [hi]
theorem gr_ui_2 : (gr_ui t o i x).2 = t.2 := rfl
theorem gr_ul_eq : (gr_ul t o i y).2 o i = y := by unfold gr_ul; simp
theorem gr_ul_no (ho : o2 ≠ o) : (gr_ul t o i y).2 o2 i2 = t.2 o2 i2 := by unfold gr_ul; simp [ho]
theorem gr_ul_ni (hi : i2 ≠ i) : (gr_ul t o i y).2 o2 i2 = t.2 o2 i2 := by unfold gr_ul; simp [hi]
theorem gr_ul_1 : (gr_ul t o i y).1 = t.1 := rfl
theorem gr_wi (ho : o ≤ 34) (h1 : o = 0 → gr_p i = 0) (h2 : gr_lg o = false) : gm_sf (gr_H h m t) (m + o) i (.int x) = gr_H h m (gr_ui t o i x) := by
  refine gr_sf ho (fun o2 i2 => ?_)
  unfold gr_v
  by_cases e : o2 = o ∧ i2 = i
  · obtain ⟨rfl, rfl⟩ := e
    rw [if_pos (show o2 = o2 ∧ i2 = i2 from ⟨rfl, rfl⟩)]
    by_cases z : o2 = 0
    · subst z
      rw [if_pos rfl, if_pos (h1 rfl), gr_ui_eq]
    · rw [if_neg z, h2, gr_ui_eq]
      rfl
  · rw [if_neg e]
    have e1 : (gr_ui t o i x).1 o2 i2 = t.1 o2 i2 := by unfold gr_ui; dsimp only; rw [if_neg e]
    have e0 : o2 = 0 → (gr_ui t o i x).1 0 i2 = t.1 0 i2 := fun z => by subst z; exact e1
    by_cases z : o2 = 0
    · subst z
      simp only [if_true, e1]
    · simp only [z, if_false, e1, gr_ui_2]
theorem gr_wl (ho : o ≤ 34) (h1 : o ≠ 0) (h2 : gr_lg o = true) : gm_sf (gr_H h m t) (m + o) i (.long y) = gr_H h m (gr_ul t o i y) := by
  refine gr_sf ho (fun o2 i2 => ?_)
  unfold gr_v
  by_cases e : o2 = o ∧ i2 = i
  · obtain ⟨rfl, rfl⟩ := e
    rw [if_pos (show o2 = o2 ∧ i2 = i2 from ⟨rfl, rfl⟩), if_neg h1, if_pos h2, gr_ul_eq]
  · rw [if_neg e]
    have e1 : (gr_ul t o i y).2 o2 i2 = t.2 o2 i2 := by unfold gr_ul; dsimp only; rw [if_neg e]
    simp only [e1, gr_ul_1]
theorem g_k0 : gm_kd (gr_H h m t) m = 5 := gr_kd (o := 0) (by decide) (by decide) (fun _ => rfl)
theorem g_k1 : gm_kd (gr_H h m t) (m + 1) = 200 := gr_kd (o := 1) (by decide) (by decide) (fun z => by cases z)
theorem g_l1 : gm_ln (gr_H h m t) (m + 1) = 720 := gr_ln (o := 1) (by decide)
theorem g_p4 : gm_fv (gr_H h m t) m 4 = .ref (m + 1) := gr_fv (o := 0) (by decide) (by decide)
theorem g_a1 (hi : i < 720) : gm_fv (gr_H h m t) (m + 1) i = .int (t.1 1 i) := gr_fv (o := 1) (by decide) hi
theorem g_w1 : gm_sf (gr_H h m t) (m + 1) i (.int x) = gr_H h m (gr_ui t 1 i x) := gr_wi (o := 1) (by decide) (fun z => by cases z) rfl
theorem g_k2 : gm_kd (gr_H h m t) (m + 2) = 200 := gr_kd (o := 2) (by decide) (by decide) (fun z => by cases z)
theorem g_l2 : gm_ln (gr_H h m t) (m + 2) = 6 := gr_ln (o := 2) (by decide)
theorem g_p10 : gm_fv (gr_H h m t) m 10 = .ref (m + 2) := gr_fv (o := 0) (by decide) (by decide)
theorem g_a2 (hi : i < 6) : gm_fv (gr_H h m t) (m + 2) i = .int (t.1 2 i) := gr_fv (o := 2) (by decide) hi
theorem g_w2 : gm_sf (gr_H h m t) (m + 2) i (.int x) = gr_H h m (gr_ui t 2 i x) := gr_wi (o := 2) (by decide) (fun z => by cases z) rfl
theorem g_k3 : gm_kd (gr_H h m t) (m + 3) = 201 := gr_kd (o := 3) (by decide) (by decide) (fun z => by cases z)
theorem g_l3 : gm_ln (gr_H h m t) (m + 3) = 6 := gr_ln (o := 3) (by decide)
theorem g_p11 : gm_fv (gr_H h m t) m 11 = .ref (m + 3) := gr_fv (o := 0) (by decide) (by decide)
theorem g_a3 (hi : i < 6) : gm_fv (gr_H h m t) (m + 3) i = .long (t.2 3 i) := gr_fv (o := 3) (by decide) hi
theorem g_w3 : gm_sf (gr_H h m t) (m + 3) i (.long y) = gr_H h m (gr_ul t 3 i y) := gr_wl (o := 3) (by decide) (by decide) rfl
theorem g_k4 : gm_kd (gr_H h m t) (m + 4) = 200 := gr_kd (o := 4) (by decide) (by decide) (fun z => by cases z)
theorem g_l4 : gm_ln (gr_H h m t) (m + 4) = 6 := gr_ln (o := 4) (by decide)
theorem g_p12 : gm_fv (gr_H h m t) m 12 = .ref (m + 4) := gr_fv (o := 0) (by decide) (by decide)
theorem g_a4 (hi : i < 6) : gm_fv (gr_H h m t) (m + 4) i = .int (t.1 4 i) := gr_fv (o := 4) (by decide) hi
theorem g_w4 : gm_sf (gr_H h m t) (m + 4) i (.int x) = gr_H h m (gr_ui t 4 i x) := gr_wi (o := 4) (by decide) (fun z => by cases z) rfl
theorem g_k5 : gm_kd (gr_H h m t) (m + 5) = 200 := gr_kd (o := 5) (by decide) (by decide) (fun z => by cases z)
theorem g_l5 : gm_ln (gr_H h m t) (m + 5) = 6 := gr_ln (o := 5) (by decide)
theorem g_p13 : gm_fv (gr_H h m t) m 13 = .ref (m + 5) := gr_fv (o := 0) (by decide) (by decide)
theorem g_a5 (hi : i < 6) : gm_fv (gr_H h m t) (m + 5) i = .int (t.1 5 i) := gr_fv (o := 5) (by decide) hi
theorem g_w5 : gm_sf (gr_H h m t) (m + 5) i (.int x) = gr_H h m (gr_ui t 5 i x) := gr_wi (o := 5) (by decide) (fun z => by cases z) rfl
theorem g_k6 : gm_kd (gr_H h m t) (m + 6) = 200 := gr_kd (o := 6) (by decide) (by decide) (fun z => by cases z)
theorem g_l6 : gm_ln (gr_H h m t) (m + 6) = 24 := gr_ln (o := 6) (by decide)
theorem g_p14 : gm_fv (gr_H h m t) m 14 = .ref (m + 6) := gr_fv (o := 0) (by decide) (by decide)
theorem g_a6 (hi : i < 24) : gm_fv (gr_H h m t) (m + 6) i = .int (t.1 6 i) := gr_fv (o := 6) (by decide) hi
theorem g_w6 : gm_sf (gr_H h m t) (m + 6) i (.int x) = gr_H h m (gr_ui t 6 i x) := gr_wi (o := 6) (by decide) (fun z => by cases z) rfl
theorem g_k7 : gm_kd (gr_H h m t) (m + 7) = 200 := gr_kd (o := 7) (by decide) (by decide) (fun z => by cases z)
theorem g_l7 : gm_ln (gr_H h m t) (m + 7) = 24 := gr_ln (o := 7) (by decide)
theorem g_p15 : gm_fv (gr_H h m t) m 15 = .ref (m + 7) := gr_fv (o := 0) (by decide) (by decide)
theorem g_a7 (hi : i < 24) : gm_fv (gr_H h m t) (m + 7) i = .int (t.1 7 i) := gr_fv (o := 7) (by decide) hi
theorem g_w7 : gm_sf (gr_H h m t) (m + 7) i (.int x) = gr_H h m (gr_ui t 7 i x) := gr_wi (o := 7) (by decide) (fun z => by cases z) rfl
theorem g_k8 : gm_kd (gr_H h m t) (m + 8) = 200 := gr_kd (o := 8) (by decide) (by decide) (fun z => by cases z)
theorem g_l8 : gm_ln (gr_H h m t) (m + 8) = 6 := gr_ln (o := 8) (by decide)
theorem g_p16 : gm_fv (gr_H h m t) m 16 = .ref (m + 8) := gr_fv (o := 0) (by decide) (by decide)
theorem g_a8 (hi : i < 6) : gm_fv (gr_H h m t) (m + 8) i = .int (t.1 8 i) := gr_fv (o := 8) (by decide) hi
theorem g_w8 : gm_sf (gr_H h m t) (m + 8) i (.int x) = gr_H h m (gr_ui t 8 i x) := gr_wi (o := 8) (by decide) (fun z => by cases z) rfl
theorem g_k9 : gm_kd (gr_H h m t) (m + 9) = 203 := gr_kd (o := 9) (by decide) (by decide) (fun z => by cases z)
theorem g_l9 : gm_ln (gr_H h m t) (m + 9) = 6 := gr_ln (o := 9) (by decide)
theorem g_p17 : gm_fv (gr_H h m t) m 17 = .ref (m + 9) := gr_fv (o := 0) (by decide) (by decide)
theorem g_a9 (hi : i < 6) : gm_fv (gr_H h m t) (m + 9) i = .int (t.1 9 i) := gr_fv (o := 9) (by decide) hi
theorem g_w9 : gm_sf (gr_H h m t) (m + 9) i (.int x) = gr_H h m (gr_ui t 9 i x) := gr_wi (o := 9) (by decide) (fun z => by cases z) rfl
theorem g_k10 : gm_kd (gr_H h m t) (m + 10) = 200 := gr_kd (o := 10) (by decide) (by decide) (fun z => by cases z)
theorem g_l10 : gm_ln (gr_H h m t) (m + 10) = 720 := gr_ln (o := 10) (by decide)
theorem g_p18 : gm_fv (gr_H h m t) m 18 = .ref (m + 10) := gr_fv (o := 0) (by decide) (by decide)
theorem g_a10 (hi : i < 720) : gm_fv (gr_H h m t) (m + 10) i = .int (t.1 10 i) := gr_fv (o := 10) (by decide) hi
theorem g_w10 : gm_sf (gr_H h m t) (m + 10) i (.int x) = gr_H h m (gr_ui t 10 i x) := gr_wi (o := 10) (by decide) (fun z => by cases z) rfl
theorem g_k11 : gm_kd (gr_H h m t) (m + 11) = 200 := gr_kd (o := 11) (by decide) (by decide) (fun z => by cases z)
theorem g_l11 : gm_ln (gr_H h m t) (m + 11) = 720 := gr_ln (o := 11) (by decide)
theorem g_p19 : gm_fv (gr_H h m t) m 19 = .ref (m + 11) := gr_fv (o := 0) (by decide) (by decide)
theorem g_a11 (hi : i < 720) : gm_fv (gr_H h m t) (m + 11) i = .int (t.1 11 i) := gr_fv (o := 11) (by decide) hi
theorem g_w11 : gm_sf (gr_H h m t) (m + 11) i (.int x) = gr_H h m (gr_ui t 11 i x) := gr_wi (o := 11) (by decide) (fun z => by cases z) rfl
theorem g_k12 : gm_kd (gr_H h m t) (m + 12) = 200 := gr_kd (o := 12) (by decide) (by decide) (fun z => by cases z)
theorem g_l12 : gm_ln (gr_H h m t) (m + 12) = 720 := gr_ln (o := 12) (by decide)
theorem g_p20 : gm_fv (gr_H h m t) m 20 = .ref (m + 12) := gr_fv (o := 0) (by decide) (by decide)
theorem g_a12 (hi : i < 720) : gm_fv (gr_H h m t) (m + 12) i = .int (t.1 12 i) := gr_fv (o := 12) (by decide) hi
theorem g_w12 : gm_sf (gr_H h m t) (m + 12) i (.int x) = gr_H h m (gr_ui t 12 i x) := gr_wi (o := 12) (by decide) (fun z => by cases z) rfl
theorem g_k13 : gm_kd (gr_H h m t) (m + 13) = 200 := gr_kd (o := 13) (by decide) (by decide) (fun z => by cases z)
theorem g_l13 : gm_ln (gr_H h m t) (m + 13) = 720 := gr_ln (o := 13) (by decide)
theorem g_p21 : gm_fv (gr_H h m t) m 21 = .ref (m + 13) := gr_fv (o := 0) (by decide) (by decide)
theorem g_a13 (hi : i < 720) : gm_fv (gr_H h m t) (m + 13) i = .int (t.1 13 i) := gr_fv (o := 13) (by decide) hi
theorem g_w13 : gm_sf (gr_H h m t) (m + 13) i (.int x) = gr_H h m (gr_ui t 13 i x) := gr_wi (o := 13) (by decide) (fun z => by cases z) rfl
theorem g_k14 : gm_kd (gr_H h m t) (m + 14) = 200 := gr_kd (o := 14) (by decide) (by decide) (fun z => by cases z)
theorem g_l14 : gm_ln (gr_H h m t) (m + 14) = 720 := gr_ln (o := 14) (by decide)
theorem g_p22 : gm_fv (gr_H h m t) m 22 = .ref (m + 14) := gr_fv (o := 0) (by decide) (by decide)
theorem g_a14 (hi : i < 720) : gm_fv (gr_H h m t) (m + 14) i = .int (t.1 14 i) := gr_fv (o := 14) (by decide) hi
theorem g_w14 : gm_sf (gr_H h m t) (m + 14) i (.int x) = gr_H h m (gr_ui t 14 i x) := gr_wi (o := 14) (by decide) (fun z => by cases z) rfl
theorem g_k15 : gm_kd (gr_H h m t) (m + 15) = 201 := gr_kd (o := 15) (by decide) (by decide) (fun z => by cases z)
theorem g_l15 : gm_ln (gr_H h m t) (m + 15) = 4000 := gr_ln (o := 15) (by decide)
theorem g_p24 : gm_fv (gr_H h m t) m 24 = .ref (m + 15) := gr_fv (o := 0) (by decide) (by decide)
theorem g_a15 (hi : i < 4000) : gm_fv (gr_H h m t) (m + 15) i = .long (t.2 15 i) := gr_fv (o := 15) (by decide) hi
theorem g_w15 : gm_sf (gr_H h m t) (m + 15) i (.long y) = gr_H h m (gr_ul t 15 i y) := gr_wl (o := 15) (by decide) (by decide) rfl
theorem g_k16 : gm_kd (gr_H h m t) (m + 16) = 200 := gr_kd (o := 16) (by decide) (by decide) (fun z => by cases z)
theorem g_l16 : gm_ln (gr_H h m t) (m + 16) = 130 := gr_ln (o := 16) (by decide)
theorem g_p26 : gm_fv (gr_H h m t) m 26 = .ref (m + 16) := gr_fv (o := 0) (by decide) (by decide)
theorem g_a16 (hi : i < 130) : gm_fv (gr_H h m t) (m + 16) i = .int (t.1 16 i) := gr_fv (o := 16) (by decide) hi
theorem g_w16 : gm_sf (gr_H h m t) (m + 16) i (.int x) = gr_H h m (gr_ui t 16 i x) := gr_wi (o := 16) (by decide) (fun z => by cases z) rfl
theorem g_k17 : gm_kd (gr_H h m t) (m + 17) = 200 := gr_kd (o := 17) (by decide) (by decide) (fun z => by cases z)
theorem g_l17 : gm_ln (gr_H h m t) (m + 17) = 130 := gr_ln (o := 17) (by decide)
theorem g_p27 : gm_fv (gr_H h m t) m 27 = .ref (m + 17) := gr_fv (o := 0) (by decide) (by decide)
theorem g_a17 (hi : i < 130) : gm_fv (gr_H h m t) (m + 17) i = .int (t.1 17 i) := gr_fv (o := 17) (by decide) hi
theorem g_w17 : gm_sf (gr_H h m t) (m + 17) i (.int x) = gr_H h m (gr_ui t 17 i x) := gr_wi (o := 17) (by decide) (fun z => by cases z) rfl
theorem g_k18 : gm_kd (gr_H h m t) (m + 18) = 200 := gr_kd (o := 18) (by decide) (by decide) (fun z => by cases z)
theorem g_l18 : gm_ln (gr_H h m t) (m + 18) = 130 := gr_ln (o := 18) (by decide)
theorem g_p29 : gm_fv (gr_H h m t) m 29 = .ref (m + 18) := gr_fv (o := 0) (by decide) (by decide)
theorem g_a18 (hi : i < 130) : gm_fv (gr_H h m t) (m + 18) i = .int (t.1 18 i) := gr_fv (o := 18) (by decide) hi
theorem g_w18 : gm_sf (gr_H h m t) (m + 18) i (.int x) = gr_H h m (gr_ui t 18 i x) := gr_wi (o := 18) (by decide) (fun z => by cases z) rfl
theorem g_k19 : gm_kd (gr_H h m t) (m + 19) = 200 := gr_kd (o := 19) (by decide) (by decide) (fun z => by cases z)
theorem g_l19 : gm_ln (gr_H h m t) (m + 19) = 130 := gr_ln (o := 19) (by decide)
theorem g_p30 : gm_fv (gr_H h m t) m 30 = .ref (m + 19) := gr_fv (o := 0) (by decide) (by decide)
theorem g_a19 (hi : i < 130) : gm_fv (gr_H h m t) (m + 19) i = .int (t.1 19 i) := gr_fv (o := 19) (by decide) hi
theorem g_w19 : gm_sf (gr_H h m t) (m + 19) i (.int x) = gr_H h m (gr_ui t 19 i x) := gr_wi (o := 19) (by decide) (fun z => by cases z) rfl
theorem g_k20 : gm_kd (gr_H h m t) (m + 20) = 200 := gr_kd (o := 20) (by decide) (by decide) (fun z => by cases z)
theorem g_l20 : gm_ln (gr_H h m t) (m + 20) = 130 := gr_ln (o := 20) (by decide)
theorem g_p31 : gm_fv (gr_H h m t) m 31 = .ref (m + 20) := gr_fv (o := 0) (by decide) (by decide)
theorem g_a20 (hi : i < 130) : gm_fv (gr_H h m t) (m + 20) i = .int (t.1 20 i) := gr_fv (o := 20) (by decide) hi
theorem g_w20 : gm_sf (gr_H h m t) (m + 20) i (.int x) = gr_H h m (gr_ui t 20 i x) := gr_wi (o := 20) (by decide) (fun z => by cases z) rfl
theorem g_k21 : gm_kd (gr_H h m t) (m + 21) = 200 := gr_kd (o := 21) (by decide) (by decide) (fun z => by cases z)
theorem g_l21 : gm_ln (gr_H h m t) (m + 21) = 130 := gr_ln (o := 21) (by decide)
theorem g_p32 : gm_fv (gr_H h m t) m 32 = .ref (m + 21) := gr_fv (o := 0) (by decide) (by decide)
theorem g_a21 (hi : i < 130) : gm_fv (gr_H h m t) (m + 21) i = .int (t.1 21 i) := gr_fv (o := 21) (by decide) hi
theorem g_w21 : gm_sf (gr_H h m t) (m + 21) i (.int x) = gr_H h m (gr_ui t 21 i x) := gr_wi (o := 21) (by decide) (fun z => by cases z) rfl
theorem g_k22 : gm_kd (gr_H h m t) (m + 22) = 200 := gr_kd (o := 22) (by decide) (by decide) (fun z => by cases z)
theorem g_l22 : gm_ln (gr_H h m t) (m + 22) = 130 := gr_ln (o := 22) (by decide)
theorem g_p33 : gm_fv (gr_H h m t) m 33 = .ref (m + 22) := gr_fv (o := 0) (by decide) (by decide)
theorem g_a22 (hi : i < 130) : gm_fv (gr_H h m t) (m + 22) i = .int (t.1 22 i) := gr_fv (o := 22) (by decide) hi
theorem g_w22 : gm_sf (gr_H h m t) (m + 22) i (.int x) = gr_H h m (gr_ui t 22 i x) := gr_wi (o := 22) (by decide) (fun z => by cases z) rfl
theorem g_k23 : gm_kd (gr_H h m t) (m + 23) = 201 := gr_kd (o := 23) (by decide) (by decide) (fun z => by cases z)
theorem g_l23 : gm_ln (gr_H h m t) (m + 23) = 130 := gr_ln (o := 23) (by decide)
theorem g_p34 : gm_fv (gr_H h m t) m 34 = .ref (m + 23) := gr_fv (o := 0) (by decide) (by decide)
theorem g_a23 (hi : i < 130) : gm_fv (gr_H h m t) (m + 23) i = .long (t.2 23 i) := gr_fv (o := 23) (by decide) hi
theorem g_w23 : gm_sf (gr_H h m t) (m + 23) i (.long y) = gr_H h m (gr_ul t 23 i y) := gr_wl (o := 23) (by decide) (by decide) rfl
theorem g_k24 : gm_kd (gr_H h m t) (m + 24) = 200 := gr_kd (o := 24) (by decide) (by decide) (fun z => by cases z)
theorem g_l24 : gm_ln (gr_H h m t) (m + 24) = 130 := gr_ln (o := 24) (by decide)
theorem g_p35 : gm_fv (gr_H h m t) m 35 = .ref (m + 24) := gr_fv (o := 0) (by decide) (by decide)
theorem g_a24 (hi : i < 130) : gm_fv (gr_H h m t) (m + 24) i = .int (t.1 24 i) := gr_fv (o := 24) (by decide) hi
theorem g_w24 : gm_sf (gr_H h m t) (m + 24) i (.int x) = gr_H h m (gr_ui t 24 i x) := gr_wi (o := 24) (by decide) (fun z => by cases z) rfl
theorem g_k25 : gm_kd (gr_H h m t) (m + 25) = 200 := gr_kd (o := 25) (by decide) (by decide) (fun z => by cases z)
theorem g_l25 : gm_ln (gr_H h m t) (m + 25) = 1040 := gr_ln (o := 25) (by decide)
theorem g_p36 : gm_fv (gr_H h m t) m 36 = .ref (m + 25) := gr_fv (o := 0) (by decide) (by decide)
theorem g_a25 (hi : i < 1040) : gm_fv (gr_H h m t) (m + 25) i = .int (t.1 25 i) := gr_fv (o := 25) (by decide) hi
theorem g_w25 : gm_sf (gr_H h m t) (m + 25) i (.int x) = gr_H h m (gr_ui t 25 i x) := gr_wi (o := 25) (by decide) (fun z => by cases z) rfl
theorem g_k26 : gm_kd (gr_H h m t) (m + 26) = 200 := gr_kd (o := 26) (by decide) (by decide) (fun z => by cases z)
theorem g_l26 : gm_ln (gr_H h m t) (m + 26) = 1040 := gr_ln (o := 26) (by decide)
theorem g_p37 : gm_fv (gr_H h m t) m 37 = .ref (m + 26) := gr_fv (o := 0) (by decide) (by decide)
theorem g_a26 (hi : i < 1040) : gm_fv (gr_H h m t) (m + 26) i = .int (t.1 26 i) := gr_fv (o := 26) (by decide) hi
theorem g_w26 : gm_sf (gr_H h m t) (m + 26) i (.int x) = gr_H h m (gr_ui t 26 i x) := gr_wi (o := 26) (by decide) (fun z => by cases z) rfl
theorem g_k27 : gm_kd (gr_H h m t) (m + 27) = 200 := gr_kd (o := 27) (by decide) (by decide) (fun z => by cases z)
theorem g_l27 : gm_ln (gr_H h m t) (m + 27) = 130 := gr_ln (o := 27) (by decide)
theorem g_p38 : gm_fv (gr_H h m t) m 38 = .ref (m + 27) := gr_fv (o := 0) (by decide) (by decide)
theorem g_a27 (hi : i < 130) : gm_fv (gr_H h m t) (m + 27) i = .int (t.1 27 i) := gr_fv (o := 27) (by decide) hi
theorem g_w27 : gm_sf (gr_H h m t) (m + 27) i (.int x) = gr_H h m (gr_ui t 27 i x) := gr_wi (o := 27) (by decide) (fun z => by cases z) rfl
theorem g_k28 : gm_kd (gr_H h m t) (m + 28) = 200 := gr_kd (o := 28) (by decide) (by decide) (fun z => by cases z)
theorem g_l28 : gm_ln (gr_H h m t) (m + 28) = 80 := gr_ln (o := 28) (by decide)
theorem g_p40 : gm_fv (gr_H h m t) m 40 = .ref (m + 28) := gr_fv (o := 0) (by decide) (by decide)
theorem g_a28 (hi : i < 80) : gm_fv (gr_H h m t) (m + 28) i = .int (t.1 28 i) := gr_fv (o := 28) (by decide) hi
theorem g_w28 : gm_sf (gr_H h m t) (m + 28) i (.int x) = gr_H h m (gr_ui t 28 i x) := gr_wi (o := 28) (by decide) (fun z => by cases z) rfl
theorem g_k29 : gm_kd (gr_H h m t) (m + 29) = 200 := gr_kd (o := 29) (by decide) (by decide) (fun z => by cases z)
theorem g_l29 : gm_ln (gr_H h m t) (m + 29) = 80 := gr_ln (o := 29) (by decide)
theorem g_p41 : gm_fv (gr_H h m t) m 41 = .ref (m + 29) := gr_fv (o := 0) (by decide) (by decide)
theorem g_a29 (hi : i < 80) : gm_fv (gr_H h m t) (m + 29) i = .int (t.1 29 i) := gr_fv (o := 29) (by decide) hi
theorem g_w29 : gm_sf (gr_H h m t) (m + 29) i (.int x) = gr_H h m (gr_ui t 29 i x) := gr_wi (o := 29) (by decide) (fun z => by cases z) rfl
theorem g_k30 : gm_kd (gr_H h m t) (m + 30) = 200 := gr_kd (o := 30) (by decide) (by decide) (fun z => by cases z)
theorem g_l30 : gm_ln (gr_H h m t) (m + 30) = 80 := gr_ln (o := 30) (by decide)
theorem g_p42 : gm_fv (gr_H h m t) m 42 = .ref (m + 30) := gr_fv (o := 0) (by decide) (by decide)
theorem g_a30 (hi : i < 80) : gm_fv (gr_H h m t) (m + 30) i = .int (t.1 30 i) := gr_fv (o := 30) (by decide) hi
theorem g_w30 : gm_sf (gr_H h m t) (m + 30) i (.int x) = gr_H h m (gr_ui t 30 i x) := gr_wi (o := 30) (by decide) (fun z => by cases z) rfl
theorem g_k31 : gm_kd (gr_H h m t) (m + 31) = 200 := gr_kd (o := 31) (by decide) (by decide) (fun z => by cases z)
theorem g_l31 : gm_ln (gr_H h m t) (m + 31) = 80 := gr_ln (o := 31) (by decide)
theorem g_p43 : gm_fv (gr_H h m t) m 43 = .ref (m + 31) := gr_fv (o := 0) (by decide) (by decide)
theorem g_a31 (hi : i < 80) : gm_fv (gr_H h m t) (m + 31) i = .int (t.1 31 i) := gr_fv (o := 31) (by decide) hi
theorem g_w31 : gm_sf (gr_H h m t) (m + 31) i (.int x) = gr_H h m (gr_ui t 31 i x) := gr_wi (o := 31) (by decide) (fun z => by cases z) rfl
theorem g_k32 : gm_kd (gr_H h m t) (m + 32) = 200 := gr_kd (o := 32) (by decide) (by decide) (fun z => by cases z)
theorem g_l32 : gm_ln (gr_H h m t) (m + 32) = 80 := gr_ln (o := 32) (by decide)
theorem g_p44 : gm_fv (gr_H h m t) m 44 = .ref (m + 32) := gr_fv (o := 0) (by decide) (by decide)
theorem g_a32 (hi : i < 80) : gm_fv (gr_H h m t) (m + 32) i = .int (t.1 32 i) := gr_fv (o := 32) (by decide) hi
theorem g_w32 : gm_sf (gr_H h m t) (m + 32) i (.int x) = gr_H h m (gr_ui t 32 i x) := gr_wi (o := 32) (by decide) (fun z => by cases z) rfl
theorem g_k33 : gm_kd (gr_H h m t) (m + 33) = 200 := gr_kd (o := 33) (by decide) (by decide) (fun z => by cases z)
theorem g_l33 : gm_ln (gr_H h m t) (m + 33) = 80 := gr_ln (o := 33) (by decide)
theorem g_p45 : gm_fv (gr_H h m t) m 45 = .ref (m + 33) := gr_fv (o := 0) (by decide) (by decide)
theorem g_a33 (hi : i < 80) : gm_fv (gr_H h m t) (m + 33) i = .int (t.1 33 i) := gr_fv (o := 33) (by decide) hi
theorem g_w33 : gm_sf (gr_H h m t) (m + 33) i (.int x) = gr_H h m (gr_ui t 33 i x) := gr_wi (o := 33) (by decide) (fun z => by cases z) rfl
theorem g_k34 : gm_kd (gr_H h m t) (m + 34) = 200 := gr_kd (o := 34) (by decide) (by decide) (fun z => by cases z)
theorem g_l34 : gm_ln (gr_H h m t) (m + 34) = 80 := gr_ln (o := 34) (by decide)
theorem g_p46 : gm_fv (gr_H h m t) m 46 = .ref (m + 34) := gr_fv (o := 0) (by decide) (by decide)
theorem g_a34 (hi : i < 80) : gm_fv (gr_H h m t) (m + 34) i = .int (t.1 34 i) := gr_fv (o := 34) (by decide) hi
theorem g_w34 : gm_sf (gr_H h m t) (m + 34) i (.int x) = gr_H h m (gr_ui t 34 i x) := gr_wi (o := 34) (by decide) (fun z => by cases z) rfl
theorem g_f0 : gm_fv (gr_H h m t) m 0 = .int (t.1 0 0) := gr_fv (o := 0) (by decide) (by decide)
theorem g_s0 : gm_sf (gr_H h m t) m 0 (.int x) = gr_H h m (gr_ui t 0 0 x) := gr_wi (o := 0) (by decide) (fun _ => rfl) rfl
theorem g_f1 : gm_fv (gr_H h m t) m 1 = .int (t.1 0 1) := gr_fv (o := 0) (by decide) (by decide)
theorem g_s1 : gm_sf (gr_H h m t) m 1 (.int x) = gr_H h m (gr_ui t 0 1 x) := gr_wi (o := 0) (by decide) (fun _ => rfl) rfl
theorem g_f2 : gm_fv (gr_H h m t) m 2 = .int (t.1 0 2) := gr_fv (o := 0) (by decide) (by decide)
theorem g_s2 : gm_sf (gr_H h m t) m 2 (.int x) = gr_H h m (gr_ui t 0 2 x) := gr_wi (o := 0) (by decide) (fun _ => rfl) rfl
theorem g_f3 : gm_fv (gr_H h m t) m 3 = .int (t.1 0 3) := gr_fv (o := 0) (by decide) (by decide)
theorem g_s3 : gm_sf (gr_H h m t) m 3 (.int x) = gr_H h m (gr_ui t 0 3 x) := gr_wi (o := 0) (by decide) (fun _ => rfl) rfl
theorem g_f5 : gm_fv (gr_H h m t) m 5 = .int (t.1 0 5) := gr_fv (o := 0) (by decide) (by decide)
theorem g_s5 : gm_sf (gr_H h m t) m 5 (.int x) = gr_H h m (gr_ui t 0 5 x) := gr_wi (o := 0) (by decide) (fun _ => rfl) rfl
theorem g_f6 : gm_fv (gr_H h m t) m 6 = .int (t.1 0 6) := gr_fv (o := 0) (by decide) (by decide)
theorem g_s6 : gm_sf (gr_H h m t) m 6 (.int x) = gr_H h m (gr_ui t 0 6 x) := gr_wi (o := 0) (by decide) (fun _ => rfl) rfl
theorem g_f7 : gm_fv (gr_H h m t) m 7 = .int (t.1 0 7) := gr_fv (o := 0) (by decide) (by decide)
theorem g_s7 : gm_sf (gr_H h m t) m 7 (.int x) = gr_H h m (gr_ui t 0 7 x) := gr_wi (o := 0) (by decide) (fun _ => rfl) rfl
theorem g_f8 : gm_fv (gr_H h m t) m 8 = .int (t.1 0 8) := gr_fv (o := 0) (by decide) (by decide)
theorem g_s8 : gm_sf (gr_H h m t) m 8 (.int x) = gr_H h m (gr_ui t 0 8 x) := gr_wi (o := 0) (by decide) (fun _ => rfl) rfl
theorem g_f9 : gm_fv (gr_H h m t) m 9 = .int (t.1 0 9) := gr_fv (o := 0) (by decide) (by decide)
theorem g_s9 : gm_sf (gr_H h m t) m 9 (.int x) = gr_H h m (gr_ui t 0 9 x) := gr_wi (o := 0) (by decide) (fun _ => rfl) rfl
theorem g_f23 : gm_fv (gr_H h m t) m 23 = .int (t.1 0 23) := gr_fv (o := 0) (by decide) (by decide)
theorem g_s23 : gm_sf (gr_H h m t) m 23 (.int x) = gr_H h m (gr_ui t 0 23 x) := gr_wi (o := 0) (by decide) (fun _ => rfl) rfl
theorem g_f25 : gm_fv (gr_H h m t) m 25 = .int (t.1 0 25) := gr_fv (o := 0) (by decide) (by decide)
theorem g_s25 : gm_sf (gr_H h m t) m 25 (.int x) = gr_H h m (gr_ui t 0 25 x) := gr_wi (o := 0) (by decide) (fun _ => rfl) rfl
theorem g_f28 : gm_fv (gr_H h m t) m 28 = .int (t.1 0 28) := gr_fv (o := 0) (by decide) (by decide)
theorem g_s28 : gm_sf (gr_H h m t) m 28 (.int x) = gr_H h m (gr_ui t 0 28 x) := gr_wi (o := 0) (by decide) (fun _ => rfl) rfl
theorem g_f39 : gm_fv (gr_H h m t) m 39 = .int (t.1 0 39) := gr_fv (o := 0) (by decide) (by decide)
theorem g_s39 : gm_sf (gr_H h m t) m 39 (.int x) = gr_H h m (gr_ui t 0 39 x) := gr_wi (o := 0) (by decide) (fun _ => rfl) rfl
theorem g_f47 : gm_fv (gr_H h m t) m 47 = .int (t.1 0 47) := gr_fv (o := 0) (by decide) (by decide)
theorem g_s47 : gm_sf (gr_H h m t) m 47 (.int x) = gr_H h m (gr_ui t 0 47 x) := gr_wi (o := 0) (by decide) (fun _ => rfl) rfl
end GR
