/-! THE REFERENCE, 17: names of arrays. -/
section MI
variable {E : Nat → Value} {d m : Nat} {h : gm_H} {t : gr_t} {K : gs_K} {s : gs_S}
theorem gr_l8 {a c : Nat} (hc : c < 2 ^ 63) : gs_num K a 8 = Int64.ofNat c ↔ gs_nat K a 8 = c := by
  rw [gs_num_nat 8 (by decide)]
  have l := gs_nat_lt (K := K) (a := a) 8
  constructor
  · intro e
    have e2 : (Int64.ofNat (gs_nat K a 8)).toBitVec.toNat = (Int64.ofNat c).toBitVec.toNat := by rw [e]
    have f : ∀ x : Nat, x < 2 ^ 64 → (Int64.ofNat x).toBitVec.toNat = x := fun x hx => by
      show (BitVec.ofNat 64 x).toNat = x
      rw [BitVec.toNat_ofNat]
      exact Nat.mod_eq_of_lt hx
    rw [f _ (by omega), f _ (by omega)] at e2
    exact e2
  · intro e; rw [e]
theorem gr_n8 {a : Nat} : gs_nat K a 8 = (((((((gs_ubn K a * 256 + gs_ubn K (a + 1)) * 256 + gs_ubn K (a + 2)) * 256 + gs_ubn K (a + 3)) * 256 + gs_ubn K (a + 4)) * 256 + gs_ubn K (a + 5)) * 256 + gs_ubn K (a + 6)) * 256 + gs_ubn K (a + 7)) := by
  show ((((((((0 * 256 + gs_ubn K (a + 0)) * 256 + gs_ubn K (a + 1)) * 256 + gs_ubn K (a + 2)) * 256 + gs_ubn K (a + 3)) * 256 + gs_ubn K (a + 4)) * 256 + gs_ubn K (a + 5)) * 256 + gs_ubn K (a + 6)) * 256 + gs_ubn K (a + 7)) = _
  rw [Nat.zero_mul, Nat.zero_add, Nat.add_zero]
theorem gr_d8 {b0 b1 b2 b3 b4 b5 b6 b7 c0 c1 c2 c3 c4 c5 c6 c7 : Nat} (h0 : b0 < 256) (h1 : b1 < 256) (h2 : b2 < 256) (h3 : b3 < 256) (h4 : b4 < 256) (h5 : b5 < 256) (h6 : b6 < 256) (h7 : b7 < 256) (k0 : c0 < 256) (k1 : c1 < 256) (k2 : c2 < 256) (k3 : c3 < 256) (k4 : c4 < 256) (k5 : c5 < 256) (k6 : c6 < 256) (k7 : c7 < 256) :
    (((((((b0 * 256 + b1) * 256 + b2) * 256 + b3) * 256 + b4) * 256 + b5) * 256 + b6) * 256 + b7 = ((((((c0 * 256 + c1) * 256 + c2) * 256 + c3) * 256 + c4) * 256 + c5) * 256 + c6) * 256 + c7) ↔ (b0 = c0 ∧ b1 = c1 ∧ b2 = c2 ∧ b3 = c3 ∧ b4 = c4 ∧ b5 = c5 ∧ b6 = c6 ∧ b7 = c7) := by
  have st : ∀ {x y b c : Nat}, b < 256 → c < 256 → (x * 256 + b = y * 256 + c ↔ x = y ∧ b = c) := by intro x y b c hb hc; omega
  rw [st h7 k7, st h6 k6, st h5 k5, st h4 k4, st h3 k3, st h2 k2, st h1 k1]
  simp only [and_assoc]
theorem gr_sp {a n : Nat} {T : List Nat} (hT : ∀ x ∈ T, x < 128) : gs_spelt K a n (T.map nI) = true ↔ n = T.length ∧ ∀ k, k < n → gs_ubn K (a + k) = T.getD k 0 := by
  unfold gs_spelt
  rw [Bool.and_eq_true, decide_eq_true_eq, List.length_map, List.all_eq_true]
  constructor
  · rintro ⟨rfl, z⟩
    refine ⟨rfl, fun k hk => ?_⟩
    have y := z k (List.mem_range.mpr hk)
    have y := eq_of_beq y
    have e : (T.map nI).getD k 0 = nI (T.getD k 0) := by
      rw [List.getD_eq_getElem?_getD, List.getD_eq_getElem?_getD, List.getElem?_map, List.getElem?_eq_getElem hk]; rfl
    rw [e] at y
    refine (gr_sbu ?_).mp y
    rw [List.getD_eq_getElem?_getD, List.getElem?_eq_getElem hk]
    exact hT _ (List.getElem_mem hk)
  · rintro ⟨rfl, z⟩
    refine ⟨rfl, fun k hk => ?_⟩
    have hk := List.mem_range.mp hk
    have e : (T.map nI).getD k 0 = nI (T.getD k 0) := by
      rw [List.getD_eq_getElem?_getD, List.getD_eq_getElem?_getD, List.getElem?_map, List.getElem?_eq_getElem hk]; rfl
    rw [e]
    refine beq_iff_eq.mpr ((gr_sbu ?_).mpr (z k hk))
    rw [List.getD_eq_getElem?_getD, List.getElem?_eq_getElem hk]
    exact hT _ (List.getElem_mem hk)
theorem gr_spI {a n : Nat} : gs_spelt K a n gs_tI = true ↔ n = 2 ∧ gs_ubn K a = 91 ∧ gs_ubn K (a + 1) = 73 := by
  have e : gs_tI = [91, 73].map nI := by decide
  rw [e, gr_sp (by decide)]
  constructor
  · rintro ⟨rfl, z⟩
    exact ⟨rfl, z 0 (by decide), z 1 (by decide)⟩
  · rintro ⟨rfl, z0, z1⟩
    refine ⟨rfl, fun k hk => ?_⟩
    rcases (by omega : k = 0 ∨ k = 1) with rfl | rfl
    · exact z0
    · exact z1
theorem gr_spR {a n : Nat} : gs_spelt K a n gs_tR = true ↔ n = 19 ∧ gs_ubn K a = 91 ∧ gs_num K (a + 1) 8 = 5506320655478320225 ∧ gs_num K (a + 9) 8 = 7955378185261704547 ∧ gs_ubn K (a + 17) = 116 ∧ gs_ubn K (a + 18) = 59 := by
  have b := fun i => gs_ubn_lt (K := K) (i := i)
  have k1 : (5506320655478320225 : Int64) = Int64.ofNat (((((((76 * 256 + 106) * 256 + 97) * 256 + 118) * 256 + 97) * 256 + 46) * 256 + 108) * 256 + 97) := by decide
  have k2 : (7955378185261704547 : Int64) = Int64.ofNat (((((((110 * 256 + 103) * 256 + 46) * 256 + 79) * 256 + 98) * 256 + 106) * 256 + 101) * 256 + 99) := by decide
  rw [k1, k2, gr_l8 (by decide), gr_l8 (by decide), gr_n8, gr_n8, gr_d8 (b _) (b _) (b _) (b _) (b _) (b _) (b _) (b _) (by decide) (by decide) (by decide) (by decide) (by decide) (by decide) (by decide) (by decide), gr_d8 (b _) (b _) (b _) (b _) (b _) (b _) (b _) (b _) (by decide) (by decide) (by decide) (by decide) (by decide) (by decide) (by decide) (by decide)]
  have e : gs_tR = [91, 76, 106, 97, 118, 97, 46, 108, 97, 110, 103, 46, 79, 98, 106, 101, 99, 116, 59].map nI := by decide
  rw [e, gr_sp (by decide)]
  constructor
  · rintro ⟨rfl, z⟩
    exact ⟨rfl, z 0 (by decide), ⟨z 1 (by decide), z 2 (by decide), z 3 (by decide), z 4 (by decide), z 5 (by decide), z 6 (by decide), z 7 (by decide), z 8 (by decide)⟩, ⟨z 9 (by decide), z 10 (by decide), z 11 (by decide), z 12 (by decide), z 13 (by decide), z 14 (by decide), z 15 (by decide), z 16 (by decide)⟩, z 17 (by decide), z 18 (by decide)⟩
  · rintro ⟨rfl, z0, ⟨z1, z2, z3, z4, z5, z6, z7, z8⟩, ⟨z9, z10, z11, z12, z13, z14, z15, z16⟩, z17, z18⟩
    refine ⟨rfl, fun k hk => ?_⟩
    rcases (by omega : k = 0 ∨ k = 1 ∨ k = 2 ∨ k = 3 ∨ k = 4 ∨ k = 5 ∨ k = 6 ∨ k = 7 ∨ k = 8 ∨ k = 9 ∨ k = 10 ∨ k = 11 ∨ k = 12 ∨ k = 13 ∨ k = 14 ∨ k = 15 ∨ k = 16 ∨ k = 17 ∨ k = 18) with rfl | rfl | rfl | rfl | rfl | rfl | rfl | rfl | rfl | rfl | rfl | rfl | rfl | rfl | rfl | rfl | rfl | rfl | rfl
    · exact z0
    · exact z1
    · exact z2
    · exact z3
    · exact z4
    · exact z5
    · exact z6
    · exact z7
    · exact z8
    · exact z9
    · exact z10
    · exact z11
    · exact z12
    · exact z13
    · exact z14
    · exact z15
    · exact z16
    · exact z17
    · exact z18

end MI
