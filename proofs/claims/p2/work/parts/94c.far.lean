/-! NEW CELLS ALONE; a new object. -/
section FAR
variable {E : Nat → Value} {h h' : gm_H} {x t n : Nat} {ca : Nat → Nat} {K : gs_K} {F G : Nat → Prop} {s : gs_S}
theorem gx_R.far (q : gx_R E h x ca K F s) (hle : h.1 ≤ h'.1) (hr : ∀ a, a < h.1 → gm_rd h' a = gm_rd h a) : gx_R E h' x ca K F s := by
  have hx := q.1.2.2.2.2.2.2.2.2.2.2.2.2.2.2.2.2.2.2
  have r0 := hr x (by omega)
  have r1 := hr (x + 1) (by omega)
  have r2 := hr (x + 2) (by omega)
  have r3 := hr (x + 3) (by omega)
  have r4 := hr (x + 4) (by omega)
  have r5 := hr (x + 5) (by omega)
  have r6 := hr (x + 6) (by omega)
  refine q.own ⟨hle, fun a o => hr a o.2.1⟩ ?_ ?_ (fun c _ => gv_fv r1) ?_ (fun i _ => gv_fv r3) (fun i _ => ⟨gv_fv r5, gv_fv r6⟩) rfl rfl
  · have z := q.1
    unfold gx_A at z ⊢
    simp only [gv_kd r0, gv_fv r0, gv_kd r1, gv_ln r1, gv_kd r2, gv_ln r2, gv_kd r3, gv_ln r3, gv_kd r4, gv_fv r4, gv_kd r5, gv_ln r5, gv_kd r6, gv_ln r6]
    obtain ⟨z1, z2, z3, z4, z5, z6, z7, z8, z9, z10, z11, z12, z13, z14, z15, z16, z17, z18, z19⟩ := z
    exact ⟨z1, z2, z3, z4, z5, z6, z7, z8, z9, z10, z11, z12, z13, z14, z15, z16, z17, z18, by omega⟩
  · have z := q.2.1
    unfold gx_B at z ⊢
    simp only [gv_fv r0, gv_fv r2]
    exact z
  · have z := q.2.2.2.1
    unfold gx_M at z ⊢
    simp only [gv_fv r0, gv_fv r4]
    exact z
theorem gx_mv.far (hx : x + 6 < h.1) (hle : h.1 ≤ h'.1) (hr : ∀ a, a < h.1 → gm_rd h' a = gm_rd h a) : gx_mv h h' x G s :=
  ⟨⟨hle, fun a o => hr a o.2.1⟩, fun c => gv_fv (hr _ (by omega)), gv_fv (hr _ (by omega)), fun i _ => gv_fv (hr _ (by omega)), fun i _ => ⟨gv_fv (hr _ (by omega)), gv_fv (hr _ (by omega))⟩⟩
/-- an object made at t: sort, class, a row of so many values -/
def gx_mk (h : gm_H) (t : Nat) (so : Int32) (ow : Value) (n : Nat) : gm_H := gm_sf (gm_nw (gm_sf (gm_sf h t 0 (.int so)) t 1 ow) (101, List.replicate n (.long 0)) n) t 2 (.ref h.1)
def gx_n1 (h : gm_H) : gm_H := gm_nw h (4, [.int 0, .null, .null, .int 0, .int 0]) 5
theorem gx_n1_1 : (gx_n1 h).1 = h.1 + 1 := rfl
theorem gx_mk_1 {so : Int32} {ow : Value} : (gx_mk h t so ow n).1 = h.1 + 1 ∧ (gx_mk h t so ow n).2.1 = h.2.1 + n := by
  unfold gx_mk
  simp only [gm_sf_1, gm_sf_2, gm_nw_1, gm_nw_2, and_self]
theorem gx_mk_rd {so : Int32} {ow : Value} : ∀ a, a < h.1 → gm_rd (gx_mk (gx_n1 h) h.1 so ow n) a = gm_rd h a := by
  intro a ha
  unfold gx_mk gx_n1
  rw [gm_rd_sfn (by omega), gm_rd_nwn (by simp only [gm_sf_1, gm_nw_1]; omega), gm_rd_sfn (by omega), gm_rd_sfn (by omega), gm_rd_nwn (by omega)]
theorem gx_mk_th {so : Int32} {o : Option Nat} (hn : n < 1000) : gx_th (gx_mk (gx_n1 h) h.1 so (gx_ow ca o) n) ca (so, o, List.replicate n 0, 0, 0) h.1 := by
  have k0 : gm_kd (gx_n1 h) h.1 = 4 := by unfold gx_n1; rw [gm_kd_nw1]; rfl
  have l0 : gm_ln (gx_n1 h) h.1 = 5 := gm_ln_nw1
  have f3 : ∀ j, gm_fv (gx_n1 h) h.1 j = ([.int 0, .null, .null, .int 0, .int 0] : List Value).getD j gm_u := fun j => gm_fv_nw1
  have n1 : h.1 ≠ h.1 + 1 := by omega
  have n2 : h.1 + 1 ≠ h.1 := by omega
  have e1 : (gm_sf (gm_sf (gx_n1 h) h.1 0 (.int so)) h.1 1 (gx_ow ca o)).1 = h.1 + 1 := by simp only [gm_sf_1]; rfl
  have e1' : h.1 ≠ (gm_sf (gm_sf (gx_n1 h) h.1 0 (.int so)) h.1 1 (gx_ow ca o)).1 := by rw [e1]; omega
  refine ⟨?_, ?_, ?_, ?_, ?_, ?_, ?_, ?_, ?_, ?_⟩
  · unfold gx_mk; rw [gm_kd_sf, gm_kd_nw e1', gm_kd_sf, gm_kd_sf, k0]
  · unfold gx_mk; rw [gm_fv_sfj (by decide), gm_fv_nw e1', gm_fv_sfj (by decide), gm_fv_sf (by rw [l0]; decide)]
  · unfold gx_mk; rw [gm_fv_sfj (by decide), gm_fv_nw e1', gm_fv_sf (by rw [gm_ln_sf, l0]; decide)]
  · unfold gx_mk; rw [gm_fv_sf (by rw [gm_ln_nw e1', gm_ln_sf, gm_ln_sf, l0]; decide)]; rfl
  · unfold gx_mk; rw [gm_fv_sfj (by decide), gm_fv_nw e1', gm_fv_sfj (by decide), gm_fv_sfj (by decide), f3]; rfl
  · unfold gx_mk; rw [gm_fv_sfj (by decide), gm_fv_nw e1', gm_fv_sfj (by decide), gm_fv_sfj (by decide), f3]; rfl
  · unfold gx_mk; rw [gm_kd_sf, ← e1, gm_kd_nw1]; rfl
  · unfold gx_mk; rw [gm_ln_sf, ← e1, gm_ln_nw1]; simp
  · simpa using hn
  · intro j v hj
    unfold gx_mk
    rw [gm_fv_sfa n2, ← e1, gm_fv_nw1]
    simp only [List.getElem?_replicate] at hj
    split at hj
    · rename_i hl
      cases hj
      simp [List.getD, hl]
    · cases hj
end FAR
section INTS
theorem i32_as {a b c : Int32} : a + b - c = a + (b - c) := by rw [Int32.sub_eq_add_neg, Int32.sub_eq_add_neg, Int32.add_assoc]
theorem nI_addn {f : Nat} {j : Int32} (hf : f < 1000) (hj : j < 0) : nI f + j < nI f := by
  rw [Int32.lt_iff_toInt_lt, Int32.toInt_add, nI_toInt (by omega)]
  rw [Int32.lt_iff_toInt_lt, Int32.toInt_zero] at hj
  have := Int32.le_toInt j
  have : ((f : Int) + j.toInt).bmod (2 ^ 32) = f + j.toInt := Int.bmod_eq_of_le (by omega) (by omega)
  omega
theorem nI_addw {f m : Nat} (hf : f < 1000) (hm : m < 2 ^ 31) (h : 2 ^ 31 ≤ f + m) : nI f + nI m < nI f := by
  rw [Int32.lt_iff_toInt_lt, Int32.toInt_add, nI_toInt (show f < 2 ^ 31 by omega), nI_toInt hm]
  have : ((f : Int) + m).bmod (2 ^ 32) = (f : Int) + m - 2 ^ 32 := by
    have e : ((f : Int) + m) % ((2 ^ 32 : Nat) : Int) = (f : Int) + m := Int.emod_eq_of_lt (by omega) (by omega)
    simp only [Int.bmod, e]
    rw [if_neg (by omega)]
    omega
  omega
end INTS
