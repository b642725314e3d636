/-! THE CLASS, 2: small methods that read fields, call, throw. -/
section X2
variable {E : Nat → Value} {d : Nat} {h : gm_H}
theorem x_isInHeap {o : Nat} {vs : List Value} {n x : Int32} (hr : gm_rd h o = some (0, vs)) (hn : vs[9]? = some (.int n)) : gm_Do E d 65 [.ref o, .int x] h (.inl (some (.int (if x < 0 then 0 else if n ≤ x then 0 else 1))), h) := by
  show gm_Go E d 65 0 [.ref o, .int x] [] h _
  simp only [r65_0, r65_1, r65_4, r65_5, r65_6 hr hn, r65_9, r65_12, r65_13, r65_16, r65_17_0, r65_17_1]
  by_cases h1 : x < 0
  · simp [h1]
  · by_cases h2 : n ≤ x <;> simp [h1, h2]
theorem x_isBlock (x : Int32) : gm_Do E d 74 [.int x] h (.inl (some (.int (if x = 119 then 1 else if x = 122 then 1 else 0))), h) := by
  show gm_Go E d 74 0 [.int x] [] h _
  simp only [r74_0, r74_1, r74_3, r74_6, r74_7, r74_9, r74_12, r74_13, r74_16, r74_17_0, r74_17_1]
  by_cases h1 : x = 119
  · simp [h1]
  · by_cases h2 : x = 122
    · subst h2; simp
    · simp [h1, h2]
theorem x_has {o : Nat} {vs : List Value} {f x : Int32} (hr : gm_rd h o = some (1, vs)) (hf : vs[3]? = some (.int f)) : gm_Do E d 103 [.ref o, .int x] h (.inl (some (.int (if f &&& x = 0 then 0 else 1))), h) := by
  show gm_Go E d 103 0 [.ref o, .int x] [] h _
  simp only [r103_0, r103_1 hr hf, r103_4, r103_5, r103_6, r103_9, r103_10, r103_13, r103_14_0, r103_14_1]
  by_cases h1 : f &&& x = 0 <;> simp [h1]
theorem x_isConstant {o : Nat} {vs : List Value} {f : Int32} (hr : gm_rd h o = some (1, vs)) (hf : vs[3]? = some (.int f)) : gm_Do E (d + 1) 104 [.ref o] h (.inl (some (.int (if f &&& 16 = 0 then 0 else 1))), h) := by
  show gm_Go E (d + 1) 104 0 [.ref o] [] h _
  rw [r104_0, r104_1]
  refine gm_go_call (n104_3 (by simp) (by simp [gm_en1]) hr) m104 m103 (x_has hr hf) ?_
  show gm_Go E (d + 1) 104 6 _ [.int (if f &&& 16 = 0 then 0 else 1)] h _
  by_cases h1 : f &&& 16 = 0
  · simp only [h1, if_pos]; exact r104_6_0.mpr rfl
  · simp only [h1]; exact r104_6_1.mpr rfl
/-- the fault is kept, and an exception made and thrown -/
theorem x_fail {o : Nat} {vs : List Value} {x : Int32} (hr : gm_rd h o = some (0, vs)) (hl : 12 < vs.length) : gm_Do E d 66 [.ref o, .int x] h (.inr h.1, gm_nw (gm_wr h o (0, vs.set 12 (.int x))) (7, []) 6) := by
  show gm_Go E d 66 0 [.ref o, .int x] [] h _
  rw [r66_0, r66_1, r66_2 hr hl ⟨rfl, rfl⟩]
  exact (gr_thr m66 f66_5 rfl rfl rfl rfl rfl rfl rfl rfl rfl (by decide +kernel) (by simp)).mpr rfl
end X2
