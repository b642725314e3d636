/-! THE CLASS, 1: small methods. -/
section X1
variable {E : Nat → Value} {d : Nat} {h : gm_H}
theorem x_isName (x : Int32) : gm_Do E d 10 [.int x] h (.inl (some (.int (if x < 0 then 0 else if 26 ≤ x then 0 else 1))), h) := by
  show gm_Go E d 10 0 [.int x] [] h _
  simp only [r10_0, r10_1, r10_4, r10_5, r10_7, r10_10, r10_11, r10_14, r10_15_0, r10_15_1]
  by_cases h1 : x < 0
  · simp [h1]
  · by_cases h2 : 26 ≤ x <;> simp [h1, h2]
theorem x_mayExtend (k a : Int32) : gm_Do E d 6 [.int k, .int a] h (.inl (some (.int (if 2 < a then 0 else if k ≤ 2 then (if k = 0 then (if a = 0 then 1 else 0) else 1) else 0))), h) := by
  show gm_Go E d 6 0 [.int k, .int a] [] h _
  simp only [r6_0, r6_1, r6_2, r6_5, r6_6, r6_7, r6_10, r6_11_0, r6_12, r6_13, r6_16, r6_17, r6_20, r6_21, r6_24, r6_25_0, r6_25_1]
  by_cases h1 : 2 < a
  · simp [h1]
  · by_cases h2 : k ≤ 2
    · by_cases h3 : k = 0
      · subst h3
        by_cases h4 : a = 0 <;> simp [h1, h4]
      · simp [h1, h2, h3]
    · simp [h1, h2]
theorem x_size {o : Nat} {f0 f1 : Value} {a b : Int32} (hr : gm_rd h o = some (2, [f0, f1, .int a, .int b])) : gm_Do E d 21 [.ref o] h (.inl (some (.int (b - a))), h) := by
  show gm_Go E d 21 0 [.ref o] [] h _
  rw [r21_0, r21_1 hr rfl, r21_4, r21_5 hr rfl, r21_8, r21_9]
theorem x_rewind {o : Nat} {f0 f1 : Value} {a b x y : Int32} (hr : gm_rd h o = some (2, [f0, f1, .int a, .int b])) : gm_Do E d 16 [.ref o, .int x, .int y] h (.inl none, gm_wr h o (2, [f0, f1, .int x, .int y])) := by
  show gm_Go E d 16 0 [.ref o, .int x, .int y] [] h _
  have h1 : gm_rd (gm_wr h o (2, [f0, f1, .int x, .int b])) o = some (2, [f0, f1, .int x, .int b]) := by simp [gm_rd, gm_wr]
  rw [r16_0, r16_1, r16_2 hr (by simp) ⟨rfl, rfl⟩, r16_5, r16_6]
  show gm_Go E d 16 7 _ _ (gm_wr h o (2, [f0, f1, .int x, .int b])) _
  rw [r16_7 h1 (by simp) ⟨rfl, rfl⟩, r16_10]
  simp [gm_wr]
  funext q
  split <;> rfl
end X1
