/-! THE CLASS, 1: small methods. -/
section X1
variable {E : Nat → Value} {d : Nat} {h : gm_H}
theorem x_isName (x : Int32) : gm_Do E d 62 [.int x] h (.inl (some (.int (if x < 0 then 0 else if 26 ≤ x then 0 else 1))), h) := by
  show gm_Go E d 62 0 [.int x] [] h _
  simp only [r62_0, r62_1, r62_4, r62_5, r62_7, r62_10, r62_11, r62_14, r62_15_0, r62_15_1]
  by_cases h1 : x < 0
  · simp [h1]
  · by_cases h2 : 26 ≤ x <;> simp [h1, h2]
theorem x_mayExtend (k a : Int32) : gm_Do E d 63 [.int k, .int a] h (.inl (some (.int (if 2 < a then 0 else if k ≤ 2 then (if k = 0 then (if a = 0 then 1 else 0) else 1) else 0))), h) := by
  show gm_Go E d 63 0 [.int k, .int a] [] h _
  simp only [r63_0, r63_1, r63_2, r63_5, r63_6, r63_7, r63_10, r63_11_0, r63_12, r63_13, r63_16, r63_17, r63_20, r63_21, r63_24, r63_25_0, r63_25_1]
  by_cases h1 : 2 < a
  · simp [h1]
  · by_cases h2 : k ≤ 2
    · by_cases h3 : k = 0
      · subst h3
        by_cases h4 : a = 0 <;> simp [h1, h4]
      · simp [h1, h2, h3]
    · simp [h1, h2]
theorem x_size {o : Nat} {f0 f1 : Value} {a b : Int32} (hr : gm_rd h o = some (2, [f0, f1, .int a, .int b])) : gm_Do E d 111 [.ref o] h (.inl (some (.int (b - a))), h) := by
  show gm_Go E d 111 0 [.ref o] [] h _
  rw [r111_0, r111_1 hr rfl, r111_4, r111_5 hr rfl, r111_8, r111_9]
theorem x_rewind {o : Nat} {f0 f1 : Value} {a b x y : Int32} (hr : gm_rd h o = some (2, [f0, f1, .int a, .int b])) : gm_Do E d 112 [.ref o, .int x, .int y] h (.inl none, gm_wr h o (2, [f0, f1, .int x, .int y])) := by
  show gm_Go E d 112 0 [.ref o, .int x, .int y] [] h _
  have h1 : gm_rd (gm_wr h o (2, [f0, f1, .int x, .int b])) o = some (2, [f0, f1, .int x, .int b]) := by simp [gm_rd, gm_wr]
  rw [r112_0, r112_1, r112_2 hr (by simp) ⟨rfl, rfl⟩, r112_5, r112_6]
  show gm_Go E d 112 7 _ _ (gm_wr h o (2, [f0, f1, .int x, .int b])) _
  rw [r112_7 h1 (by simp) ⟨rfl, rfl⟩, r112_10]
  simp [gm_wr]
  funext q
  split <;> rfl
end X1
