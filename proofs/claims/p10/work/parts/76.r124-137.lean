/-! java/lang/Math.max(II)I -/
theorem m124 : gm_mt[124]? = some (⟨"java/lang/Math", "max", "(II)I"⟩, prog_11_method_65_code, 2, (some .int), [], 8, 3) := rfl
theorem f124_0 : gm_ft 124 0 = some (.iload_n 0, 1) := by decide +kernel
theorem r124_0 {E : Nat → Value} {d : Nat} {st : List Value} {h : gm_H} {Q : gm_R → gm_H → Prop} {a1 : Value} {x : Int32} : gm_W E d 124 0 [.int x, a1] st h Q ↔ gm_W E d 124 1 [.int x, a1] (.int x :: st) h Q := gw_loc m124 f124_0 rfl rfl
theorem f124_1 : gm_ft 124 1 = some (.iload_n 1, 1) := by decide +kernel
theorem r124_1 {E : Nat → Value} {d : Nat} {st : List Value} {h : gm_H} {Q : gm_R → gm_H → Prop} {a0 : Value} {x : Int32} : gm_W E d 124 1 [a0, .int x] st h Q ↔ gm_W E d 124 2 [a0, .int x] (.int x :: st) h Q := gw_loc m124 f124_1 rfl rfl
theorem f124_2 : gm_ft 124 2 = some (.if_icmp .lt 7, 3) := by decide +kernel
theorem r124_2 {E : Nat → Value} {d : Nat} {st : List Value} {h : gm_H} {Q : gm_R → gm_H → Prop} {lv : List Value} {x y : Int32} : gm_W E d 124 2 lv (.int y :: .int x :: st) h Q ↔ (if x < y then gm_W E d 124 9 lv st h Q else gm_W E d 124 5 lv st h Q) := (gw_br m124 f124_2 rfl rfl rfl rfl).trans gw_if
theorem f124_5 : gm_ft 124 5 = some (.iload_n 0, 1) := by decide +kernel
theorem r124_5 {E : Nat → Value} {d : Nat} {st : List Value} {h : gm_H} {Q : gm_R → gm_H → Prop} {a1 : Value} {x : Int32} : gm_W E d 124 5 [.int x, a1] st h Q ↔ gm_W E d 124 6 [.int x, a1] (.int x :: st) h Q := gw_loc m124 f124_5 rfl rfl
theorem f124_6 : gm_ft 124 6 = some (.goto 4, 3) := by decide +kernel
theorem r124_6 {E : Nat → Value} {d : Nat} {st : List Value} {h : gm_H} {Q : gm_R → gm_H → Prop} {lv : List Value} : gm_W E d 124 6 lv st h Q ↔ gm_W E d 124 10 lv st h Q := gw_brT m124 f124_6 rfl rfl rfl rfl
theorem f124_9 : gm_ft 124 9 = some (.iload_n 1, 1) := by decide +kernel
theorem r124_9 {E : Nat → Value} {d : Nat} {st : List Value} {h : gm_H} {Q : gm_R → gm_H → Prop} {a0 : Value} {x : Int32} : gm_W E d 124 9 [a0, .int x] st h Q ↔ gm_W E d 124 10 [a0, .int x] (.int x :: st) h Q := gw_loc m124 f124_9 rfl rfl
theorem f124_10 : gm_ft 124 10 = some (.ireturn, 1) := by decide +kernel
theorem r124_10 {E : Nat → Value} {d : Nat} {h : gm_H} {Q : gm_R → gm_H → Prop} {lv : List Value} {x : Int32} : gm_W E d 124 10 lv [.int x] h Q ↔ Q (.inl (some (.int x))) h := gw_ret m124 f124_10 rfl rfl rfl rfl rfl rfl rfl rfl (by unfold gm_rt; dsimp only; rw [if_pos ⟨rfl, rfl⟩])
/-! java/lang/Math.min(II)I -/
theorem m125 : gm_mt[125]? = some (⟨"java/lang/Math", "min", "(II)I"⟩, prog_11_method_69_code, 2, (some .int), [], 8, 3) := rfl
theorem f125_0 : gm_ft 125 0 = some (.iload_n 0, 1) := by decide +kernel
theorem r125_0 {E : Nat → Value} {d : Nat} {st : List Value} {h : gm_H} {Q : gm_R → gm_H → Prop} {a1 : Value} {x : Int32} : gm_W E d 125 0 [.int x, a1] st h Q ↔ gm_W E d 125 1 [.int x, a1] (.int x :: st) h Q := gw_loc m125 f125_0 rfl rfl
theorem f125_1 : gm_ft 125 1 = some (.iload_n 1, 1) := by decide +kernel
theorem r125_1 {E : Nat → Value} {d : Nat} {st : List Value} {h : gm_H} {Q : gm_R → gm_H → Prop} {a0 : Value} {x : Int32} : gm_W E d 125 1 [a0, .int x] st h Q ↔ gm_W E d 125 2 [a0, .int x] (.int x :: st) h Q := gw_loc m125 f125_1 rfl rfl
theorem f125_2 : gm_ft 125 2 = some (.if_icmp .gt 7, 3) := by decide +kernel
theorem r125_2 {E : Nat → Value} {d : Nat} {st : List Value} {h : gm_H} {Q : gm_R → gm_H → Prop} {lv : List Value} {x y : Int32} : gm_W E d 125 2 lv (.int y :: .int x :: st) h Q ↔ (if y < x then gm_W E d 125 9 lv st h Q else gm_W E d 125 5 lv st h Q) := (gw_br m125 f125_2 rfl rfl rfl rfl).trans gw_if
theorem f125_5 : gm_ft 125 5 = some (.iload_n 0, 1) := by decide +kernel
theorem r125_5 {E : Nat → Value} {d : Nat} {st : List Value} {h : gm_H} {Q : gm_R → gm_H → Prop} {a1 : Value} {x : Int32} : gm_W E d 125 5 [.int x, a1] st h Q ↔ gm_W E d 125 6 [.int x, a1] (.int x :: st) h Q := gw_loc m125 f125_5 rfl rfl
theorem f125_6 : gm_ft 125 6 = some (.goto 4, 3) := by decide +kernel
theorem r125_6 {E : Nat → Value} {d : Nat} {st : List Value} {h : gm_H} {Q : gm_R → gm_H → Prop} {lv : List Value} : gm_W E d 125 6 lv st h Q ↔ gm_W E d 125 10 lv st h Q := gw_brT m125 f125_6 rfl rfl rfl rfl
theorem f125_9 : gm_ft 125 9 = some (.iload_n 1, 1) := by decide +kernel
theorem r125_9 {E : Nat → Value} {d : Nat} {st : List Value} {h : gm_H} {Q : gm_R → gm_H → Prop} {a0 : Value} {x : Int32} : gm_W E d 125 9 [a0, .int x] st h Q ↔ gm_W E d 125 10 [a0, .int x] (.int x :: st) h Q := gw_loc m125 f125_9 rfl rfl
theorem f125_10 : gm_ft 125 10 = some (.ireturn, 1) := by decide +kernel
theorem r125_10 {E : Nat → Value} {d : Nat} {h : gm_H} {Q : gm_R → gm_H → Prop} {lv : List Value} {x : Int32} : gm_W E d 125 10 lv [.int x] h Q ↔ Q (.inl (some (.int x))) h := gw_ret m125 f125_10 rfl rfl rfl rfl rfl rfl rfl rfl (by unfold gm_rt; dsimp only; rw [if_pos ⟨rfl, rfl⟩])
/-! java/lang/String.length()I -/
theorem m126 : gm_mt[126]? = some (⟨"java/lang/String", "length", "()I"⟩, prog_13_method_54_code, 1, (some .int), [], 6, 3) := rfl
theorem f126_0 : gm_ft 126 0 = some (.aload_n 0, 1) := by decide +kernel
theorem r126_0 {E : Nat → Value} {d : Nat} {st : List Value} {h : gm_H} {Q : gm_R → gm_H → Prop}  {x : Nat} : gm_W E d 126 0 [.ref x] st h Q ↔ gm_W E d 126 1 [.ref x] (.ref x :: st) h Q := gw_loc m126 f126_0 rfl rfl
theorem r126_0n {E : Nat → Value} {d : Nat} {st : List Value} {h : gm_H} {Q : gm_R → gm_H → Prop}   : gm_W E d 126 0 [.null] st h Q ↔ gm_W E d 126 1 [.null] (.null :: st) h Q := gw_loc m126 f126_0 rfl rfl
theorem f126_1 : gm_ft 126 1 = some (.getfield 9, 3) := by decide +kernel
theorem r126_1 {E : Nat → Value} {d : Nat} {st : List Value} {h : gm_H} {Q : gm_R → gm_H → Prop} {lv : List Value} {a : Nat} (hk : gm_kd h a = 6 ∧ 0 < gm_ln h a) : gm_W E d 126 1 lv (.ref a :: st) h Q ↔ gm_W E d 126 4 lv (gm_fv h a 0 :: st) h Q := gw_rd m126 f126_1 rfl rfl rfl rfl (gs_getS k6_9 hk (by decide))
theorem f126_4 : gm_ft 126 4 = some (.arraylength, 1) := by decide +kernel
theorem r126_4 {E : Nat → Value} {d : Nat} {st : List Value} {h : gm_H} {Q : gm_R → gm_H → Prop} {lv : List Value} {a : Nat} (hk : 100 ≤ gm_kd h a ∧ gm_kd h a < 900) : gm_W E d 126 4 lv (.ref a :: st) h Q ↔ gm_W E d 126 5 lv (.int (nI (gm_ln h a)) :: st) h Q := gw_rd m126 f126_4 rfl rfl rfl rfl (gs_len hk)
theorem f126_5 : gm_ft 126 5 = some (.aload_n 0, 1) := by decide +kernel
theorem r126_5 {E : Nat → Value} {d : Nat} {st : List Value} {h : gm_H} {Q : gm_R → gm_H → Prop}  {x : Nat} : gm_W E d 126 5 [.ref x] st h Q ↔ gm_W E d 126 6 [.ref x] (.ref x :: st) h Q := gw_loc m126 f126_5 rfl rfl
theorem r126_5n {E : Nat → Value} {d : Nat} {st : List Value} {h : gm_H} {Q : gm_R → gm_H → Prop}   : gm_W E d 126 5 [.null] st h Q ↔ gm_W E d 126 6 [.null] (.null :: st) h Q := gw_loc m126 f126_5 rfl rfl
theorem f126_6 : gm_ft 126 6 = some (.invokevirtual 335, 3) := by decide +kernel
theorem c126_6 {E : Nat → Value} {d : Nat} {st : List Value} {h : gm_H} {Q : gm_R → gm_H → Prop} {lv : List Value} {a : Nat} {Qc : gm_R → gm_H → Prop} (hs : (st.map fun v => v.category).sum ≤ 8) (hr : gm_kd h a = 6) (hd : 1 ≤ d) (hc : gm_Ca E (d - 1) 130 [.ref a] h Qc) (kn : ∀ (v9 : Option Value) (h9 : gm_H), Qc (.inl v9) h9 → gm_W E d 126 9 lv (v9.toList ++ st) h9 Q) (kx : ∀ (x9 : Nat) (h9 : gm_H), Qc (.inr x9) h9 → Q (.inr x9) h9) : gm_W E d 126 6 lv (.ref a :: st) h Q := gw_call (gn_call m126 f126_6 rfl rfl rfl rfl rfl rfl rfl (gs_virt (bs := []) (w := 396) (L := 1) rfl rfl rfl rfl hs (by simp [gm_en1]) hr (by decide)) (by decide)) m126 rfl rfl hd hc kn kx
theorem f126_9 : gm_ft 126 9 = some (.ishr, 1) := by decide +kernel
theorem r126_9 {E : Nat → Value} {d : Nat} {st : List Value} {h : gm_H} {Q : gm_R → gm_H → Prop} {lv : List Value} {x y : Int32} : gm_W E d 126 9 lv (.int y :: .int x :: st) h Q ↔ gm_W E d 126 10 lv (.int (x >>> (y &&& 31)) :: st) h Q := gw_pure m126 f126_9 rfl
theorem f126_10 : gm_ft 126 10 = some (.ireturn, 1) := by decide +kernel
theorem r126_10 {E : Nat → Value} {d : Nat} {h : gm_H} {Q : gm_R → gm_H → Prop} {lv : List Value} {x : Int32} : gm_W E d 126 10 lv [.int x] h Q ↔ Q (.inl (some (.int x))) h := gw_ret m126 f126_10 rfl rfl rfl rfl rfl rfl rfl rfl (by unfold gm_rt; dsimp only; rw [if_pos ⟨rfl, rfl⟩])
/-! java/lang/String.charAt(I)C -/
theorem m127 : gm_mt[127]? = some (⟨"java/lang/String", "charAt", "(I)C"⟩, prog_13_method_56_code, 2, (some .char), [], 6, 3) := rfl
theorem f127_0 : gm_ft 127 0 = some (.aload_n 0, 1) := by decide +kernel
theorem r127_0 {E : Nat → Value} {d : Nat} {st : List Value} {h : gm_H} {Q : gm_R → gm_H → Prop} {a1 : Value} {x : Nat} : gm_W E d 127 0 [.ref x, a1] st h Q ↔ gm_W E d 127 1 [.ref x, a1] (.ref x :: st) h Q := gw_loc m127 f127_0 rfl rfl
theorem r127_0n {E : Nat → Value} {d : Nat} {st : List Value} {h : gm_H} {Q : gm_R → gm_H → Prop} {a1 : Value}  : gm_W E d 127 0 [.null, a1] st h Q ↔ gm_W E d 127 1 [.null, a1] (.null :: st) h Q := gw_loc m127 f127_0 rfl rfl
theorem f127_1 : gm_ft 127 1 = some (.invokevirtual 492, 3) := by decide +kernel
theorem c127_1 {E : Nat → Value} {d : Nat} {st : List Value} {h : gm_H} {Q : gm_R → gm_H → Prop} {lv : List Value} {a : Nat} {Qc : gm_R → gm_H → Prop} (hs : (st.map fun v => v.category).sum ≤ 8) (hr : gm_kd h a = 6) (hd : 1 ≤ d) (hc : gm_Ca E (d - 1) 131 [.ref a] h Qc) (kn : ∀ (v9 : Option Value) (h9 : gm_H), Qc (.inl v9) h9 → gm_W E d 127 4 lv (v9.toList ++ st) h9 Q) (kx : ∀ (x9 : Nat) (h9 : gm_H), Qc (.inr x9) h9 → Q (.inr x9) h9) : gm_W E d 127 1 lv (.ref a :: st) h Q := gw_call (gn_call m127 f127_1 rfl rfl rfl rfl rfl rfl rfl (gs_virt (bs := []) (w := 386) (L := 1) rfl rfl rfl rfl hs (by simp [gm_en1]) hr (by decide)) (by decide)) m127 rfl rfl hd hc kn kx
theorem f127_4 : gm_ft 127 4 = some (.ifCond .eq 12, 3) := by decide +kernel
theorem r127_4 {E : Nat → Value} {d : Nat} {st : List Value} {h : gm_H} {Q : gm_R → gm_H → Prop} {lv : List Value} {x : Int32} : gm_W E d 127 4 lv (.int x :: st) h Q ↔ (if x = 0 then gm_W E d 127 16 lv st h Q else gm_W E d 127 7 lv st h Q) := (gw_br m127 f127_4 rfl rfl rfl rfl).trans gw_if
theorem f127_7 : gm_ft 127 7 = some (.aload_n 0, 1) := by decide +kernel
theorem r127_7 {E : Nat → Value} {d : Nat} {st : List Value} {h : gm_H} {Q : gm_R → gm_H → Prop} {a1 : Value} {x : Nat} : gm_W E d 127 7 [.ref x, a1] st h Q ↔ gm_W E d 127 8 [.ref x, a1] (.ref x :: st) h Q := gw_loc m127 f127_7 rfl rfl
theorem r127_7n {E : Nat → Value} {d : Nat} {st : List Value} {h : gm_H} {Q : gm_R → gm_H → Prop} {a1 : Value}  : gm_W E d 127 7 [.null, a1] st h Q ↔ gm_W E d 127 8 [.null, a1] (.null :: st) h Q := gw_loc m127 f127_7 rfl rfl
theorem f127_8 : gm_ft 127 8 = some (.getfield 9, 3) := by decide +kernel
theorem r127_8 {E : Nat → Value} {d : Nat} {st : List Value} {h : gm_H} {Q : gm_R → gm_H → Prop} {lv : List Value} {a : Nat} (hk : gm_kd h a = 6 ∧ 0 < gm_ln h a) : gm_W E d 127 8 lv (.ref a :: st) h Q ↔ gm_W E d 127 11 lv (gm_fv h a 0 :: st) h Q := gw_rd m127 f127_8 rfl rfl rfl rfl (gs_getS k6_9 hk (by decide))
theorem f127_11 : gm_ft 127 11 = some (.iload_n 1, 1) := by decide +kernel
theorem r127_11 {E : Nat → Value} {d : Nat} {st : List Value} {h : gm_H} {Q : gm_R → gm_H → Prop} {a0 : Value} {x : Int32} : gm_W E d 127 11 [a0, .int x] st h Q ↔ gm_W E d 127 12 [a0, .int x] (.int x :: st) h Q := gw_loc m127 f127_11 rfl rfl
theorem f127_12 : gm_ft 127 12 = some (.invokestatic 495, 3) := by decide +kernel
theorem c127_12 {E : Nat → Value} {d : Nat} {st : List Value} {h : gm_H} {Q : gm_R → gm_H → Prop} {lv : List Value} {b0 : Value} {b1 : Int32} {Qc : gm_R → gm_H → Prop} (hs : (st.map fun v => v.category).sum ≤ 8) (he : (gm_en1 [b0, .int b1]).length ≤ 2) (hd : 1 ≤ d) (hc : gm_Ca E (d - 1) 133 [b0, .int b1] h Qc) (kn : ∀ (v9 : Option Value) (h9 : gm_H), Qc (.inl v9) h9 → gm_W E d 127 15 lv (v9.toList ++ st) h9 Q) (kx : ∀ (x9 : Nat) (h9 : gm_H), Qc (.inr x9) h9 → Q (.inr x9) h9) : gm_W E d 127 12 lv (.int b1 :: b0 :: st) h Q := gw_call (gn_call m127 f127_12 rfl rfl rfl rfl rfl rfl rfl (gc_stat (bs := [.int b1, b0]) (w := 611) (L := 2) rfl rfl rfl hs he) (by decide)) m127 rfl rfl hd hc kn kx
theorem f127_15 : gm_ft 127 15 = some (.ireturn, 1) := by decide +kernel
theorem r127_15 {E : Nat → Value} {d : Nat} {h : gm_H} {Q : gm_R → gm_H → Prop} {lv : List Value} {x : Int32} (hx : narrow .char (.int x) = .int x) : gm_W E d 127 15 lv [.int x] h Q ↔ Q (.inl (some (.int x))) h := gw_ret m127 f127_15 rfl rfl rfl rfl rfl rfl rfl rfl (by unfold gm_rt; dsimp only; rw [if_pos ⟨rfl, hx⟩])
theorem f127_16 : gm_ft 127 16 = some (.aload_n 0, 1) := by decide +kernel
theorem r127_16 {E : Nat → Value} {d : Nat} {st : List Value} {h : gm_H} {Q : gm_R → gm_H → Prop} {a1 : Value} {x : Nat} : gm_W E d 127 16 [.ref x, a1] st h Q ↔ gm_W E d 127 17 [.ref x, a1] (.ref x :: st) h Q := gw_loc m127 f127_16 rfl rfl
theorem r127_16n {E : Nat → Value} {d : Nat} {st : List Value} {h : gm_H} {Q : gm_R → gm_H → Prop} {a1 : Value}  : gm_W E d 127 16 [.null, a1] st h Q ↔ gm_W E d 127 17 [.null, a1] (.null :: st) h Q := gw_loc m127 f127_16 rfl rfl
theorem f127_17 : gm_ft 127 17 = some (.getfield 9, 3) := by decide +kernel
theorem r127_17 {E : Nat → Value} {d : Nat} {st : List Value} {h : gm_H} {Q : gm_R → gm_H → Prop} {lv : List Value} {a : Nat} (hk : gm_kd h a = 6 ∧ 0 < gm_ln h a) : gm_W E d 127 17 lv (.ref a :: st) h Q ↔ gm_W E d 127 20 lv (gm_fv h a 0 :: st) h Q := gw_rd m127 f127_17 rfl rfl rfl rfl (gs_getS k6_9 hk (by decide))
theorem f127_20 : gm_ft 127 20 = some (.iload_n 1, 1) := by decide +kernel
theorem r127_20 {E : Nat → Value} {d : Nat} {st : List Value} {h : gm_H} {Q : gm_R → gm_H → Prop} {a0 : Value} {x : Int32} : gm_W E d 127 20 [a0, .int x] st h Q ↔ gm_W E d 127 21 [a0, .int x] (.int x :: st) h Q := gw_loc m127 f127_20 rfl rfl
theorem f127_21 : gm_ft 127 21 = some (.invokestatic 498, 3) := by decide +kernel
theorem f127_24 : gm_ft 127 24 = some (.ireturn, 1) := by decide +kernel
theorem r127_24 {E : Nat → Value} {d : Nat} {h : gm_H} {Q : gm_R → gm_H → Prop} {lv : List Value} {x : Int32} (hx : narrow .char (.int x) = .int x) : gm_W E d 127 24 lv [.int x] h Q ↔ Q (.inl (some (.int x))) h := gw_ret m127 f127_24 rfl rfl rfl rfl rfl rfl rfl rfl (by unfold gm_rt; dsimp only; rw [if_pos ⟨rfl, hx⟩])
/-! java/lang/String.indexOf(I)I -/
theorem m128 : gm_mt[128]? = some (⟨"java/lang/String", "indexOf", "(I)I"⟩, prog_13_method_79_code, 2, (some .int), [], 6, 3) := rfl
theorem f128_0 : gm_ft 128 0 = some (.aload_n 0, 1) := by decide +kernel
theorem r128_0 {E : Nat → Value} {d : Nat} {st : List Value} {h : gm_H} {Q : gm_R → gm_H → Prop} {a1 : Value} {x : Nat} : gm_W E d 128 0 [.ref x, a1] st h Q ↔ gm_W E d 128 1 [.ref x, a1] (.ref x :: st) h Q := gw_loc m128 f128_0 rfl rfl
theorem r128_0n {E : Nat → Value} {d : Nat} {st : List Value} {h : gm_H} {Q : gm_R → gm_H → Prop} {a1 : Value}  : gm_W E d 128 0 [.null, a1] st h Q ↔ gm_W E d 128 1 [.null, a1] (.null :: st) h Q := gw_loc m128 f128_0 rfl rfl
theorem f128_1 : gm_ft 128 1 = some (.iload_n 1, 1) := by decide +kernel
theorem r128_1 {E : Nat → Value} {d : Nat} {st : List Value} {h : gm_H} {Q : gm_R → gm_H → Prop} {a0 : Value} {x : Int32} : gm_W E d 128 1 [a0, .int x] st h Q ↔ gm_W E d 128 2 [a0, .int x] (.int x :: st) h Q := gw_loc m128 f128_1 rfl rfl
theorem f128_2 : gm_ft 128 2 = some (.iconst 0, 1) := by decide +kernel
theorem r128_2 {E : Nat → Value} {d : Nat} {st : List Value} {h : gm_H} {Q : gm_R → gm_H → Prop} {lv : List Value} : gm_W E d 128 2 lv st h Q ↔ gm_W E d 128 3 lv (.int (0 : Int32) :: st) h Q := gw_pure m128 f128_2 rfl
theorem f128_3 : gm_ft 128 3 = some (.invokevirtual 633, 3) := by decide +kernel
theorem c128_3 {E : Nat → Value} {d : Nat} {st : List Value} {h : gm_H} {Q : gm_R → gm_H → Prop} {lv : List Value} {b0 : Int32} {b1 : Int32} {a : Nat} {Qc : gm_R → gm_H → Prop} (hs : (st.map fun v => v.category).sum ≤ 8) (hr : gm_kd h a = 6) (hd : 1 ≤ d) (hc : gm_Ca E (d - 1) 129 [.ref a, .int b0, .int b1] h Qc) (kn : ∀ (v9 : Option Value) (h9 : gm_H), Qc (.inl v9) h9 → gm_W E d 128 6 lv (v9.toList ++ st) h9 Q) (kx : ∀ (x9 : Nat) (h9 : gm_H), Qc (.inr x9) h9 → Q (.inr x9) h9) : gm_W E d 128 3 lv (.int b1 :: .int b0 :: .ref a :: st) h Q := gw_call (gn_call m128 f128_3 rfl rfl rfl rfl rfl rfl rfl (gs_virt (bs := [.int b1, .int b0]) (w := 382) (L := 3) rfl rfl rfl rfl hs (by simp [gm_en1]) hr (by decide)) (by decide)) m128 rfl rfl hd hc kn kx
theorem f128_6 : gm_ft 128 6 = some (.ireturn, 1) := by decide +kernel
theorem r128_6 {E : Nat → Value} {d : Nat} {h : gm_H} {Q : gm_R → gm_H → Prop} {lv : List Value} {x : Int32} : gm_W E d 128 6 lv [.int x] h Q ↔ Q (.inl (some (.int x))) h := gw_ret m128 f128_6 rfl rfl rfl rfl rfl rfl rfl rfl (by unfold gm_rt; dsimp only; rw [if_pos ⟨rfl, rfl⟩])
/-! java/lang/String.indexOf(II)I -/
theorem m129 : gm_mt[129]? = some (⟨"java/lang/String", "indexOf", "(II)I"⟩, prog_13_method_80_code, 3, (some .int), [], 6, 3) := rfl
theorem f129_0 : gm_ft 129 0 = some (.aload_n 0, 1) := by decide +kernel
theorem r129_0 {E : Nat → Value} {d : Nat} {st : List Value} {h : gm_H} {Q : gm_R → gm_H → Prop} {a1 a2 : Value} {x : Nat} : gm_W E d 129 0 [.ref x, a1, a2] st h Q ↔ gm_W E d 129 1 [.ref x, a1, a2] (.ref x :: st) h Q := gw_loc m129 f129_0 rfl rfl
theorem r129_0n {E : Nat → Value} {d : Nat} {st : List Value} {h : gm_H} {Q : gm_R → gm_H → Prop} {a1 a2 : Value}  : gm_W E d 129 0 [.null, a1, a2] st h Q ↔ gm_W E d 129 1 [.null, a1, a2] (.null :: st) h Q := gw_loc m129 f129_0 rfl rfl
theorem f129_1 : gm_ft 129 1 = some (.invokevirtual 492, 3) := by decide +kernel
theorem c129_1 {E : Nat → Value} {d : Nat} {st : List Value} {h : gm_H} {Q : gm_R → gm_H → Prop} {lv : List Value} {a : Nat} {Qc : gm_R → gm_H → Prop} (hs : (st.map fun v => v.category).sum ≤ 8) (hr : gm_kd h a = 6) (hd : 1 ≤ d) (hc : gm_Ca E (d - 1) 131 [.ref a] h Qc) (kn : ∀ (v9 : Option Value) (h9 : gm_H), Qc (.inl v9) h9 → gm_W E d 129 4 lv (v9.toList ++ st) h9 Q) (kx : ∀ (x9 : Nat) (h9 : gm_H), Qc (.inr x9) h9 → Q (.inr x9) h9) : gm_W E d 129 1 lv (.ref a :: st) h Q := gw_call (gn_call m129 f129_1 rfl rfl rfl rfl rfl rfl rfl (gs_virt (bs := []) (w := 386) (L := 1) rfl rfl rfl rfl hs (by simp [gm_en1]) hr (by decide)) (by decide)) m129 rfl rfl hd hc kn kx
theorem f129_4 : gm_ft 129 4 = some (.ifCond .eq 19, 3) := by decide +kernel
theorem r129_4 {E : Nat → Value} {d : Nat} {st : List Value} {h : gm_H} {Q : gm_R → gm_H → Prop} {lv : List Value} {x : Int32} : gm_W E d 129 4 lv (.int x :: st) h Q ↔ (if x = 0 then gm_W E d 129 23 lv st h Q else gm_W E d 129 7 lv st h Q) := (gw_br m129 f129_4 rfl rfl rfl rfl).trans gw_if
theorem f129_7 : gm_ft 129 7 = some (.aload_n 0, 1) := by decide +kernel
theorem r129_7 {E : Nat → Value} {d : Nat} {st : List Value} {h : gm_H} {Q : gm_R → gm_H → Prop} {a1 a2 : Value} {x : Nat} : gm_W E d 129 7 [.ref x, a1, a2] st h Q ↔ gm_W E d 129 8 [.ref x, a1, a2] (.ref x :: st) h Q := gw_loc m129 f129_7 rfl rfl
theorem r129_7n {E : Nat → Value} {d : Nat} {st : List Value} {h : gm_H} {Q : gm_R → gm_H → Prop} {a1 a2 : Value}  : gm_W E d 129 7 [.null, a1, a2] st h Q ↔ gm_W E d 129 8 [.null, a1, a2] (.null :: st) h Q := gw_loc m129 f129_7 rfl rfl
theorem f129_8 : gm_ft 129 8 = some (.getfield 9, 3) := by decide +kernel
theorem r129_8 {E : Nat → Value} {d : Nat} {st : List Value} {h : gm_H} {Q : gm_R → gm_H → Prop} {lv : List Value} {a : Nat} (hk : gm_kd h a = 6 ∧ 0 < gm_ln h a) : gm_W E d 129 8 lv (.ref a :: st) h Q ↔ gm_W E d 129 11 lv (gm_fv h a 0 :: st) h Q := gw_rd m129 f129_8 rfl rfl rfl rfl (gs_getS k6_9 hk (by decide))
theorem f129_11 : gm_ft 129 11 = some (.iload_n 1, 1) := by decide +kernel
theorem r129_11 {E : Nat → Value} {d : Nat} {st : List Value} {h : gm_H} {Q : gm_R → gm_H → Prop} {a0 a2 : Value} {x : Int32} : gm_W E d 129 11 [a0, .int x, a2] st h Q ↔ gm_W E d 129 12 [a0, .int x, a2] (.int x :: st) h Q := gw_loc m129 f129_11 rfl rfl
theorem f129_12 : gm_ft 129 12 = some (.iload_n 2, 1) := by decide +kernel
theorem r129_12 {E : Nat → Value} {d : Nat} {st : List Value} {h : gm_H} {Q : gm_R → gm_H → Prop} {a0 a1 : Value} {x : Int32} : gm_W E d 129 12 [a0, a1, .int x] st h Q ↔ gm_W E d 129 13 [a0, a1, .int x] (.int x :: st) h Q := gw_loc m129 f129_12 rfl rfl
theorem f129_13 : gm_ft 129 13 = some (.aload_n 0, 1) := by decide +kernel
theorem r129_13 {E : Nat → Value} {d : Nat} {st : List Value} {h : gm_H} {Q : gm_R → gm_H → Prop} {a1 a2 : Value} {x : Nat} : gm_W E d 129 13 [.ref x, a1, a2] st h Q ↔ gm_W E d 129 14 [.ref x, a1, a2] (.ref x :: st) h Q := gw_loc m129 f129_13 rfl rfl
theorem r129_13n {E : Nat → Value} {d : Nat} {st : List Value} {h : gm_H} {Q : gm_R → gm_H → Prop} {a1 a2 : Value}  : gm_W E d 129 13 [.null, a1, a2] st h Q ↔ gm_W E d 129 14 [.null, a1, a2] (.null :: st) h Q := gw_loc m129 f129_13 rfl rfl
theorem f129_14 : gm_ft 129 14 = some (.invokevirtual 505, 3) := by decide +kernel
theorem c129_14 {E : Nat → Value} {d : Nat} {st : List Value} {h : gm_H} {Q : gm_R → gm_H → Prop} {lv : List Value} {a : Nat} {Qc : gm_R → gm_H → Prop} (hs : (st.map fun v => v.category).sum ≤ 8) (hr : gm_kd h a = 6) (hd : 1 ≤ d) (hc : gm_Ca E (d - 1) 126 [.ref a] h Qc) (kn : ∀ (v9 : Option Value) (h9 : gm_H), Qc (.inl v9) h9 → gm_W E d 129 17 lv (v9.toList ++ st) h9 Q) (kx : ∀ (x9 : Nat) (h9 : gm_H), Qc (.inr x9) h9 → Q (.inr x9) h9) : gm_W E d 129 14 lv (.ref a :: st) h Q := gw_call (gn_call m129 f129_14 rfl rfl rfl rfl rfl rfl rfl (gs_virt (bs := []) (w := 392) (L := 1) rfl rfl rfl rfl hs (by simp [gm_en1]) hr (by decide)) (by decide)) m129 rfl rfl hd hc kn kx
theorem f129_17 : gm_ft 129 17 = some (.invokestatic 637, 3) := by decide +kernel
theorem c129_17 {E : Nat → Value} {d : Nat} {st : List Value} {h : gm_H} {Q : gm_R → gm_H → Prop} {lv : List Value} {b0 : Value} {b1 : Int32} {b2 : Int32} {b3 : Int32} {Qc : gm_R → gm_H → Prop} (hs : (st.map fun v => v.category).sum ≤ 8) (he : (gm_en1 [b0, .int b1, .int b2, .int b3]).length ≤ 4) (hd : 1 ≤ d) (hc : gm_Ca E (d - 1) 135 [b0, .int b1, .int b2, .int b3] h Qc) (kn : ∀ (v9 : Option Value) (h9 : gm_H), Qc (.inl v9) h9 → gm_W E d 129 20 lv (v9.toList ++ st) h9 Q) (kx : ∀ (x9 : Nat) (h9 : gm_H), Qc (.inr x9) h9 → Q (.inr x9) h9) : gm_W E d 129 17 lv (.int b3 :: .int b2 :: .int b1 :: b0 :: st) h Q := gw_call (gn_call m129 f129_17 rfl rfl rfl rfl rfl rfl rfl (gc_stat (bs := [.int b3, .int b2, .int b1, b0]) (w := 400) (L := 4) rfl rfl rfl hs he) (by decide)) m129 rfl rfl hd hc kn kx
theorem f129_20 : gm_ft 129 20 = some (.goto 16, 3) := by decide +kernel
theorem r129_20 {E : Nat → Value} {d : Nat} {st : List Value} {h : gm_H} {Q : gm_R → gm_H → Prop} {lv : List Value} : gm_W E d 129 20 lv st h Q ↔ gm_W E d 129 36 lv st h Q := gw_brT m129 f129_20 rfl rfl rfl rfl
theorem f129_23 : gm_ft 129 23 = some (.aload_n 0, 1) := by decide +kernel
theorem r129_23 {E : Nat → Value} {d : Nat} {st : List Value} {h : gm_H} {Q : gm_R → gm_H → Prop} {a1 a2 : Value} {x : Nat} : gm_W E d 129 23 [.ref x, a1, a2] st h Q ↔ gm_W E d 129 24 [.ref x, a1, a2] (.ref x :: st) h Q := gw_loc m129 f129_23 rfl rfl
theorem r129_23n {E : Nat → Value} {d : Nat} {st : List Value} {h : gm_H} {Q : gm_R → gm_H → Prop} {a1 a2 : Value}  : gm_W E d 129 23 [.null, a1, a2] st h Q ↔ gm_W E d 129 24 [.null, a1, a2] (.null :: st) h Q := gw_loc m129 f129_23 rfl rfl
theorem f129_24 : gm_ft 129 24 = some (.getfield 9, 3) := by decide +kernel
theorem r129_24 {E : Nat → Value} {d : Nat} {st : List Value} {h : gm_H} {Q : gm_R → gm_H → Prop} {lv : List Value} {a : Nat} (hk : gm_kd h a = 6 ∧ 0 < gm_ln h a) : gm_W E d 129 24 lv (.ref a :: st) h Q ↔ gm_W E d 129 27 lv (gm_fv h a 0 :: st) h Q := gw_rd m129 f129_24 rfl rfl rfl rfl (gs_getS k6_9 hk (by decide))
theorem f129_27 : gm_ft 129 27 = some (.iload_n 1, 1) := by decide +kernel
theorem r129_27 {E : Nat → Value} {d : Nat} {st : List Value} {h : gm_H} {Q : gm_R → gm_H → Prop} {a0 a2 : Value} {x : Int32} : gm_W E d 129 27 [a0, .int x, a2] st h Q ↔ gm_W E d 129 28 [a0, .int x, a2] (.int x :: st) h Q := gw_loc m129 f129_27 rfl rfl
theorem f129_28 : gm_ft 129 28 = some (.iload_n 2, 1) := by decide +kernel
theorem r129_28 {E : Nat → Value} {d : Nat} {st : List Value} {h : gm_H} {Q : gm_R → gm_H → Prop} {a0 a1 : Value} {x : Int32} : gm_W E d 129 28 [a0, a1, .int x] st h Q ↔ gm_W E d 129 29 [a0, a1, .int x] (.int x :: st) h Q := gw_loc m129 f129_28 rfl rfl
theorem f129_29 : gm_ft 129 29 = some (.aload_n 0, 1) := by decide +kernel
theorem r129_29 {E : Nat → Value} {d : Nat} {st : List Value} {h : gm_H} {Q : gm_R → gm_H → Prop} {a1 a2 : Value} {x : Nat} : gm_W E d 129 29 [.ref x, a1, a2] st h Q ↔ gm_W E d 129 30 [.ref x, a1, a2] (.ref x :: st) h Q := gw_loc m129 f129_29 rfl rfl
theorem r129_29n {E : Nat → Value} {d : Nat} {st : List Value} {h : gm_H} {Q : gm_R → gm_H → Prop} {a1 a2 : Value}  : gm_W E d 129 29 [.null, a1, a2] st h Q ↔ gm_W E d 129 30 [.null, a1, a2] (.null :: st) h Q := gw_loc m129 f129_29 rfl rfl
theorem f129_30 : gm_ft 129 30 = some (.invokevirtual 505, 3) := by decide +kernel
theorem c129_30 {E : Nat → Value} {d : Nat} {st : List Value} {h : gm_H} {Q : gm_R → gm_H → Prop} {lv : List Value} {a : Nat} {Qc : gm_R → gm_H → Prop} (hs : (st.map fun v => v.category).sum ≤ 8) (hr : gm_kd h a = 6) (hd : 1 ≤ d) (hc : gm_Ca E (d - 1) 126 [.ref a] h Qc) (kn : ∀ (v9 : Option Value) (h9 : gm_H), Qc (.inl v9) h9 → gm_W E d 129 33 lv (v9.toList ++ st) h9 Q) (kx : ∀ (x9 : Nat) (h9 : gm_H), Qc (.inr x9) h9 → Q (.inr x9) h9) : gm_W E d 129 30 lv (.ref a :: st) h Q := gw_call (gn_call m129 f129_30 rfl rfl rfl rfl rfl rfl rfl (gs_virt (bs := []) (w := 392) (L := 1) rfl rfl rfl rfl hs (by simp [gm_en1]) hr (by decide)) (by decide)) m129 rfl rfl hd hc kn kx
theorem f129_33 : gm_ft 129 33 = some (.invokestatic 640, 3) := by decide +kernel
theorem f129_36 : gm_ft 129 36 = some (.ireturn, 1) := by decide +kernel
theorem r129_36 {E : Nat → Value} {d : Nat} {h : gm_H} {Q : gm_R → gm_H → Prop} {lv : List Value} {x : Int32} : gm_W E d 129 36 lv [.int x] h Q ↔ Q (.inl (some (.int x))) h := gw_ret m129 f129_36 rfl rfl rfl rfl rfl rfl rfl rfl (by unfold gm_rt; dsimp only; rw [if_pos ⟨rfl, rfl⟩])
/-! java/lang/String.coder()B -/
theorem m130 : gm_mt[130]? = some (⟨"java/lang/String", "coder", "()B"⟩, prog_13_method_152_code, 1, (some .byte), [], 6, 3) := rfl
theorem f130_0 : gm_ft 130 0 = some (.getstatic 38, 3) := by decide +kernel
theorem r130_0 {E : Nat → Value} {d : Nat} {st : List Value} {h : gm_H} {Q : gm_R → gm_H → Prop} {lv : List Value} : gm_W E d 130 0 lv st h Q ↔ gm_W E d 130 3 lv (E 5 :: st) h Q := gw_rd m130 f130_0 rfl rfl rfl rfl rfl
theorem f130_3 : gm_ft 130 3 = some (.ifCond .eq 10, 3) := by decide +kernel
theorem r130_3 {E : Nat → Value} {d : Nat} {st : List Value} {h : gm_H} {Q : gm_R → gm_H → Prop} {lv : List Value} {x : Int32} : gm_W E d 130 3 lv (.int x :: st) h Q ↔ (if x = 0 then gm_W E d 130 13 lv st h Q else gm_W E d 130 6 lv st h Q) := (gw_br m130 f130_3 rfl rfl rfl rfl).trans gw_if
theorem f130_6 : gm_ft 130 6 = some (.aload_n 0, 1) := by decide +kernel
theorem r130_6 {E : Nat → Value} {d : Nat} {st : List Value} {h : gm_H} {Q : gm_R → gm_H → Prop}  {x : Nat} : gm_W E d 130 6 [.ref x] st h Q ↔ gm_W E d 130 7 [.ref x] (.ref x :: st) h Q := gw_loc m130 f130_6 rfl rfl
theorem r130_6n {E : Nat → Value} {d : Nat} {st : List Value} {h : gm_H} {Q : gm_R → gm_H → Prop}   : gm_W E d 130 6 [.null] st h Q ↔ gm_W E d 130 7 [.null] (.null :: st) h Q := gw_loc m130 f130_6 rfl rfl
theorem f130_7 : gm_ft 130 7 = some (.getfield 15, 3) := by decide +kernel
theorem r130_7 {E : Nat → Value} {d : Nat} {st : List Value} {h : gm_H} {Q : gm_R → gm_H → Prop} {lv : List Value} {a : Nat} (hk : gm_kd h a = 6 ∧ 1 < gm_ln h a) : gm_W E d 130 7 lv (.ref a :: st) h Q ↔ gm_W E d 130 10 lv (gm_fv h a 1 :: st) h Q := gw_rd m130 f130_7 rfl rfl rfl rfl (gs_getS k6_15 hk (by decide))
theorem f130_10 : gm_ft 130 10 = some (.goto 4, 3) := by decide +kernel
theorem r130_10 {E : Nat → Value} {d : Nat} {st : List Value} {h : gm_H} {Q : gm_R → gm_H → Prop} {lv : List Value} : gm_W E d 130 10 lv st h Q ↔ gm_W E d 130 14 lv st h Q := gw_brT m130 f130_10 rfl rfl rfl rfl
theorem f130_13 : gm_ft 130 13 = some (.iconst 1, 1) := by decide +kernel
theorem r130_13 {E : Nat → Value} {d : Nat} {st : List Value} {h : gm_H} {Q : gm_R → gm_H → Prop} {lv : List Value} : gm_W E d 130 13 lv st h Q ↔ gm_W E d 130 14 lv (.int (1 : Int32) :: st) h Q := gw_pure m130 f130_13 rfl
theorem f130_14 : gm_ft 130 14 = some (.ireturn, 1) := by decide +kernel
theorem r130_14 {E : Nat → Value} {d : Nat} {h : gm_H} {Q : gm_R → gm_H → Prop} {lv : List Value} {x : Int32} (hx : narrow .byte (.int x) = .int x) : gm_W E d 130 14 lv [.int x] h Q ↔ Q (.inl (some (.int x))) h := gw_ret m130 f130_14 rfl rfl rfl rfl rfl rfl rfl rfl (by unfold gm_rt; dsimp only; rw [if_pos ⟨rfl, hx⟩])
/-! java/lang/String.isLatin1()Z -/
theorem m131 : gm_mt[131]? = some (⟨"java/lang/String", "isLatin1", "()Z"⟩, prog_13_method_154_code, 1, (some .boolean), [], 6, 3) := rfl
theorem f131_0 : gm_ft 131 0 = some (.getstatic 38, 3) := by decide +kernel
theorem r131_0 {E : Nat → Value} {d : Nat} {st : List Value} {h : gm_H} {Q : gm_R → gm_H → Prop} {lv : List Value} : gm_W E d 131 0 lv st h Q ↔ gm_W E d 131 3 lv (E 5 :: st) h Q := gw_rd m131 f131_0 rfl rfl rfl rfl rfl
theorem f131_3 : gm_ft 131 3 = some (.ifCond .eq 14, 3) := by decide +kernel
theorem r131_3 {E : Nat → Value} {d : Nat} {st : List Value} {h : gm_H} {Q : gm_R → gm_H → Prop} {lv : List Value} {x : Int32} : gm_W E d 131 3 lv (.int x :: st) h Q ↔ (if x = 0 then gm_W E d 131 17 lv st h Q else gm_W E d 131 6 lv st h Q) := (gw_br m131 f131_3 rfl rfl rfl rfl).trans gw_if
theorem f131_6 : gm_ft 131 6 = some (.aload_n 0, 1) := by decide +kernel
theorem r131_6 {E : Nat → Value} {d : Nat} {st : List Value} {h : gm_H} {Q : gm_R → gm_H → Prop}  {x : Nat} : gm_W E d 131 6 [.ref x] st h Q ↔ gm_W E d 131 7 [.ref x] (.ref x :: st) h Q := gw_loc m131 f131_6 rfl rfl
theorem r131_6n {E : Nat → Value} {d : Nat} {st : List Value} {h : gm_H} {Q : gm_R → gm_H → Prop}   : gm_W E d 131 6 [.null] st h Q ↔ gm_W E d 131 7 [.null] (.null :: st) h Q := gw_loc m131 f131_6 rfl rfl
theorem f131_7 : gm_ft 131 7 = some (.getfield 15, 3) := by decide +kernel
theorem r131_7 {E : Nat → Value} {d : Nat} {st : List Value} {h : gm_H} {Q : gm_R → gm_H → Prop} {lv : List Value} {a : Nat} (hk : gm_kd h a = 6 ∧ 1 < gm_ln h a) : gm_W E d 131 7 lv (.ref a :: st) h Q ↔ gm_W E d 131 10 lv (gm_fv h a 1 :: st) h Q := gw_rd m131 f131_7 rfl rfl rfl rfl (gs_getS k6_15 hk (by decide))
theorem f131_10 : gm_ft 131 10 = some (.ifCond .ne 7, 3) := by decide +kernel
theorem r131_10 {E : Nat → Value} {d : Nat} {st : List Value} {h : gm_H} {Q : gm_R → gm_H → Prop} {lv : List Value} {x : Int32} : gm_W E d 131 10 lv (.int x :: st) h Q ↔ (if x = 0 then gm_W E d 131 13 lv st h Q else gm_W E d 131 17 lv st h Q) := (gw_br m131 f131_10 rfl rfl rfl rfl).trans gw_ifn
theorem f131_13 : gm_ft 131 13 = some (.iconst 1, 1) := by decide +kernel
theorem r131_13 {E : Nat → Value} {d : Nat} {st : List Value} {h : gm_H} {Q : gm_R → gm_H → Prop} {lv : List Value} : gm_W E d 131 13 lv st h Q ↔ gm_W E d 131 14 lv (.int (1 : Int32) :: st) h Q := gw_pure m131 f131_13 rfl
theorem f131_14 : gm_ft 131 14 = some (.goto 4, 3) := by decide +kernel
theorem r131_14 {E : Nat → Value} {d : Nat} {st : List Value} {h : gm_H} {Q : gm_R → gm_H → Prop} {lv : List Value} : gm_W E d 131 14 lv st h Q ↔ gm_W E d 131 18 lv st h Q := gw_brT m131 f131_14 rfl rfl rfl rfl
theorem f131_17 : gm_ft 131 17 = some (.iconst 0, 1) := by decide +kernel
theorem r131_17 {E : Nat → Value} {d : Nat} {st : List Value} {h : gm_H} {Q : gm_R → gm_H → Prop} {lv : List Value} : gm_W E d 131 17 lv st h Q ↔ gm_W E d 131 18 lv (.int (0 : Int32) :: st) h Q := gw_pure m131 f131_17 rfl
theorem f131_18 : gm_ft 131 18 = some (.ireturn, 1) := by decide +kernel
theorem r131_18 {E : Nat → Value} {d : Nat} {h : gm_H} {Q : gm_R → gm_H → Prop} {lv : List Value} {x : Int32} (hx : x = 0 ∨ x = 1) : gm_W E d 131 18 lv [.int x] h Q ↔ Q (.inl (some (.int x))) h := gw_ret m131 f131_18 rfl rfl rfl rfl rfl rfl rfl rfl (by unfold gm_rt; dsimp only; rw [if_pos ⟨rfl, (gs_nb hx).1⟩])
/-! java/lang/String.checkIndex(II)V -/
theorem m132 : gm_mt[132]? = some (⟨"java/lang/String", "checkIndex", "(II)V"⟩, prog_13_method_155_code, 2, none, [], 6, 3) := rfl
theorem f132_0 : gm_ft 132 0 = some (.iload_n 0, 1) := by decide +kernel
theorem r132_0 {E : Nat → Value} {d : Nat} {st : List Value} {h : gm_H} {Q : gm_R → gm_H → Prop} {a1 : Value} {x : Int32} : gm_W E d 132 0 [.int x, a1] st h Q ↔ gm_W E d 132 1 [.int x, a1] (.int x :: st) h Q := gw_loc m132 f132_0 rfl rfl
theorem f132_1 : gm_ft 132 1 = some (.iload_n 1, 1) := by decide +kernel
theorem r132_1 {E : Nat → Value} {d : Nat} {st : List Value} {h : gm_H} {Q : gm_R → gm_H → Prop} {a0 : Value} {x : Int32} : gm_W E d 132 1 [a0, .int x] st h Q ↔ gm_W E d 132 2 [a0, .int x] (.int x :: st) h Q := gw_loc m132 f132_1 rfl rfl
theorem f132_2 : gm_ft 132 2 = some (.getstatic 1053, 3) := by decide +kernel
theorem r132_2 {E : Nat → Value} {d : Nat} {st : List Value} {h : gm_H} {Q : gm_R → gm_H → Prop} {lv : List Value} : gm_W E d 132 2 lv st h Q ↔ gm_W E d 132 5 lv (E 1 :: st) h Q := gw_rd m132 f132_2 rfl rfl rfl rfl rfl
theorem f132_5 : gm_ft 132 5 = some (.invokestatic 1059, 3) := by decide +kernel
theorem c132_5 {E : Nat → Value} {d : Nat} {st : List Value} {h : gm_H} {Q : gm_R → gm_H → Prop} {lv : List Value} {b0 : Int32} {b1 : Int32} {b2 : Value} {Qc : gm_R → gm_H → Prop} (hs : (st.map fun v => v.category).sum ≤ 8) (he : (gm_en1 [.int b0, .int b1, b2]).length ≤ 3) (hd : 1 ≤ d) (hc : gm_Ca E (d - 1) 137 [.int b0, .int b1, b2] h Qc) (kn : ∀ (v9 : Option Value) (h9 : gm_H), Qc (.inl v9) h9 → gm_W E d 132 8 lv (v9.toList ++ st) h9 Q) (kx : ∀ (x9 : Nat) (h9 : gm_H), Qc (.inr x9) h9 → Q (.inr x9) h9) : gm_W E d 132 5 lv (b2 :: .int b1 :: .int b0 :: st) h Q := gw_call (gn_call m132 f132_5 rfl rfl rfl rfl rfl rfl rfl (gc_stat (bs := [b2, .int b1, .int b0]) (w := 617) (L := 3) rfl rfl rfl hs he) (by decide)) m132 rfl rfl hd hc kn kx
theorem f132_8 : gm_ft 132 8 = some (.pop, 1) := by decide +kernel
theorem r132_8 {E : Nat → Value} {d : Nat} {st : List Value} {h : gm_H} {Q : gm_R → gm_H → Prop} {lv : List Value} {x : Int32} : gm_W E d 132 8 lv (.int x :: st) h Q ↔ gm_W E d 132 9 lv st h Q := gw_pure m132 f132_8 rfl
theorem r132_8a {E : Nat → Value} {d : Nat} {st : List Value} {h : gm_H} {Q : gm_R → gm_H → Prop} {lv : List Value} {a : Nat} : gm_W E d 132 8 lv (.ref a :: st) h Q ↔ gm_W E d 132 9 lv st h Q := gw_pure m132 f132_8 rfl
theorem r132_8n {E : Nat → Value} {d : Nat} {st : List Value} {h : gm_H} {Q : gm_R → gm_H → Prop} {lv : List Value} : gm_W E d 132 8 lv (.null :: st) h Q ↔ gm_W E d 132 9 lv st h Q := gw_pure m132 f132_8 rfl
theorem f132_9 : gm_ft 132 9 = some (.return_, 1) := by decide +kernel
theorem r132_9 {E : Nat → Value} {d : Nat} {h : gm_H} {Q : gm_R → gm_H → Prop} {lv : List Value} : gm_W E d 132 9 lv [] h Q ↔ Q (.inl none) h := gw_ret m132 f132_9 rfl rfl rfl rfl rfl rfl rfl rfl rfl
/-! java/lang/StringLatin1.charAt([BI)C -/
theorem m133 : gm_mt[133]? = some (⟨"java/lang/StringLatin1", "charAt", "([BI)C"⟩, prog_14_method_2_code, 2, (some .char), [], 9, 3) := rfl
theorem f133_0 : gm_ft 133 0 = some (.iload_n 1, 1) := by decide +kernel
theorem r133_0 {E : Nat → Value} {d : Nat} {st : List Value} {h : gm_H} {Q : gm_R → gm_H → Prop} {a0 : Value} {x : Int32} : gm_W E d 133 0 [a0, .int x] st h Q ↔ gm_W E d 133 1 [a0, .int x] (.int x :: st) h Q := gw_loc m133 f133_0 rfl rfl
theorem f133_1 : gm_ft 133 1 = some (.aload_n 0, 1) := by decide +kernel
theorem r133_1 {E : Nat → Value} {d : Nat} {st : List Value} {h : gm_H} {Q : gm_R → gm_H → Prop} {a1 : Value} {x : Nat} : gm_W E d 133 1 [.ref x, a1] st h Q ↔ gm_W E d 133 2 [.ref x, a1] (.ref x :: st) h Q := gw_loc m133 f133_1 rfl rfl
theorem r133_1n {E : Nat → Value} {d : Nat} {st : List Value} {h : gm_H} {Q : gm_R → gm_H → Prop} {a1 : Value}  : gm_W E d 133 1 [.null, a1] st h Q ↔ gm_W E d 133 2 [.null, a1] (.null :: st) h Q := gw_loc m133 f133_1 rfl rfl
theorem f133_2 : gm_ft 133 2 = some (.arraylength, 1) := by decide +kernel
theorem r133_2 {E : Nat → Value} {d : Nat} {st : List Value} {h : gm_H} {Q : gm_R → gm_H → Prop} {lv : List Value} {a : Nat} (hk : 100 ≤ gm_kd h a ∧ gm_kd h a < 900) : gm_W E d 133 2 lv (.ref a :: st) h Q ↔ gm_W E d 133 3 lv (.int (nI (gm_ln h a)) :: st) h Q := gw_rd m133 f133_2 rfl rfl rfl rfl (gs_len hk)
theorem f133_3 : gm_ft 133 3 = some (.invokestatic 9, 3) := by decide +kernel
theorem c133_3 {E : Nat → Value} {d : Nat} {st : List Value} {h : gm_H} {Q : gm_R → gm_H → Prop} {lv : List Value} {b0 : Int32} {b1 : Int32} {Qc : gm_R → gm_H → Prop} (hs : (st.map fun v => v.category).sum ≤ 8) (hd : 1 ≤ d) (hc : gm_Ca E (d - 1) 132 [.int b0, .int b1] h Qc) (kn : ∀ (v9 : Option Value) (h9 : gm_H), Qc (.inl v9) h9 → gm_W E d 133 6 lv (v9.toList ++ st) h9 Q) (kx : ∀ (x9 : Nat) (h9 : gm_H), Qc (.inr x9) h9 → Q (.inr x9) h9) : gm_W E d 133 3 lv (.int b1 :: .int b0 :: st) h Q := gw_call (gn_call m133 f133_3 rfl rfl rfl rfl rfl rfl rfl (gc_stat (bs := [.int b1, .int b0]) (w := 614) (L := 2) rfl rfl rfl hs (by simp [gm_en1])) (by decide)) m133 rfl rfl hd hc kn kx
theorem f133_6 : gm_ft 133 6 = some (.aload_n 0, 1) := by decide +kernel
theorem r133_6 {E : Nat → Value} {d : Nat} {st : List Value} {h : gm_H} {Q : gm_R → gm_H → Prop} {a1 : Value} {x : Nat} : gm_W E d 133 6 [.ref x, a1] st h Q ↔ gm_W E d 133 7 [.ref x, a1] (.ref x :: st) h Q := gw_loc m133 f133_6 rfl rfl
theorem r133_6n {E : Nat → Value} {d : Nat} {st : List Value} {h : gm_H} {Q : gm_R → gm_H → Prop} {a1 : Value}  : gm_W E d 133 6 [.null, a1] st h Q ↔ gm_W E d 133 7 [.null, a1] (.null :: st) h Q := gw_loc m133 f133_6 rfl rfl
theorem f133_7 : gm_ft 133 7 = some (.iload_n 1, 1) := by decide +kernel
theorem r133_7 {E : Nat → Value} {d : Nat} {st : List Value} {h : gm_H} {Q : gm_R → gm_H → Prop} {a0 : Value} {x : Int32} : gm_W E d 133 7 [a0, .int x] st h Q ↔ gm_W E d 133 8 [a0, .int x] (.int x :: st) h Q := gw_loc m133 f133_7 rfl rfl
theorem f133_8 : gm_ft 133 8 = some (.baload, 1) := by decide +kernel
theorem r133_8 {E : Nat → Value} {d : Nat} {st : List Value} {h : gm_H} {Q : gm_R → gm_H → Prop} {lv : List Value} {a j : Nat} (hk : (gm_kd h a % 100 = 2 ∨ gm_kd h a % 100 = 3) ∧ 100 ≤ gm_kd h a ∧ gm_kd h a < 900) (hj : j < gm_ln h a) (hl : gm_ln h a < 2 ^ 31) : gm_W E d 133 8 lv (.int (nI j) :: .ref a :: st) h Q ↔ gm_W E d 133 9 lv (gm_fv h a j :: st) h Q := gw_rd m133 f133_8 rfl rfl rfl rfl (gs_ld (P := fun t => t == 2 || t == 3) hk.2 (by have := hk.1; simp [this] <;> omega) hj hl)
theorem f133_9 : gm_ft 133 9 = some (.sipush 255, 3) := by decide +kernel
theorem r133_9 {E : Nat → Value} {d : Nat} {st : List Value} {h : gm_H} {Q : gm_R → gm_H → Prop} {lv : List Value} : gm_W E d 133 9 lv st h Q ↔ gm_W E d 133 12 lv (.int (255 : Int32) :: st) h Q := gw_pure m133 f133_9 rfl
theorem f133_12 : gm_ft 133 12 = some (.iand, 1) := by decide +kernel
theorem r133_12 {E : Nat → Value} {d : Nat} {st : List Value} {h : gm_H} {Q : gm_R → gm_H → Prop} {lv : List Value} {x y : Int32} : gm_W E d 133 12 lv (.int y :: .int x :: st) h Q ↔ gm_W E d 133 13 lv (.int (x &&& y) :: st) h Q := gw_pure m133 f133_12 rfl
theorem f133_13 : gm_ft 133 13 = some (.i2c, 1) := by decide +kernel
theorem r133_13 {E : Nat → Value} {d : Nat} {st : List Value} {h : gm_H} {Q : gm_R → gm_H → Prop} {lv : List Value} {x : Int32} : gm_W E d 133 13 lv (.int x :: st) h Q ↔ gm_W E d 133 14 lv (.int ((x.toUInt32 % 65536).toInt32) :: st) h Q := gw_pure m133 f133_13 rfl
theorem f133_14 : gm_ft 133 14 = some (.ireturn, 1) := by decide +kernel
theorem r133_14 {E : Nat → Value} {d : Nat} {h : gm_H} {Q : gm_R → gm_H → Prop} {lv : List Value} {x : Int32} (hx : narrow .char (.int x) = .int x) : gm_W E d 133 14 lv [.int x] h Q ↔ Q (.inl (some (.int x))) h := gw_ret m133 f133_14 rfl rfl rfl rfl rfl rfl rfl rfl (by unfold gm_rt; dsimp only; rw [if_pos ⟨rfl, hx⟩])
/-! java/lang/StringLatin1.canEncode(I)Z -/
theorem m134 : gm_mt[134]? = some (⟨"java/lang/StringLatin1", "canEncode", "(I)Z"⟩, prog_14_method_4_code, 1, (some .boolean), [], 9, 3) := rfl
theorem f134_0 : gm_ft 134 0 = some (.iload_n 0, 1) := by decide +kernel
theorem r134_0 {E : Nat → Value} {d : Nat} {st : List Value} {h : gm_H} {Q : gm_R → gm_H → Prop}  {x : Int32} : gm_W E d 134 0 [.int x] st h Q ↔ gm_W E d 134 1 [.int x] (.int x :: st) h Q := gw_loc m134 f134_0 rfl rfl
theorem f134_1 : gm_ft 134 1 = some (.ifCond .lt 14, 3) := by decide +kernel
theorem r134_1 {E : Nat → Value} {d : Nat} {st : List Value} {h : gm_H} {Q : gm_R → gm_H → Prop} {lv : List Value} {x : Int32} : gm_W E d 134 1 lv (.int x :: st) h Q ↔ (if x < 0 then gm_W E d 134 15 lv st h Q else gm_W E d 134 4 lv st h Q) := (gw_br m134 f134_1 rfl rfl rfl rfl).trans gw_if
theorem f134_4 : gm_ft 134 4 = some (.iload_n 0, 1) := by decide +kernel
theorem r134_4 {E : Nat → Value} {d : Nat} {st : List Value} {h : gm_H} {Q : gm_R → gm_H → Prop}  {x : Int32} : gm_W E d 134 4 [.int x] st h Q ↔ gm_W E d 134 5 [.int x] (.int x :: st) h Q := gw_loc m134 f134_4 rfl rfl
theorem f134_5 : gm_ft 134 5 = some (.sipush 255, 3) := by decide +kernel
theorem r134_5 {E : Nat → Value} {d : Nat} {st : List Value} {h : gm_H} {Q : gm_R → gm_H → Prop} {lv : List Value} : gm_W E d 134 5 lv st h Q ↔ gm_W E d 134 8 lv (.int (255 : Int32) :: st) h Q := gw_pure m134 f134_5 rfl
theorem f134_8 : gm_ft 134 8 = some (.if_icmp .gt 7, 3) := by decide +kernel
theorem r134_8 {E : Nat → Value} {d : Nat} {st : List Value} {h : gm_H} {Q : gm_R → gm_H → Prop} {lv : List Value} {x y : Int32} : gm_W E d 134 8 lv (.int y :: .int x :: st) h Q ↔ (if y < x then gm_W E d 134 15 lv st h Q else gm_W E d 134 11 lv st h Q) := (gw_br m134 f134_8 rfl rfl rfl rfl).trans gw_if
theorem f134_11 : gm_ft 134 11 = some (.iconst 1, 1) := by decide +kernel
theorem r134_11 {E : Nat → Value} {d : Nat} {st : List Value} {h : gm_H} {Q : gm_R → gm_H → Prop} {lv : List Value} : gm_W E d 134 11 lv st h Q ↔ gm_W E d 134 12 lv (.int (1 : Int32) :: st) h Q := gw_pure m134 f134_11 rfl
theorem f134_12 : gm_ft 134 12 = some (.goto 4, 3) := by decide +kernel
theorem r134_12 {E : Nat → Value} {d : Nat} {st : List Value} {h : gm_H} {Q : gm_R → gm_H → Prop} {lv : List Value} : gm_W E d 134 12 lv st h Q ↔ gm_W E d 134 16 lv st h Q := gw_brT m134 f134_12 rfl rfl rfl rfl
theorem f134_15 : gm_ft 134 15 = some (.iconst 0, 1) := by decide +kernel
theorem r134_15 {E : Nat → Value} {d : Nat} {st : List Value} {h : gm_H} {Q : gm_R → gm_H → Prop} {lv : List Value} : gm_W E d 134 15 lv st h Q ↔ gm_W E d 134 16 lv (.int (0 : Int32) :: st) h Q := gw_pure m134 f134_15 rfl
theorem f134_16 : gm_ft 134 16 = some (.ireturn, 1) := by decide +kernel
theorem r134_16 {E : Nat → Value} {d : Nat} {h : gm_H} {Q : gm_R → gm_H → Prop} {lv : List Value} {x : Int32} (hx : x = 0 ∨ x = 1) : gm_W E d 134 16 lv [.int x] h Q ↔ Q (.inl (some (.int x))) h := gw_ret m134 f134_16 rfl rfl rfl rfl rfl rfl rfl rfl (by unfold gm_rt; dsimp only; rw [if_pos ⟨rfl, (gs_nb hx).1⟩])
/-! java/lang/StringLatin1.indexOf([BIII)I -/
theorem m135 : gm_mt[135]? = some (⟨"java/lang/StringLatin1", "indexOf", "([BIII)I"⟩, prog_14_method_22_code, 4, (some .int), [], 9, 3) := rfl
theorem f135_0 : gm_ft 135 0 = some (.iload_n 1, 1) := by decide +kernel
theorem r135_0 {E : Nat → Value} {d : Nat} {st : List Value} {h : gm_H} {Q : gm_R → gm_H → Prop} {a0 a2 a3 : Value} {x : Int32} : gm_W E d 135 0 [a0, .int x, a2, a3] st h Q ↔ gm_W E d 135 1 [a0, .int x, a2, a3] (.int x :: st) h Q := gw_loc m135 f135_0 rfl rfl
theorem f135_1 : gm_ft 135 1 = some (.invokestatic 88, 3) := by decide +kernel
theorem c135_1 {E : Nat → Value} {d : Nat} {st : List Value} {h : gm_H} {Q : gm_R → gm_H → Prop} {lv : List Value} {b0 : Int32} {Qc : gm_R → gm_H → Prop} (hs : (st.map fun v => v.category).sum ≤ 8) (hd : 1 ≤ d) (hc : gm_Ca E (d - 1) 134 [.int b0] h Qc) (kn : ∀ (v9 : Option Value) (h9 : gm_H), Qc (.inl v9) h9 → gm_W E d 135 4 lv (v9.toList ++ st) h9 Q) (kx : ∀ (x9 : Nat) (h9 : gm_H), Qc (.inr x9) h9 → Q (.inr x9) h9) : gm_W E d 135 1 lv (.int b0 :: st) h Q := gw_call (gn_call m135 f135_1 rfl rfl rfl rfl rfl rfl rfl (gc_stat (bs := [.int b0]) (w := 403) (L := 1) rfl rfl rfl hs (by simp [gm_en1])) (by decide)) m135 rfl rfl hd hc kn kx
theorem f135_4 : gm_ft 135 4 = some (.ifCond .ne 5, 3) := by decide +kernel
theorem r135_4 {E : Nat → Value} {d : Nat} {st : List Value} {h : gm_H} {Q : gm_R → gm_H → Prop} {lv : List Value} {x : Int32} : gm_W E d 135 4 lv (.int x :: st) h Q ↔ (if x = 0 then gm_W E d 135 7 lv st h Q else gm_W E d 135 9 lv st h Q) := (gw_br m135 f135_4 rfl rfl rfl rfl).trans gw_ifn
theorem f135_7 : gm_ft 135 7 = some (.iconst (-1), 1) := by decide +kernel
theorem r135_7 {E : Nat → Value} {d : Nat} {st : List Value} {h : gm_H} {Q : gm_R → gm_H → Prop} {lv : List Value} : gm_W E d 135 7 lv st h Q ↔ gm_W E d 135 8 lv (.int (-1 : Int32) :: st) h Q := gw_pure m135 f135_7 rfl
theorem f135_8 : gm_ft 135 8 = some (.ireturn, 1) := by decide +kernel
theorem r135_8 {E : Nat → Value} {d : Nat} {h : gm_H} {Q : gm_R → gm_H → Prop} {lv : List Value} {x : Int32} : gm_W E d 135 8 lv [.int x] h Q ↔ Q (.inl (some (.int x))) h := gw_ret m135 f135_8 rfl rfl rfl rfl rfl rfl rfl rfl (by unfold gm_rt; dsimp only; rw [if_pos ⟨rfl, rfl⟩])
theorem f135_9 : gm_ft 135 9 = some (.iload_n 2, 1) := by decide +kernel
theorem r135_9 {E : Nat → Value} {d : Nat} {st : List Value} {h : gm_H} {Q : gm_R → gm_H → Prop} {a0 a1 a3 : Value} {x : Int32} : gm_W E d 135 9 [a0, a1, .int x, a3] st h Q ↔ gm_W E d 135 10 [a0, a1, .int x, a3] (.int x :: st) h Q := gw_loc m135 f135_9 rfl rfl
theorem f135_10 : gm_ft 135 10 = some (.iconst 0, 1) := by decide +kernel
theorem r135_10 {E : Nat → Value} {d : Nat} {st : List Value} {h : gm_H} {Q : gm_R → gm_H → Prop} {lv : List Value} : gm_W E d 135 10 lv st h Q ↔ gm_W E d 135 11 lv (.int (0 : Int32) :: st) h Q := gw_pure m135 f135_10 rfl
theorem f135_11 : gm_ft 135 11 = some (.invokestatic 92, 3) := by decide +kernel
theorem c135_11 {E : Nat → Value} {d : Nat} {st : List Value} {h : gm_H} {Q : gm_R → gm_H → Prop} {lv : List Value} {b0 : Int32} {b1 : Int32} {Qc : gm_R → gm_H → Prop} (hs : (st.map fun v => v.category).sum ≤ 8) (hd : 1 ≤ d) (hc : gm_Ca E (d - 1) 124 [.int b0, .int b1] h Qc) (kn : ∀ (v9 : Option Value) (h9 : gm_H), Qc (.inl v9) h9 → gm_W E d 135 14 lv (v9.toList ++ st) h9 Q) (kx : ∀ (x9 : Nat) (h9 : gm_H), Qc (.inr x9) h9 → Q (.inr x9) h9) : gm_W E d 135 11 lv (.int b1 :: .int b0 :: st) h Q := gw_call (gn_call m135 f135_11 rfl rfl rfl rfl rfl rfl rfl (gc_stat (bs := [.int b1, .int b0]) (w := 406) (L := 2) rfl rfl rfl hs (by simp [gm_en1])) (by decide)) m135 rfl rfl hd hc kn kx
theorem f135_14 : gm_ft 135 14 = some (.istore_n 2, 1) := by decide +kernel
theorem r135_14 {E : Nat → Value} {d : Nat} {st : List Value} {h : gm_H} {Q : gm_R → gm_H → Prop} {a0 a1 a2 a3 : Value} {x : Int32} : gm_W E d 135 14 [a0, a1, a2, a3] (.int x :: st) h Q ↔ gm_W E d 135 15 [a0, gm_k a1, .int x, a3] st h Q := gw_loc m135 f135_14 rfl rfl
theorem f135_15 : gm_ft 135 15 = some (.iload_n 3, 1) := by decide +kernel
theorem r135_15 {E : Nat → Value} {d : Nat} {st : List Value} {h : gm_H} {Q : gm_R → gm_H → Prop} {a0 a1 a2 : Value} {x : Int32} : gm_W E d 135 15 [a0, a1, a2, .int x] st h Q ↔ gm_W E d 135 16 [a0, a1, a2, .int x] (.int x :: st) h Q := gw_loc m135 f135_15 rfl rfl
theorem f135_16 : gm_ft 135 16 = some (.aload_n 0, 1) := by decide +kernel
theorem r135_16 {E : Nat → Value} {d : Nat} {st : List Value} {h : gm_H} {Q : gm_R → gm_H → Prop} {a1 a2 a3 : Value} {x : Nat} : gm_W E d 135 16 [.ref x, a1, a2, a3] st h Q ↔ gm_W E d 135 17 [.ref x, a1, a2, a3] (.ref x :: st) h Q := gw_loc m135 f135_16 rfl rfl
theorem r135_16n {E : Nat → Value} {d : Nat} {st : List Value} {h : gm_H} {Q : gm_R → gm_H → Prop} {a1 a2 a3 : Value}  : gm_W E d 135 16 [.null, a1, a2, a3] st h Q ↔ gm_W E d 135 17 [.null, a1, a2, a3] (.null :: st) h Q := gw_loc m135 f135_16 rfl rfl
theorem f135_17 : gm_ft 135 17 = some (.arraylength, 1) := by decide +kernel
theorem r135_17 {E : Nat → Value} {d : Nat} {st : List Value} {h : gm_H} {Q : gm_R → gm_H → Prop} {lv : List Value} {a : Nat} (hk : 100 ≤ gm_kd h a ∧ gm_kd h a < 900) : gm_W E d 135 17 lv (.ref a :: st) h Q ↔ gm_W E d 135 18 lv (.int (nI (gm_ln h a)) :: st) h Q := gw_rd m135 f135_17 rfl rfl rfl rfl (gs_len hk)
theorem f135_18 : gm_ft 135 18 = some (.invokestatic 38, 3) := by decide +kernel
theorem c135_18 {E : Nat → Value} {d : Nat} {st : List Value} {h : gm_H} {Q : gm_R → gm_H → Prop} {lv : List Value} {b0 : Int32} {b1 : Int32} {Qc : gm_R → gm_H → Prop} (hs : (st.map fun v => v.category).sum ≤ 8) (hd : 1 ≤ d) (hc : gm_Ca E (d - 1) 125 [.int b0, .int b1] h Qc) (kn : ∀ (v9 : Option Value) (h9 : gm_H), Qc (.inl v9) h9 → gm_W E d 135 21 lv (v9.toList ++ st) h9 Q) (kx : ∀ (x9 : Nat) (h9 : gm_H), Qc (.inr x9) h9 → Q (.inr x9) h9) : gm_W E d 135 18 lv (.int b1 :: .int b0 :: st) h Q := gw_call (gn_call m135 f135_18 rfl rfl rfl rfl rfl rfl rfl (gc_stat (bs := [.int b1, .int b0]) (w := 407) (L := 2) rfl rfl rfl hs (by simp [gm_en1])) (by decide)) m135 rfl rfl hd hc kn kx
theorem f135_21 : gm_ft 135 21 = some (.istore_n 3, 1) := by decide +kernel
theorem r135_21 {E : Nat → Value} {d : Nat} {st : List Value} {h : gm_H} {Q : gm_R → gm_H → Prop} {a0 a1 a2 a3 : Value} {x : Int32} : gm_W E d 135 21 [a0, a1, a2, a3] (.int x :: st) h Q ↔ gm_W E d 135 22 [a0, a1, gm_k a2, .int x] st h Q := gw_loc m135 f135_21 rfl rfl
theorem f135_22 : gm_ft 135 22 = some (.iload_n 2, 1) := by decide +kernel
theorem r135_22 {E : Nat → Value} {d : Nat} {st : List Value} {h : gm_H} {Q : gm_R → gm_H → Prop} {a0 a1 a3 : Value} {x : Int32} : gm_W E d 135 22 [a0, a1, .int x, a3] st h Q ↔ gm_W E d 135 23 [a0, a1, .int x, a3] (.int x :: st) h Q := gw_loc m135 f135_22 rfl rfl
theorem f135_23 : gm_ft 135 23 = some (.iload_n 3, 1) := by decide +kernel
theorem r135_23 {E : Nat → Value} {d : Nat} {st : List Value} {h : gm_H} {Q : gm_R → gm_H → Prop} {a0 a1 a2 : Value} {x : Int32} : gm_W E d 135 23 [a0, a1, a2, .int x] st h Q ↔ gm_W E d 135 24 [a0, a1, a2, .int x] (.int x :: st) h Q := gw_loc m135 f135_23 rfl rfl
theorem f135_24 : gm_ft 135 24 = some (.if_icmp .lt 5, 3) := by decide +kernel
theorem r135_24 {E : Nat → Value} {d : Nat} {st : List Value} {h : gm_H} {Q : gm_R → gm_H → Prop} {lv : List Value} {x y : Int32} : gm_W E d 135 24 lv (.int y :: .int x :: st) h Q ↔ (if x < y then gm_W E d 135 29 lv st h Q else gm_W E d 135 27 lv st h Q) := (gw_br m135 f135_24 rfl rfl rfl rfl).trans gw_if
theorem f135_27 : gm_ft 135 27 = some (.iconst (-1), 1) := by decide +kernel
theorem r135_27 {E : Nat → Value} {d : Nat} {st : List Value} {h : gm_H} {Q : gm_R → gm_H → Prop} {lv : List Value} : gm_W E d 135 27 lv st h Q ↔ gm_W E d 135 28 lv (.int (-1 : Int32) :: st) h Q := gw_pure m135 f135_27 rfl
theorem f135_28 : gm_ft 135 28 = some (.ireturn, 1) := by decide +kernel
theorem r135_28 {E : Nat → Value} {d : Nat} {h : gm_H} {Q : gm_R → gm_H → Prop} {lv : List Value} {x : Int32} : gm_W E d 135 28 lv [.int x] h Q ↔ Q (.inl (some (.int x))) h := gw_ret m135 f135_28 rfl rfl rfl rfl rfl rfl rfl rfl (by unfold gm_rt; dsimp only; rw [if_pos ⟨rfl, rfl⟩])
theorem f135_29 : gm_ft 135 29 = some (.aload_n 0, 1) := by decide +kernel
theorem r135_29 {E : Nat → Value} {d : Nat} {st : List Value} {h : gm_H} {Q : gm_R → gm_H → Prop} {a1 a2 a3 : Value} {x : Nat} : gm_W E d 135 29 [.ref x, a1, a2, a3] st h Q ↔ gm_W E d 135 30 [.ref x, a1, a2, a3] (.ref x :: st) h Q := gw_loc m135 f135_29 rfl rfl
theorem r135_29n {E : Nat → Value} {d : Nat} {st : List Value} {h : gm_H} {Q : gm_R → gm_H → Prop} {a1 a2 a3 : Value}  : gm_W E d 135 29 [.null, a1, a2, a3] st h Q ↔ gm_W E d 135 30 [.null, a1, a2, a3] (.null :: st) h Q := gw_loc m135 f135_29 rfl rfl
theorem f135_30 : gm_ft 135 30 = some (.iload_n 1, 1) := by decide +kernel
theorem r135_30 {E : Nat → Value} {d : Nat} {st : List Value} {h : gm_H} {Q : gm_R → gm_H → Prop} {a0 a2 a3 : Value} {x : Int32} : gm_W E d 135 30 [a0, .int x, a2, a3] st h Q ↔ gm_W E d 135 31 [a0, .int x, a2, a3] (.int x :: st) h Q := gw_loc m135 f135_30 rfl rfl
theorem f135_31 : gm_ft 135 31 = some (.iload_n 2, 1) := by decide +kernel
theorem r135_31 {E : Nat → Value} {d : Nat} {st : List Value} {h : gm_H} {Q : gm_R → gm_H → Prop} {a0 a1 a3 : Value} {x : Int32} : gm_W E d 135 31 [a0, a1, .int x, a3] st h Q ↔ gm_W E d 135 32 [a0, a1, .int x, a3] (.int x :: st) h Q := gw_loc m135 f135_31 rfl rfl
theorem f135_32 : gm_ft 135 32 = some (.iload_n 3, 1) := by decide +kernel
theorem r135_32 {E : Nat → Value} {d : Nat} {st : List Value} {h : gm_H} {Q : gm_R → gm_H → Prop} {a0 a1 a2 : Value} {x : Int32} : gm_W E d 135 32 [a0, a1, a2, .int x] st h Q ↔ gm_W E d 135 33 [a0, a1, a2, .int x] (.int x :: st) h Q := gw_loc m135 f135_32 rfl rfl
theorem f135_33 : gm_ft 135 33 = some (.invokestatic 95, 3) := by decide +kernel
theorem c135_33 {E : Nat → Value} {d : Nat} {st : List Value} {h : gm_H} {Q : gm_R → gm_H → Prop} {lv : List Value} {b0 : Value} {b1 : Int32} {b2 : Int32} {b3 : Int32} {Qc : gm_R → gm_H → Prop} (hs : (st.map fun v => v.category).sum ≤ 8) (he : (gm_en1 [b0, .int b1, .int b2, .int b3]).length ≤ 6) (hd : 1 ≤ d) (hc : gm_Ca E (d - 1) 136 [b0, .int b1, .int b2, .int b3] h Qc) (kn : ∀ (v9 : Option Value) (h9 : gm_H), Qc (.inl v9) h9 → gm_W E d 135 36 lv (v9.toList ++ st) h9 Q) (kx : ∀ (x9 : Nat) (h9 : gm_H), Qc (.inr x9) h9 → Q (.inr x9) h9) : gm_W E d 135 33 lv (.int b3 :: .int b2 :: .int b1 :: b0 :: st) h Q := gw_call (gn_call m135 f135_33 rfl rfl rfl rfl rfl rfl rfl (gc_stat (bs := [.int b3, .int b2, .int b1, b0]) (w := 408) (L := 6) rfl rfl rfl hs he) (by decide)) m135 rfl rfl hd hc kn kx
theorem f135_36 : gm_ft 135 36 = some (.ireturn, 1) := by decide +kernel
theorem r135_36 {E : Nat → Value} {d : Nat} {h : gm_H} {Q : gm_R → gm_H → Prop} {lv : List Value} {x : Int32} : gm_W E d 135 36 lv [.int x] h Q ↔ Q (.inl (some (.int x))) h := gw_ret m135 f135_36 rfl rfl rfl rfl rfl rfl rfl rfl (by unfold gm_rt; dsimp only; rw [if_pos ⟨rfl, rfl⟩])
/-! java/lang/StringLatin1.indexOfChar([BIII)I -/
theorem m136 : gm_mt[136]? = some (⟨"java/lang/StringLatin1", "indexOfChar", "([BIII)I"⟩, prog_14_method_23_code, 6, (some .int), [], 9, 3) := rfl
theorem f136_0 : gm_ft 136 0 = some (.iload_n 1, 1) := by decide +kernel
theorem r136_0 {E : Nat → Value} {d : Nat} {st : List Value} {h : gm_H} {Q : gm_R → gm_H → Prop} {a0 a2 a3 a4 a5 : Value} {x : Int32} : gm_W E d 136 0 [a0, .int x, a2, a3, a4, a5] st h Q ↔ gm_W E d 136 1 [a0, .int x, a2, a3, a4, a5] (.int x :: st) h Q := gw_loc m136 f136_0 rfl rfl
theorem f136_1 : gm_ft 136 1 = some (.i2b, 1) := by decide +kernel
theorem r136_1 {E : Nat → Value} {d : Nat} {st : List Value} {h : gm_H} {Q : gm_R → gm_H → Prop} {lv : List Value} {x : Int32} : gm_W E d 136 1 lv (.int x :: st) h Q ↔ gm_W E d 136 2 lv (.int (x.toInt8.toInt32) :: st) h Q := gw_pure m136 f136_1 rfl
theorem f136_2 : gm_ft 136 2 = some (.istore 4, 2) := by decide +kernel
theorem r136_2 {E : Nat → Value} {d : Nat} {st : List Value} {h : gm_H} {Q : gm_R → gm_H → Prop} {a0 a1 a2 a3 a4 a5 : Value} {x : Int32} : gm_W E d 136 2 [a0, a1, a2, a3, a4, a5] (.int x :: st) h Q ↔ gm_W E d 136 4 [a0, a1, a2, gm_k a3, .int x, a5] st h Q := gw_loc m136 f136_2 rfl rfl
theorem f136_4 : gm_ft 136 4 = some (.iload_n 2, 1) := by decide +kernel
theorem r136_4 {E : Nat → Value} {d : Nat} {st : List Value} {h : gm_H} {Q : gm_R → gm_H → Prop} {a0 a1 a3 a4 a5 : Value} {x : Int32} : gm_W E d 136 4 [a0, a1, .int x, a3, a4, a5] st h Q ↔ gm_W E d 136 5 [a0, a1, .int x, a3, a4, a5] (.int x :: st) h Q := gw_loc m136 f136_4 rfl rfl
theorem f136_5 : gm_ft 136 5 = some (.istore 5, 2) := by decide +kernel
theorem r136_5 {E : Nat → Value} {d : Nat} {st : List Value} {h : gm_H} {Q : gm_R → gm_H → Prop} {a0 a1 a2 a3 a4 a5 : Value} {x : Int32} : gm_W E d 136 5 [a0, a1, a2, a3, a4, a5] (.int x :: st) h Q ↔ gm_W E d 136 7 [a0, a1, a2, a3, gm_k a4, .int x] st h Q := gw_loc m136 f136_5 rfl rfl
theorem f136_7 : gm_ft 136 7 = some (.iload 5, 2) := by decide +kernel
theorem r136_7 {E : Nat → Value} {d : Nat} {st : List Value} {h : gm_H} {Q : gm_R → gm_H → Prop} {a0 a1 a2 a3 a4 : Value} {x : Int32} : gm_W E d 136 7 [a0, a1, a2, a3, a4, .int x] st h Q ↔ gm_W E d 136 9 [a0, a1, a2, a3, a4, .int x] (.int x :: st) h Q := gw_loc m136 f136_7 rfl rfl
theorem f136_9 : gm_ft 136 9 = some (.iload_n 3, 1) := by decide +kernel
theorem r136_9 {E : Nat → Value} {d : Nat} {st : List Value} {h : gm_H} {Q : gm_R → gm_H → Prop} {a0 a1 a2 a4 a5 : Value} {x : Int32} : gm_W E d 136 9 [a0, a1, a2, .int x, a4, a5] st h Q ↔ gm_W E d 136 10 [a0, a1, a2, .int x, a4, a5] (.int x :: st) h Q := gw_loc m136 f136_9 rfl rfl
theorem f136_10 : gm_ft 136 10 = some (.if_icmp .ge 21, 3) := by decide +kernel
theorem r136_10 {E : Nat → Value} {d : Nat} {st : List Value} {h : gm_H} {Q : gm_R → gm_H → Prop} {lv : List Value} {x y : Int32} : gm_W E d 136 10 lv (.int y :: .int x :: st) h Q ↔ (if y ≤ x then gm_W E d 136 31 lv st h Q else gm_W E d 136 13 lv st h Q) := (gw_br m136 f136_10 rfl rfl rfl rfl).trans gw_if
theorem f136_13 : gm_ft 136 13 = some (.aload_n 0, 1) := by decide +kernel
theorem r136_13 {E : Nat → Value} {d : Nat} {st : List Value} {h : gm_H} {Q : gm_R → gm_H → Prop} {a1 a2 a3 a4 a5 : Value} {x : Nat} : gm_W E d 136 13 [.ref x, a1, a2, a3, a4, a5] st h Q ↔ gm_W E d 136 14 [.ref x, a1, a2, a3, a4, a5] (.ref x :: st) h Q := gw_loc m136 f136_13 rfl rfl
theorem r136_13n {E : Nat → Value} {d : Nat} {st : List Value} {h : gm_H} {Q : gm_R → gm_H → Prop} {a1 a2 a3 a4 a5 : Value}  : gm_W E d 136 13 [.null, a1, a2, a3, a4, a5] st h Q ↔ gm_W E d 136 14 [.null, a1, a2, a3, a4, a5] (.null :: st) h Q := gw_loc m136 f136_13 rfl rfl
theorem f136_14 : gm_ft 136 14 = some (.iload 5, 2) := by decide +kernel
theorem r136_14 {E : Nat → Value} {d : Nat} {st : List Value} {h : gm_H} {Q : gm_R → gm_H → Prop} {a0 a1 a2 a3 a4 : Value} {x : Int32} : gm_W E d 136 14 [a0, a1, a2, a3, a4, .int x] st h Q ↔ gm_W E d 136 16 [a0, a1, a2, a3, a4, .int x] (.int x :: st) h Q := gw_loc m136 f136_14 rfl rfl
theorem f136_16 : gm_ft 136 16 = some (.baload, 1) := by decide +kernel
theorem r136_16 {E : Nat → Value} {d : Nat} {st : List Value} {h : gm_H} {Q : gm_R → gm_H → Prop} {lv : List Value} {a j : Nat} (hk : (gm_kd h a % 100 = 2 ∨ gm_kd h a % 100 = 3) ∧ 100 ≤ gm_kd h a ∧ gm_kd h a < 900) (hj : j < gm_ln h a) (hl : gm_ln h a < 2 ^ 31) : gm_W E d 136 16 lv (.int (nI j) :: .ref a :: st) h Q ↔ gm_W E d 136 17 lv (gm_fv h a j :: st) h Q := gw_rd m136 f136_16 rfl rfl rfl rfl (gs_ld (P := fun t => t == 2 || t == 3) hk.2 (by have := hk.1; simp [this] <;> omega) hj hl)
theorem f136_17 : gm_ft 136 17 = some (.iload 4, 2) := by decide +kernel
theorem r136_17 {E : Nat → Value} {d : Nat} {st : List Value} {h : gm_H} {Q : gm_R → gm_H → Prop} {a0 a1 a2 a3 a5 : Value} {x : Int32} : gm_W E d 136 17 [a0, a1, a2, a3, .int x, a5] st h Q ↔ gm_W E d 136 19 [a0, a1, a2, a3, .int x, a5] (.int x :: st) h Q := gw_loc m136 f136_17 rfl rfl
theorem f136_19 : gm_ft 136 19 = some (.if_icmp .ne 6, 3) := by decide +kernel
theorem r136_19 {E : Nat → Value} {d : Nat} {st : List Value} {h : gm_H} {Q : gm_R → gm_H → Prop} {lv : List Value} {x y : Int32} : gm_W E d 136 19 lv (.int y :: .int x :: st) h Q ↔ (if x = y then gm_W E d 136 22 lv st h Q else gm_W E d 136 25 lv st h Q) := (gw_br m136 f136_19 rfl rfl rfl rfl).trans gw_ifn
theorem f136_22 : gm_ft 136 22 = some (.iload 5, 2) := by decide +kernel
theorem r136_22 {E : Nat → Value} {d : Nat} {st : List Value} {h : gm_H} {Q : gm_R → gm_H → Prop} {a0 a1 a2 a3 a4 : Value} {x : Int32} : gm_W E d 136 22 [a0, a1, a2, a3, a4, .int x] st h Q ↔ gm_W E d 136 24 [a0, a1, a2, a3, a4, .int x] (.int x :: st) h Q := gw_loc m136 f136_22 rfl rfl
theorem f136_24 : gm_ft 136 24 = some (.ireturn, 1) := by decide +kernel
theorem r136_24 {E : Nat → Value} {d : Nat} {h : gm_H} {Q : gm_R → gm_H → Prop} {lv : List Value} {x : Int32} : gm_W E d 136 24 lv [.int x] h Q ↔ Q (.inl (some (.int x))) h := gw_ret m136 f136_24 rfl rfl rfl rfl rfl rfl rfl rfl (by unfold gm_rt; dsimp only; rw [if_pos ⟨rfl, rfl⟩])
theorem f136_25 : gm_ft 136 25 = some (.iinc 5 1, 3) := by decide +kernel
theorem r136_25 {E : Nat → Value} {d : Nat} {st : List Value} {h : gm_H} {Q : gm_R → gm_H → Prop} {a0 a1 a2 a3 a4 : Value} {x : Int32} : gm_W E d 136 25 [a0, a1, a2, a3, a4, .int x] st h Q ↔ gm_W E d 136 28 [a0, a1, a2, a3, gm_k a4, .int (x + (1 : Int32))] st h Q := gw_loc m136 f136_25 rfl rfl
theorem f136_28 : gm_ft 136 28 = some (.goto (-21), 3) := by decide +kernel
theorem r136_28 {E : Nat → Value} {d : Nat} {st : List Value} {h : gm_H} {Q : gm_R → gm_H → Prop} {lv : List Value} : gm_W E d 136 28 lv st h Q ↔ gm_W E d 136 7 lv st h Q := gw_brT m136 f136_28 rfl rfl rfl rfl
theorem f136_31 : gm_ft 136 31 = some (.iconst (-1), 1) := by decide +kernel
theorem r136_31 {E : Nat → Value} {d : Nat} {st : List Value} {h : gm_H} {Q : gm_R → gm_H → Prop} {lv : List Value} : gm_W E d 136 31 lv st h Q ↔ gm_W E d 136 32 lv (.int (-1 : Int32) :: st) h Q := gw_pure m136 f136_31 rfl
theorem f136_32 : gm_ft 136 32 = some (.ireturn, 1) := by decide +kernel
theorem r136_32 {E : Nat → Value} {d : Nat} {h : gm_H} {Q : gm_R → gm_H → Prop} {lv : List Value} {x : Int32} : gm_W E d 136 32 lv [.int x] h Q ↔ Q (.inl (some (.int x))) h := gw_ret m136 f136_32 rfl rfl rfl rfl rfl rfl rfl rfl (by unfold gm_rt; dsimp only; rw [if_pos ⟨rfl, rfl⟩])
/-! jdk/internal/util/Preconditions.checkIndex(IILjava/util/function/BiFunction;)I -/
theorem m137 : gm_mt[137]? = some (⟨"jdk/internal/util/Preconditions", "checkIndex", "(IILjava/util/function/BiFunction;)I"⟩, prog_17_method_11_code, 3, (some .int), [], 10, 3) := rfl
theorem f137_0 : gm_ft 137 0 = some (.iload_n 0, 1) := by decide +kernel
theorem r137_0 {E : Nat → Value} {d : Nat} {st : List Value} {h : gm_H} {Q : gm_R → gm_H → Prop} {a1 a2 : Value} {x : Int32} : gm_W E d 137 0 [.int x, a1, a2] st h Q ↔ gm_W E d 137 1 [.int x, a1, a2] (.int x :: st) h Q := gw_loc m137 f137_0 rfl rfl
theorem f137_1 : gm_ft 137 1 = some (.ifCond .lt 8, 3) := by decide +kernel
theorem r137_1 {E : Nat → Value} {d : Nat} {st : List Value} {h : gm_H} {Q : gm_R → gm_H → Prop} {lv : List Value} {x : Int32} : gm_W E d 137 1 lv (.int x :: st) h Q ↔ (if x < 0 then gm_W E d 137 9 lv st h Q else gm_W E d 137 4 lv st h Q) := (gw_br m137 f137_1 rfl rfl rfl rfl).trans gw_if
theorem f137_4 : gm_ft 137 4 = some (.iload_n 0, 1) := by decide +kernel
theorem r137_4 {E : Nat → Value} {d : Nat} {st : List Value} {h : gm_H} {Q : gm_R → gm_H → Prop} {a1 a2 : Value} {x : Int32} : gm_W E d 137 4 [.int x, a1, a2] st h Q ↔ gm_W E d 137 5 [.int x, a1, a2] (.int x :: st) h Q := gw_loc m137 f137_4 rfl rfl
theorem f137_5 : gm_ft 137 5 = some (.iload_n 1, 1) := by decide +kernel
theorem r137_5 {E : Nat → Value} {d : Nat} {st : List Value} {h : gm_H} {Q : gm_R → gm_H → Prop} {a0 a2 : Value} {x : Int32} : gm_W E d 137 5 [a0, .int x, a2] st h Q ↔ gm_W E d 137 6 [a0, .int x, a2] (.int x :: st) h Q := gw_loc m137 f137_5 rfl rfl
theorem f137_6 : gm_ft 137 6 = some (.if_icmp .lt 10, 3) := by decide +kernel
theorem r137_6 {E : Nat → Value} {d : Nat} {st : List Value} {h : gm_H} {Q : gm_R → gm_H → Prop} {lv : List Value} {x y : Int32} : gm_W E d 137 6 lv (.int y :: .int x :: st) h Q ↔ (if x < y then gm_W E d 137 16 lv st h Q else gm_W E d 137 9 lv st h Q) := (gw_br m137 f137_6 rfl rfl rfl rfl).trans gw_if
theorem f137_9 : gm_ft 137 9 = some (.aload_n 2, 1) := by decide +kernel
theorem r137_9 {E : Nat → Value} {d : Nat} {st : List Value} {h : gm_H} {Q : gm_R → gm_H → Prop} {a0 a1 : Value} {x : Nat} : gm_W E d 137 9 [a0, a1, .ref x] st h Q ↔ gm_W E d 137 10 [a0, a1, .ref x] (.ref x :: st) h Q := gw_loc m137 f137_9 rfl rfl
theorem r137_9n {E : Nat → Value} {d : Nat} {st : List Value} {h : gm_H} {Q : gm_R → gm_H → Prop} {a0 a1 : Value}  : gm_W E d 137 9 [a0, a1, .null] st h Q ↔ gm_W E d 137 10 [a0, a1, .null] (.null :: st) h Q := gw_loc m137 f137_9 rfl rfl
theorem f137_10 : gm_ft 137 10 = some (.iload_n 0, 1) := by decide +kernel
theorem r137_10 {E : Nat → Value} {d : Nat} {st : List Value} {h : gm_H} {Q : gm_R → gm_H → Prop} {a1 a2 : Value} {x : Int32} : gm_W E d 137 10 [.int x, a1, a2] st h Q ↔ gm_W E d 137 11 [.int x, a1, a2] (.int x :: st) h Q := gw_loc m137 f137_10 rfl rfl
theorem f137_11 : gm_ft 137 11 = some (.iload_n 1, 1) := by decide +kernel
theorem r137_11 {E : Nat → Value} {d : Nat} {st : List Value} {h : gm_H} {Q : gm_R → gm_H → Prop} {a0 a2 : Value} {x : Int32} : gm_W E d 137 11 [a0, .int x, a2] st h Q ↔ gm_W E d 137 12 [a0, .int x, a2] (.int x :: st) h Q := gw_loc m137 f137_11 rfl rfl
theorem f137_12 : gm_ft 137 12 = some (.invokestatic 95, 3) := by decide +kernel
theorem f137_15 : gm_ft 137 15 = some (.athrow, 1) := by decide +kernel
theorem f137_16 : gm_ft 137 16 = some (.iload_n 0, 1) := by decide +kernel
theorem r137_16 {E : Nat → Value} {d : Nat} {st : List Value} {h : gm_H} {Q : gm_R → gm_H → Prop} {a1 a2 : Value} {x : Int32} : gm_W E d 137 16 [.int x, a1, a2] st h Q ↔ gm_W E d 137 17 [.int x, a1, a2] (.int x :: st) h Q := gw_loc m137 f137_16 rfl rfl
theorem f137_17 : gm_ft 137 17 = some (.ireturn, 1) := by decide +kernel
theorem r137_17 {E : Nat → Value} {d : Nat} {h : gm_H} {Q : gm_R → gm_H → Prop} {lv : List Value} {x : Int32} : gm_W E d 137 17 lv [.int x] h Q ↔ Q (.inl (some (.int x))) h := gw_ret m137 f137_17 rfl rfl rfl rfl rfl rfl rfl rfl (by unfold gm_rt; dsimp only; rw [if_pos ⟨rfl, rfl⟩])
