/-! GraphReader.passUtf()I -/
theorem m71 : gm_mt[71]? = some (⟨"GraphReader", "passUtf", "()I"⟩, prog_1_method_21_code, 4, (some .int), [], 0, 1) := rfl
theorem f71_0 : gm_ft 71 0 = some (.aload_n 0, 1) := by decide +kernel
theorem r71_0 {E : Nat → Value} {d : Nat} {st : List Value} {h : gm_H} {Q : gm_R → gm_H → Prop} {a1 a2 a3 : Value} {x : Nat} : gm_W E d 71 0 [.ref x, a1, a2, a3] st h Q ↔ gm_W E d 71 1 [.ref x, a1, a2, a3] (.ref x :: st) h Q := gw_loc m71 f71_0 rfl rfl
theorem r71_0n {E : Nat → Value} {d : Nat} {st : List Value} {h : gm_H} {Q : gm_R → gm_H → Prop} {a1 a2 a3 : Value}  : gm_W E d 71 0 [.null, a1, a2, a3] st h Q ↔ gm_W E d 71 1 [.null, a1, a2, a3] (.null :: st) h Q := gw_loc m71 f71_0 rfl rfl
theorem f71_1 : gm_ft 71 1 = some (.iconst 2, 1) := by decide +kernel
theorem r71_1 {E : Nat → Value} {d : Nat} {st : List Value} {h : gm_H} {Q : gm_R → gm_H → Prop} {lv : List Value} : gm_W E d 71 1 lv st h Q ↔ gm_W E d 71 2 lv (.int (2 : Int32) :: st) h Q := gw_pure m71 f71_1 rfl
theorem f71_2 : gm_ft 71 2 = some (.invokevirtual 163, 3) := by decide +kernel
theorem c71_2 {E : Nat → Value} {d : Nat} {st : List Value} {h : gm_H} {Q : gm_R → gm_H → Prop} {lv : List Value} {b0 : Int32} {a : Nat} {Qc : gm_R → gm_H → Prop} (hs : (st.map fun v => v.category).sum ≤ 8) (hr : gm_kd h a = 0) (hd : 1 ≤ d) (hc : gm_Ca E (d - 1) 68 [.ref a, .int b0] h Qc) (kn : ∀ (v9 : Option Value) (h9 : gm_H), Qc (.inl v9) h9 → gm_W E d 71 5 lv (v9.toList ++ st) h9 Q) (kx : ∀ (x9 : Nat) (h9 : gm_H), Qc (.inr x9) h9 → Q (.inr x9) h9) : gm_W E d 71 2 lv (.int b0 :: .ref a :: st) h Q := gw_call (gn_call m71 f71_2 rfl rfl rfl rfl rfl rfl rfl (gs_virt (bs := [.int b0]) (w := 278) (L := 4) rfl rfl rfl rfl hs (by simp [gm_en1]) hr (by decide)) (by decide)) m71 rfl rfl hd hc kn kx
theorem f71_5 : gm_ft 71 5 = some (.l2i, 1) := by decide +kernel
theorem r71_5 {E : Nat → Value} {d : Nat} {st : List Value} {h : gm_H} {Q : gm_R → gm_H → Prop} {lv : List Value} {x : Int64} : gm_W E d 71 5 lv (.long x :: st) h Q ↔ gm_W E d 71 6 lv (.int (x.toInt32) :: st) h Q := gw_pure m71 f71_5 rfl
theorem f71_6 : gm_ft 71 6 = some (.istore_n 1, 1) := by decide +kernel
theorem r71_6 {E : Nat → Value} {d : Nat} {st : List Value} {h : gm_H} {Q : gm_R → gm_H → Prop} {a0 a1 a2 a3 : Value} {x : Int32} : gm_W E d 71 6 [a0, a1, a2, a3] (.int x :: st) h Q ↔ gm_W E d 71 7 [gm_k a0, .int x, a2, a3] st h Q := gw_loc m71 f71_6 rfl rfl
theorem f71_7 : gm_ft 71 7 = some (.aload_n 0, 1) := by decide +kernel
theorem r71_7 {E : Nat → Value} {d : Nat} {st : List Value} {h : gm_H} {Q : gm_R → gm_H → Prop} {a1 a2 a3 : Value} {x : Nat} : gm_W E d 71 7 [.ref x, a1, a2, a3] st h Q ↔ gm_W E d 71 8 [.ref x, a1, a2, a3] (.ref x :: st) h Q := gw_loc m71 f71_7 rfl rfl
theorem r71_7n {E : Nat → Value} {d : Nat} {st : List Value} {h : gm_H} {Q : gm_R → gm_H → Prop} {a1 a2 a3 : Value}  : gm_W E d 71 7 [.null, a1, a2, a3] st h Q ↔ gm_W E d 71 8 [.null, a1, a2, a3] (.null :: st) h Q := gw_loc m71 f71_7 rfl rfl
theorem f71_8 : gm_ft 71 8 = some (.getfield 96, 3) := by decide +kernel
theorem r71_8 {E : Nat → Value} {d : Nat} {st : List Value} {h : gm_H} {Q : gm_R → gm_H → Prop} {lv : List Value} {a : Nat} (hk : gm_kd h a = 0) : gm_W E d 71 8 lv (.ref a :: st) h Q ↔ gm_W E d 71 11 lv (gm_fv h a 7 :: st) h Q := gw_rd m71 f71_8 rfl rfl rfl rfl (gs_get k0_96 hk (by decide))
theorem f71_11 : gm_ft 71 11 = some (.istore_n 2, 1) := by decide +kernel
theorem r71_11 {E : Nat → Value} {d : Nat} {st : List Value} {h : gm_H} {Q : gm_R → gm_H → Prop} {a0 a1 a2 a3 : Value} {x : Int32} : gm_W E d 71 11 [a0, a1, a2, a3] (.int x :: st) h Q ↔ gm_W E d 71 12 [a0, gm_k a1, .int x, a3] st h Q := gw_loc m71 f71_11 rfl rfl
theorem f71_12 : gm_ft 71 12 = some (.iconst 0, 1) := by decide +kernel
theorem r71_12 {E : Nat → Value} {d : Nat} {st : List Value} {h : gm_H} {Q : gm_R → gm_H → Prop} {lv : List Value} : gm_W E d 71 12 lv st h Q ↔ gm_W E d 71 13 lv (.int (0 : Int32) :: st) h Q := gw_pure m71 f71_12 rfl
theorem f71_13 : gm_ft 71 13 = some (.istore_n 3, 1) := by decide +kernel
theorem r71_13 {E : Nat → Value} {d : Nat} {st : List Value} {h : gm_H} {Q : gm_R → gm_H → Prop} {a0 a1 a2 a3 : Value} {x : Int32} : gm_W E d 71 13 [a0, a1, a2, a3] (.int x :: st) h Q ↔ gm_W E d 71 14 [a0, a1, gm_k a2, .int x] st h Q := gw_loc m71 f71_13 rfl rfl
theorem f71_14 : gm_ft 71 14 = some (.iload_n 3, 1) := by decide +kernel
theorem r71_14 {E : Nat → Value} {d : Nat} {st : List Value} {h : gm_H} {Q : gm_R → gm_H → Prop} {a0 a1 a2 : Value} {x : Int32} : gm_W E d 71 14 [a0, a1, a2, .int x] st h Q ↔ gm_W E d 71 15 [a0, a1, a2, .int x] (.int x :: st) h Q := gw_loc m71 f71_14 rfl rfl
theorem f71_15 : gm_ft 71 15 = some (.iload_n 1, 1) := by decide +kernel
theorem r71_15 {E : Nat → Value} {d : Nat} {st : List Value} {h : gm_H} {Q : gm_R → gm_H → Prop} {a0 a2 a3 : Value} {x : Int32} : gm_W E d 71 15 [a0, .int x, a2, a3] st h Q ↔ gm_W E d 71 16 [a0, .int x, a2, a3] (.int x :: st) h Q := gw_loc m71 f71_15 rfl rfl
theorem f71_16 : gm_ft 71 16 = some (.if_icmp .ge 56, 3) := by decide +kernel
theorem r71_16 {E : Nat → Value} {d : Nat} {st : List Value} {h : gm_H} {Q : gm_R → gm_H → Prop} {lv : List Value} {x y : Int32} : gm_W E d 71 16 lv (.int y :: .int x :: st) h Q ↔ (if y ≤ x then gm_W E d 71 72 lv st h Q else gm_W E d 71 19 lv st h Q) := (gw_br m71 f71_16 rfl rfl rfl rfl).trans gw_if
theorem f71_19 : gm_ft 71 19 = some (.aload_n 0, 1) := by decide +kernel
theorem r71_19 {E : Nat → Value} {d : Nat} {st : List Value} {h : gm_H} {Q : gm_R → gm_H → Prop} {a1 a2 a3 : Value} {x : Nat} : gm_W E d 71 19 [.ref x, a1, a2, a3] st h Q ↔ gm_W E d 71 20 [.ref x, a1, a2, a3] (.ref x :: st) h Q := gw_loc m71 f71_19 rfl rfl
theorem r71_19n {E : Nat → Value} {d : Nat} {st : List Value} {h : gm_H} {Q : gm_R → gm_H → Prop} {a1 a2 a3 : Value}  : gm_W E d 71 19 [.null, a1, a2, a3] st h Q ↔ gm_W E d 71 20 [.null, a1, a2, a3] (.null :: st) h Q := gw_loc m71 f71_19 rfl rfl
theorem f71_20 : gm_ft 71 20 = some (.getfield 96, 3) := by decide +kernel
theorem r71_20 {E : Nat → Value} {d : Nat} {st : List Value} {h : gm_H} {Q : gm_R → gm_H → Prop} {lv : List Value} {a : Nat} (hk : gm_kd h a = 0) : gm_W E d 71 20 lv (.ref a :: st) h Q ↔ gm_W E d 71 23 lv (gm_fv h a 7 :: st) h Q := gw_rd m71 f71_20 rfl rfl rfl rfl (gs_get k0_96 hk (by decide))
theorem f71_23 : gm_ft 71 23 = some (.aload_n 0, 1) := by decide +kernel
theorem r71_23 {E : Nat → Value} {d : Nat} {st : List Value} {h : gm_H} {Q : gm_R → gm_H → Prop} {a1 a2 a3 : Value} {x : Nat} : gm_W E d 71 23 [.ref x, a1, a2, a3] st h Q ↔ gm_W E d 71 24 [.ref x, a1, a2, a3] (.ref x :: st) h Q := gw_loc m71 f71_23 rfl rfl
theorem r71_23n {E : Nat → Value} {d : Nat} {st : List Value} {h : gm_H} {Q : gm_R → gm_H → Prop} {a1 a2 a3 : Value}  : gm_W E d 71 23 [.null, a1, a2, a3] st h Q ↔ gm_W E d 71 24 [.null, a1, a2, a3] (.null :: st) h Q := gw_loc m71 f71_23 rfl rfl
theorem f71_24 : gm_ft 71 24 = some (.getfield 93, 3) := by decide +kernel
theorem r71_24 {E : Nat → Value} {d : Nat} {st : List Value} {h : gm_H} {Q : gm_R → gm_H → Prop} {lv : List Value} {a : Nat} (hk : gm_kd h a = 0) : gm_W E d 71 24 lv (.ref a :: st) h Q ↔ gm_W E d 71 27 lv (gm_fv h a 6 :: st) h Q := gw_rd m71 f71_24 rfl rfl rfl rfl (gs_get k0_93 hk (by decide))
theorem f71_27 : gm_ft 71 27 = some (.if_icmp .lt 10, 3) := by decide +kernel
theorem r71_27 {E : Nat → Value} {d : Nat} {st : List Value} {h : gm_H} {Q : gm_R → gm_H → Prop} {lv : List Value} {x y : Int32} : gm_W E d 71 27 lv (.int y :: .int x :: st) h Q ↔ (if x < y then gm_W E d 71 37 lv st h Q else gm_W E d 71 30 lv st h Q) := (gw_br m71 f71_27 rfl rfl rfl rfl).trans gw_if
theorem f71_30 : gm_ft 71 30 = some (.aload_n 0, 1) := by decide +kernel
theorem r71_30 {E : Nat → Value} {d : Nat} {st : List Value} {h : gm_H} {Q : gm_R → gm_H → Prop} {a1 a2 a3 : Value} {x : Nat} : gm_W E d 71 30 [.ref x, a1, a2, a3] st h Q ↔ gm_W E d 71 31 [.ref x, a1, a2, a3] (.ref x :: st) h Q := gw_loc m71 f71_30 rfl rfl
theorem r71_30n {E : Nat → Value} {d : Nat} {st : List Value} {h : gm_H} {Q : gm_R → gm_H → Prop} {a1 a2 a3 : Value}  : gm_W E d 71 30 [.null, a1, a2, a3] st h Q ↔ gm_W E d 71 31 [.null, a1, a2, a3] (.null :: st) h Q := gw_loc m71 f71_30 rfl rfl
theorem f71_31 : gm_ft 71 31 = some (.bipush (-3), 2) := by decide +kernel
theorem r71_31 {E : Nat → Value} {d : Nat} {st : List Value} {h : gm_H} {Q : gm_R → gm_H → Prop} {lv : List Value} : gm_W E d 71 31 lv st h Q ↔ gm_W E d 71 33 lv (.int (-3 : Int32) :: st) h Q := gw_pure m71 f71_31 rfl
theorem f71_33 : gm_ft 71 33 = some (.invokevirtual 160, 3) := by decide +kernel
theorem c71_33 {E : Nat → Value} {d : Nat} {st : List Value} {h : gm_H} {Q : gm_R → gm_H → Prop} {lv : List Value} {b0 : Int32} {a : Nat} {Qc : gm_R → gm_H → Prop} (hs : (st.map fun v => v.category).sum ≤ 8) (hr : gm_kd h a = 0) (hd : 1 ≤ d) (hc : gm_Ca E (d - 1) 66 [.ref a, .int b0] h Qc) (kn : ∀ (v9 : Option Value) (h9 : gm_H), Qc (.inl v9) h9 → gm_W E d 71 36 lv (v9.toList ++ st) h9 Q) (kx : ∀ (x9 : Nat) (h9 : gm_H), Qc (.inr x9) h9 → Q (.inr x9) h9) : gm_W E d 71 33 lv (.int b0 :: .ref a :: st) h Q := gw_call (gn_call m71 f71_33 rfl rfl rfl rfl rfl rfl rfl (gs_virt (bs := [.int b0]) (w := 206) (L := 2) rfl rfl rfl rfl hs (by simp [gm_en1]) hr (by decide)) (by decide)) m71 rfl rfl hd hc kn kx
theorem f71_36 : gm_ft 71 36 = some (.ireturn, 1) := by decide +kernel
theorem r71_36 {E : Nat → Value} {d : Nat} {h : gm_H} {Q : gm_R → gm_H → Prop} {lv : List Value} {x : Int32} : gm_W E d 71 36 lv [.int x] h Q ↔ Q (.inl (some (.int x))) h := gw_ret m71 f71_36 rfl rfl rfl rfl rfl rfl rfl rfl (by unfold gm_rt; dsimp only; rw [if_pos ⟨rfl, rfl⟩])
theorem f71_37 : gm_ft 71 37 = some (.aload_n 0, 1) := by decide +kernel
theorem r71_37 {E : Nat → Value} {d : Nat} {st : List Value} {h : gm_H} {Q : gm_R → gm_H → Prop} {a1 a2 a3 : Value} {x : Nat} : gm_W E d 71 37 [.ref x, a1, a2, a3] st h Q ↔ gm_W E d 71 38 [.ref x, a1, a2, a3] (.ref x :: st) h Q := gw_loc m71 f71_37 rfl rfl
theorem r71_37n {E : Nat → Value} {d : Nat} {st : List Value} {h : gm_H} {Q : gm_R → gm_H → Prop} {a1 a2 a3 : Value}  : gm_W E d 71 37 [.null, a1, a2, a3] st h Q ↔ gm_W E d 71 38 [.null, a1, a2, a3] (.null :: st) h Q := gw_loc m71 f71_37 rfl rfl
theorem f71_38 : gm_ft 71 38 = some (.getfield 15, 3) := by decide +kernel
theorem r71_38 {E : Nat → Value} {d : Nat} {st : List Value} {h : gm_H} {Q : gm_R → gm_H → Prop} {lv : List Value} {a : Nat} (hk : gm_kd h a = 0) : gm_W E d 71 38 lv (.ref a :: st) h Q ↔ gm_W E d 71 41 lv (gm_fv h a 5 :: st) h Q := gw_rd m71 f71_38 rfl rfl rfl rfl (gs_get k0_15 hk (by decide))
theorem f71_41 : gm_ft 71 41 = some (.aload_n 0, 1) := by decide +kernel
theorem r71_41 {E : Nat → Value} {d : Nat} {st : List Value} {h : gm_H} {Q : gm_R → gm_H → Prop} {a1 a2 a3 : Value} {x : Nat} : gm_W E d 71 41 [.ref x, a1, a2, a3] st h Q ↔ gm_W E d 71 42 [.ref x, a1, a2, a3] (.ref x :: st) h Q := gw_loc m71 f71_41 rfl rfl
theorem r71_41n {E : Nat → Value} {d : Nat} {st : List Value} {h : gm_H} {Q : gm_R → gm_H → Prop} {a1 a2 a3 : Value}  : gm_W E d 71 41 [.null, a1, a2, a3] st h Q ↔ gm_W E d 71 42 [.null, a1, a2, a3] (.null :: st) h Q := gw_loc m71 f71_41 rfl rfl
theorem f71_42 : gm_ft 71 42 = some (.getfield 96, 3) := by decide +kernel
theorem r71_42 {E : Nat → Value} {d : Nat} {st : List Value} {h : gm_H} {Q : gm_R → gm_H → Prop} {lv : List Value} {a : Nat} (hk : gm_kd h a = 0) : gm_W E d 71 42 lv (.ref a :: st) h Q ↔ gm_W E d 71 45 lv (gm_fv h a 7 :: st) h Q := gw_rd m71 f71_42 rfl rfl rfl rfl (gs_get k0_96 hk (by decide))
theorem f71_45 : gm_ft 71 45 = some (.baload, 1) := by decide +kernel
theorem r71_45 {E : Nat → Value} {d : Nat} {st : List Value} {h : gm_H} {Q : gm_R → gm_H → Prop} {lv : List Value} {a j : Nat} (hk : (gm_kd h a % 100 = 2 ∨ gm_kd h a % 100 = 3) ∧ 100 ≤ gm_kd h a ∧ gm_kd h a < 900) (hj : j < gm_ln h a) (hl : gm_ln h a < 2 ^ 31) : gm_W E d 71 45 lv (.int (nI j) :: .ref a :: st) h Q ↔ gm_W E d 71 46 lv (gm_fv h a j :: st) h Q := gw_rd m71 f71_45 rfl rfl rfl rfl (gs_ld (P := fun t => t == 2 || t == 3) hk.2 (by have := hk.1; simp [this] <;> omega) hj hl)
theorem f71_46 : gm_ft 71 46 = some (.ifCond .gt 10, 3) := by decide +kernel
theorem r71_46 {E : Nat → Value} {d : Nat} {st : List Value} {h : gm_H} {Q : gm_R → gm_H → Prop} {lv : List Value} {x : Int32} : gm_W E d 71 46 lv (.int x :: st) h Q ↔ (if 0 < x then gm_W E d 71 56 lv st h Q else gm_W E d 71 49 lv st h Q) := (gw_br m71 f71_46 rfl rfl rfl rfl).trans gw_if
theorem f71_49 : gm_ft 71 49 = some (.aload_n 0, 1) := by decide +kernel
theorem r71_49 {E : Nat → Value} {d : Nat} {st : List Value} {h : gm_H} {Q : gm_R → gm_H → Prop} {a1 a2 a3 : Value} {x : Nat} : gm_W E d 71 49 [.ref x, a1, a2, a3] st h Q ↔ gm_W E d 71 50 [.ref x, a1, a2, a3] (.ref x :: st) h Q := gw_loc m71 f71_49 rfl rfl
theorem r71_49n {E : Nat → Value} {d : Nat} {st : List Value} {h : gm_H} {Q : gm_R → gm_H → Prop} {a1 a2 a3 : Value}  : gm_W E d 71 49 [.null, a1, a2, a3] st h Q ↔ gm_W E d 71 50 [.null, a1, a2, a3] (.null :: st) h Q := gw_loc m71 f71_49 rfl rfl
theorem f71_50 : gm_ft 71 50 = some (.bipush (-4), 2) := by decide +kernel
theorem r71_50 {E : Nat → Value} {d : Nat} {st : List Value} {h : gm_H} {Q : gm_R → gm_H → Prop} {lv : List Value} : gm_W E d 71 50 lv st h Q ↔ gm_W E d 71 52 lv (.int (-4 : Int32) :: st) h Q := gw_pure m71 f71_50 rfl
theorem f71_52 : gm_ft 71 52 = some (.invokevirtual 160, 3) := by decide +kernel
theorem c71_52 {E : Nat → Value} {d : Nat} {st : List Value} {h : gm_H} {Q : gm_R → gm_H → Prop} {lv : List Value} {b0 : Int32} {a : Nat} {Qc : gm_R → gm_H → Prop} (hs : (st.map fun v => v.category).sum ≤ 8) (hr : gm_kd h a = 0) (hd : 1 ≤ d) (hc : gm_Ca E (d - 1) 66 [.ref a, .int b0] h Qc) (kn : ∀ (v9 : Option Value) (h9 : gm_H), Qc (.inl v9) h9 → gm_W E d 71 55 lv (v9.toList ++ st) h9 Q) (kx : ∀ (x9 : Nat) (h9 : gm_H), Qc (.inr x9) h9 → Q (.inr x9) h9) : gm_W E d 71 52 lv (.int b0 :: .ref a :: st) h Q := gw_call (gn_call m71 f71_52 rfl rfl rfl rfl rfl rfl rfl (gs_virt (bs := [.int b0]) (w := 206) (L := 2) rfl rfl rfl rfl hs (by simp [gm_en1]) hr (by decide)) (by decide)) m71 rfl rfl hd hc kn kx
theorem f71_55 : gm_ft 71 55 = some (.ireturn, 1) := by decide +kernel
theorem r71_55 {E : Nat → Value} {d : Nat} {h : gm_H} {Q : gm_R → gm_H → Prop} {lv : List Value} {x : Int32} : gm_W E d 71 55 lv [.int x] h Q ↔ Q (.inl (some (.int x))) h := gw_ret m71 f71_55 rfl rfl rfl rfl rfl rfl rfl rfl (by unfold gm_rt; dsimp only; rw [if_pos ⟨rfl, rfl⟩])
theorem f71_56 : gm_ft 71 56 = some (.aload_n 0, 1) := by decide +kernel
theorem r71_56 {E : Nat → Value} {d : Nat} {st : List Value} {h : gm_H} {Q : gm_R → gm_H → Prop} {a1 a2 a3 : Value} {x : Nat} : gm_W E d 71 56 [.ref x, a1, a2, a3] st h Q ↔ gm_W E d 71 57 [.ref x, a1, a2, a3] (.ref x :: st) h Q := gw_loc m71 f71_56 rfl rfl
theorem r71_56n {E : Nat → Value} {d : Nat} {st : List Value} {h : gm_H} {Q : gm_R → gm_H → Prop} {a1 a2 a3 : Value}  : gm_W E d 71 56 [.null, a1, a2, a3] st h Q ↔ gm_W E d 71 57 [.null, a1, a2, a3] (.null :: st) h Q := gw_loc m71 f71_56 rfl rfl
theorem f71_57 : gm_ft 71 57 = some (.dup, 1) := by decide +kernel
theorem r71_57 {E : Nat → Value} {d : Nat} {st : List Value} {h : gm_H} {Q : gm_R → gm_H → Prop} {lv : List Value} {a : Nat} : gm_W E d 71 57 lv (.ref a :: st) h Q ↔ gm_W E d 71 58 lv (.ref a :: .ref a :: st) h Q := gw_pure m71 f71_57 rfl
theorem r71_57i {E : Nat → Value} {d : Nat} {st : List Value} {h : gm_H} {Q : gm_R → gm_H → Prop} {lv : List Value} {x : Int32} : gm_W E d 71 57 lv (.int x :: st) h Q ↔ gm_W E d 71 58 lv (.int x :: .int x :: st) h Q := gw_pure m71 f71_57 rfl
theorem f71_58 : gm_ft 71 58 = some (.getfield 96, 3) := by decide +kernel
theorem r71_58 {E : Nat → Value} {d : Nat} {st : List Value} {h : gm_H} {Q : gm_R → gm_H → Prop} {lv : List Value} {a : Nat} (hk : gm_kd h a = 0) : gm_W E d 71 58 lv (.ref a :: st) h Q ↔ gm_W E d 71 61 lv (gm_fv h a 7 :: st) h Q := gw_rd m71 f71_58 rfl rfl rfl rfl (gs_get k0_96 hk (by decide))
theorem f71_61 : gm_ft 71 61 = some (.iconst 1, 1) := by decide +kernel
theorem r71_61 {E : Nat → Value} {d : Nat} {st : List Value} {h : gm_H} {Q : gm_R → gm_H → Prop} {lv : List Value} : gm_W E d 71 61 lv st h Q ↔ gm_W E d 71 62 lv (.int (1 : Int32) :: st) h Q := gw_pure m71 f71_61 rfl
theorem f71_62 : gm_ft 71 62 = some (.iadd, 1) := by decide +kernel
theorem r71_62 {E : Nat → Value} {d : Nat} {st : List Value} {h : gm_H} {Q : gm_R → gm_H → Prop} {lv : List Value} {x y : Int32} : gm_W E d 71 62 lv (.int y :: .int x :: st) h Q ↔ gm_W E d 71 63 lv (.int (x + y) :: st) h Q := gw_pure m71 f71_62 rfl
theorem f71_63 : gm_ft 71 63 = some (.putfield 96, 3) := by decide +kernel
theorem r71_63 {E : Nat → Value} {d : Nat} {st : List Value} {h : gm_H} {Q : gm_R → gm_H → Prop} {lv : List Value} {a : Nat} {x : Int32} (hk : gm_kd h a = 0) : gm_W E d 71 63 lv (.int x :: .ref a :: st) h Q ↔ gm_W E d 71 66 lv st (gm_sf h a 7 (.int x)) Q := gw_wr m71 f71_63 rfl rfl rfl rfl rfl (gs_put k0_96 hk (by decide) (by decide) ⟨rfl, rfl⟩ (by decide))
theorem f71_66 : gm_ft 71 66 = some (.iinc 3 1, 3) := by decide +kernel
theorem r71_66 {E : Nat → Value} {d : Nat} {st : List Value} {h : gm_H} {Q : gm_R → gm_H → Prop} {a0 a1 a2 : Value} {x : Int32} : gm_W E d 71 66 [a0, a1, a2, .int x] st h Q ↔ gm_W E d 71 69 [a0, a1, gm_k a2, .int (x + (1 : Int32))] st h Q := gw_loc m71 f71_66 rfl rfl
theorem f71_69 : gm_ft 71 69 = some (.goto (-55), 3) := by decide +kernel
theorem r71_69 {E : Nat → Value} {d : Nat} {st : List Value} {h : gm_H} {Q : gm_R → gm_H → Prop} {lv : List Value} : gm_W E d 71 69 lv st h Q ↔ gm_W E d 71 14 lv st h Q := gw_brT m71 f71_69 rfl rfl rfl rfl
theorem f71_72 : gm_ft 71 72 = some (.iload_n 2, 1) := by decide +kernel
theorem r71_72 {E : Nat → Value} {d : Nat} {st : List Value} {h : gm_H} {Q : gm_R → gm_H → Prop} {a0 a1 a3 : Value} {x : Int32} : gm_W E d 71 72 [a0, a1, .int x, a3] st h Q ↔ gm_W E d 71 73 [a0, a1, .int x, a3] (.int x :: st) h Q := gw_loc m71 f71_72 rfl rfl
theorem f71_73 : gm_ft 71 73 = some (.ireturn, 1) := by decide +kernel
theorem r71_73 {E : Nat → Value} {d : Nat} {h : gm_H} {Q : gm_R → gm_H → Prop} {lv : List Value} {x : Int32} : gm_W E d 71 73 lv [.int x] h Q ↔ Q (.inl (some (.int x))) h := gw_ret m71 f71_73 rfl rfl rfl rfl rfl rfl rfl rfl (by unfold gm_rt; dsimp only; rw [if_pos ⟨rfl, rfl⟩])
/-! GraphReader.isSpelt(IILjava/lang/String;)Z -/
theorem m72 : gm_mt[72]? = some (⟨"GraphReader", "isSpelt", "(IILjava/lang/String;)Z"⟩, prog_1_method_22_code, 5, (some .boolean), [], 0, 1) := rfl
theorem f72_0 : gm_ft 72 0 = some (.iload_n 2, 1) := by decide +kernel
theorem r72_0 {E : Nat → Value} {d : Nat} {st : List Value} {h : gm_H} {Q : gm_R → gm_H → Prop} {a0 a1 a3 a4 : Value} {x : Int32} : gm_W E d 72 0 [a0, a1, .int x, a3, a4] st h Q ↔ gm_W E d 72 1 [a0, a1, .int x, a3, a4] (.int x :: st) h Q := gw_loc m72 f72_0 rfl rfl
theorem f72_1 : gm_ft 72 1 = some (.aload_n 3, 1) := by decide +kernel
theorem r72_1 {E : Nat → Value} {d : Nat} {st : List Value} {h : gm_H} {Q : gm_R → gm_H → Prop} {a0 a1 a2 a4 : Value} {x : Nat} : gm_W E d 72 1 [a0, a1, a2, .ref x, a4] st h Q ↔ gm_W E d 72 2 [a0, a1, a2, .ref x, a4] (.ref x :: st) h Q := gw_loc m72 f72_1 rfl rfl
theorem r72_1n {E : Nat → Value} {d : Nat} {st : List Value} {h : gm_H} {Q : gm_R → gm_H → Prop} {a0 a1 a2 a4 : Value}  : gm_W E d 72 1 [a0, a1, a2, .null, a4] st h Q ↔ gm_W E d 72 2 [a0, a1, a2, .null, a4] (.null :: st) h Q := gw_loc m72 f72_1 rfl rfl
theorem f72_2 : gm_ft 72 2 = some (.invokevirtual 167, 3) := by decide +kernel
theorem c72_2 {E : Nat → Value} {d : Nat} {st : List Value} {h : gm_H} {Q : gm_R → gm_H → Prop} {lv : List Value} {a : Nat} {Qc : gm_R → gm_H → Prop} (hs : (st.map fun v => v.category).sum ≤ 8) (hr : gm_kd h a = 6) (hd : 1 ≤ d) (hc : gm_Ca E (d - 1) 126 [.ref a] h Qc) (kn : ∀ (v9 : Option Value) (h9 : gm_H), Qc (.inl v9) h9 → gm_W E d 72 5 lv (v9.toList ++ st) h9 Q) (kx : ∀ (x9 : Nat) (h9 : gm_H), Qc (.inr x9) h9 → Q (.inr x9) h9) : gm_W E d 72 2 lv (.ref a :: st) h Q := gw_call (gn_call m72 f72_2 rfl rfl rfl rfl rfl rfl rfl (gs_virt (bs := []) (w := 606) (L := 1) rfl rfl rfl rfl hs (by simp [gm_en1]) hr (by decide)) (by decide)) m72 rfl rfl hd hc kn kx
theorem f72_5 : gm_ft 72 5 = some (.if_icmp .eq 5, 3) := by decide +kernel
theorem r72_5 {E : Nat → Value} {d : Nat} {st : List Value} {h : gm_H} {Q : gm_R → gm_H → Prop} {lv : List Value} {x y : Int32} : gm_W E d 72 5 lv (.int y :: .int x :: st) h Q ↔ (if x = y then gm_W E d 72 10 lv st h Q else gm_W E d 72 8 lv st h Q) := (gw_br m72 f72_5 rfl rfl rfl rfl).trans gw_if
theorem f72_8 : gm_ft 72 8 = some (.iconst 0, 1) := by decide +kernel
theorem r72_8 {E : Nat → Value} {d : Nat} {st : List Value} {h : gm_H} {Q : gm_R → gm_H → Prop} {lv : List Value} : gm_W E d 72 8 lv st h Q ↔ gm_W E d 72 9 lv (.int (0 : Int32) :: st) h Q := gw_pure m72 f72_8 rfl
theorem f72_9 : gm_ft 72 9 = some (.ireturn, 1) := by decide +kernel
theorem r72_9 {E : Nat → Value} {d : Nat} {h : gm_H} {Q : gm_R → gm_H → Prop} {lv : List Value} {x : Int32} (hx : x = 0 ∨ x = 1) : gm_W E d 72 9 lv [.int x] h Q ↔ Q (.inl (some (.int x))) h := gw_ret m72 f72_9 rfl rfl rfl rfl rfl rfl rfl rfl (by unfold gm_rt; dsimp only; rw [if_pos ⟨rfl, (gs_nb hx).1⟩])
theorem f72_10 : gm_ft 72 10 = some (.iconst 0, 1) := by decide +kernel
theorem r72_10 {E : Nat → Value} {d : Nat} {st : List Value} {h : gm_H} {Q : gm_R → gm_H → Prop} {lv : List Value} : gm_W E d 72 10 lv st h Q ↔ gm_W E d 72 11 lv (.int (0 : Int32) :: st) h Q := gw_pure m72 f72_10 rfl
theorem f72_11 : gm_ft 72 11 = some (.istore 4, 2) := by decide +kernel
theorem r72_11 {E : Nat → Value} {d : Nat} {st : List Value} {h : gm_H} {Q : gm_R → gm_H → Prop} {a0 a1 a2 a3 a4 : Value} {x : Int32} : gm_W E d 72 11 [a0, a1, a2, a3, a4] (.int x :: st) h Q ↔ gm_W E d 72 13 [a0, a1, a2, gm_k a3, .int x] st h Q := gw_loc m72 f72_11 rfl rfl
theorem f72_13 : gm_ft 72 13 = some (.iload 4, 2) := by decide +kernel
theorem r72_13 {E : Nat → Value} {d : Nat} {st : List Value} {h : gm_H} {Q : gm_R → gm_H → Prop} {a0 a1 a2 a3 : Value} {x : Int32} : gm_W E d 72 13 [a0, a1, a2, a3, .int x] st h Q ↔ gm_W E d 72 15 [a0, a1, a2, a3, .int x] (.int x :: st) h Q := gw_loc m72 f72_13 rfl rfl
theorem f72_15 : gm_ft 72 15 = some (.iload_n 2, 1) := by decide +kernel
theorem r72_15 {E : Nat → Value} {d : Nat} {st : List Value} {h : gm_H} {Q : gm_R → gm_H → Prop} {a0 a1 a3 a4 : Value} {x : Int32} : gm_W E d 72 15 [a0, a1, .int x, a3, a4] st h Q ↔ gm_W E d 72 16 [a0, a1, .int x, a3, a4] (.int x :: st) h Q := gw_loc m72 f72_15 rfl rfl
theorem f72_16 : gm_ft 72 16 = some (.if_icmp .ge 29, 3) := by decide +kernel
theorem r72_16 {E : Nat → Value} {d : Nat} {st : List Value} {h : gm_H} {Q : gm_R → gm_H → Prop} {lv : List Value} {x y : Int32} : gm_W E d 72 16 lv (.int y :: .int x :: st) h Q ↔ (if y ≤ x then gm_W E d 72 45 lv st h Q else gm_W E d 72 19 lv st h Q) := (gw_br m72 f72_16 rfl rfl rfl rfl).trans gw_if
theorem f72_19 : gm_ft 72 19 = some (.aload_n 0, 1) := by decide +kernel
theorem r72_19 {E : Nat → Value} {d : Nat} {st : List Value} {h : gm_H} {Q : gm_R → gm_H → Prop} {a1 a2 a3 a4 : Value} {x : Nat} : gm_W E d 72 19 [.ref x, a1, a2, a3, a4] st h Q ↔ gm_W E d 72 20 [.ref x, a1, a2, a3, a4] (.ref x :: st) h Q := gw_loc m72 f72_19 rfl rfl
theorem r72_19n {E : Nat → Value} {d : Nat} {st : List Value} {h : gm_H} {Q : gm_R → gm_H → Prop} {a1 a2 a3 a4 : Value}  : gm_W E d 72 19 [.null, a1, a2, a3, a4] st h Q ↔ gm_W E d 72 20 [.null, a1, a2, a3, a4] (.null :: st) h Q := gw_loc m72 f72_19 rfl rfl
theorem f72_20 : gm_ft 72 20 = some (.getfield 15, 3) := by decide +kernel
theorem r72_20 {E : Nat → Value} {d : Nat} {st : List Value} {h : gm_H} {Q : gm_R → gm_H → Prop} {lv : List Value} {a : Nat} (hk : gm_kd h a = 0) : gm_W E d 72 20 lv (.ref a :: st) h Q ↔ gm_W E d 72 23 lv (gm_fv h a 5 :: st) h Q := gw_rd m72 f72_20 rfl rfl rfl rfl (gs_get k0_15 hk (by decide))
theorem f72_23 : gm_ft 72 23 = some (.iload_n 1, 1) := by decide +kernel
theorem r72_23 {E : Nat → Value} {d : Nat} {st : List Value} {h : gm_H} {Q : gm_R → gm_H → Prop} {a0 a2 a3 a4 : Value} {x : Int32} : gm_W E d 72 23 [a0, .int x, a2, a3, a4] st h Q ↔ gm_W E d 72 24 [a0, .int x, a2, a3, a4] (.int x :: st) h Q := gw_loc m72 f72_23 rfl rfl
theorem f72_24 : gm_ft 72 24 = some (.iload 4, 2) := by decide +kernel
theorem r72_24 {E : Nat → Value} {d : Nat} {st : List Value} {h : gm_H} {Q : gm_R → gm_H → Prop} {a0 a1 a2 a3 : Value} {x : Int32} : gm_W E d 72 24 [a0, a1, a2, a3, .int x] st h Q ↔ gm_W E d 72 26 [a0, a1, a2, a3, .int x] (.int x :: st) h Q := gw_loc m72 f72_24 rfl rfl
theorem f72_26 : gm_ft 72 26 = some (.iadd, 1) := by decide +kernel
theorem r72_26 {E : Nat → Value} {d : Nat} {st : List Value} {h : gm_H} {Q : gm_R → gm_H → Prop} {lv : List Value} {x y : Int32} : gm_W E d 72 26 lv (.int y :: .int x :: st) h Q ↔ gm_W E d 72 27 lv (.int (x + y) :: st) h Q := gw_pure m72 f72_26 rfl
theorem f72_27 : gm_ft 72 27 = some (.baload, 1) := by decide +kernel
theorem r72_27 {E : Nat → Value} {d : Nat} {st : List Value} {h : gm_H} {Q : gm_R → gm_H → Prop} {lv : List Value} {a j : Nat} (hk : (gm_kd h a % 100 = 2 ∨ gm_kd h a % 100 = 3) ∧ 100 ≤ gm_kd h a ∧ gm_kd h a < 900) (hj : j < gm_ln h a) (hl : gm_ln h a < 2 ^ 31) : gm_W E d 72 27 lv (.int (nI j) :: .ref a :: st) h Q ↔ gm_W E d 72 28 lv (gm_fv h a j :: st) h Q := gw_rd m72 f72_27 rfl rfl rfl rfl (gs_ld (P := fun t => t == 2 || t == 3) hk.2 (by have := hk.1; simp [this] <;> omega) hj hl)
theorem f72_28 : gm_ft 72 28 = some (.aload_n 3, 1) := by decide +kernel
theorem r72_28 {E : Nat → Value} {d : Nat} {st : List Value} {h : gm_H} {Q : gm_R → gm_H → Prop} {a0 a1 a2 a4 : Value} {x : Nat} : gm_W E d 72 28 [a0, a1, a2, .ref x, a4] st h Q ↔ gm_W E d 72 29 [a0, a1, a2, .ref x, a4] (.ref x :: st) h Q := gw_loc m72 f72_28 rfl rfl
theorem r72_28n {E : Nat → Value} {d : Nat} {st : List Value} {h : gm_H} {Q : gm_R → gm_H → Prop} {a0 a1 a2 a4 : Value}  : gm_W E d 72 28 [a0, a1, a2, .null, a4] st h Q ↔ gm_W E d 72 29 [a0, a1, a2, .null, a4] (.null :: st) h Q := gw_loc m72 f72_28 rfl rfl
theorem f72_29 : gm_ft 72 29 = some (.iload 4, 2) := by decide +kernel
theorem r72_29 {E : Nat → Value} {d : Nat} {st : List Value} {h : gm_H} {Q : gm_R → gm_H → Prop} {a0 a1 a2 a3 : Value} {x : Int32} : gm_W E d 72 29 [a0, a1, a2, a3, .int x] st h Q ↔ gm_W E d 72 31 [a0, a1, a2, a3, .int x] (.int x :: st) h Q := gw_loc m72 f72_29 rfl rfl
theorem f72_31 : gm_ft 72 31 = some (.invokevirtual 172, 3) := by decide +kernel
theorem c72_31 {E : Nat → Value} {d : Nat} {st : List Value} {h : gm_H} {Q : gm_R → gm_H → Prop} {lv : List Value} {b0 : Int32} {a : Nat} {Qc : gm_R → gm_H → Prop} (hs : (st.map fun v => v.category).sum ≤ 8) (hr : gm_kd h a = 6) (hd : 1 ≤ d) (hc : gm_Ca E (d - 1) 127 [.ref a, .int b0] h Qc) (kn : ∀ (v9 : Option Value) (h9 : gm_H), Qc (.inl v9) h9 → gm_W E d 72 34 lv (v9.toList ++ st) h9 Q) (kx : ∀ (x9 : Nat) (h9 : gm_H), Qc (.inr x9) h9 → Q (.inr x9) h9) : gm_W E d 72 31 lv (.int b0 :: .ref a :: st) h Q := gw_call (gn_call m72 f72_31 rfl rfl rfl rfl rfl rfl rfl (gs_virt (bs := [.int b0]) (w := 607) (L := 2) rfl rfl rfl rfl hs (by simp [gm_en1]) hr (by decide)) (by decide)) m72 rfl rfl hd hc kn kx
theorem f72_34 : gm_ft 72 34 = some (.if_icmp .eq 5, 3) := by decide +kernel
theorem r72_34 {E : Nat → Value} {d : Nat} {st : List Value} {h : gm_H} {Q : gm_R → gm_H → Prop} {lv : List Value} {x y : Int32} : gm_W E d 72 34 lv (.int y :: .int x :: st) h Q ↔ (if x = y then gm_W E d 72 39 lv st h Q else gm_W E d 72 37 lv st h Q) := (gw_br m72 f72_34 rfl rfl rfl rfl).trans gw_if
theorem f72_37 : gm_ft 72 37 = some (.iconst 0, 1) := by decide +kernel
theorem r72_37 {E : Nat → Value} {d : Nat} {st : List Value} {h : gm_H} {Q : gm_R → gm_H → Prop} {lv : List Value} : gm_W E d 72 37 lv st h Q ↔ gm_W E d 72 38 lv (.int (0 : Int32) :: st) h Q := gw_pure m72 f72_37 rfl
theorem f72_38 : gm_ft 72 38 = some (.ireturn, 1) := by decide +kernel
theorem r72_38 {E : Nat → Value} {d : Nat} {h : gm_H} {Q : gm_R → gm_H → Prop} {lv : List Value} {x : Int32} (hx : x = 0 ∨ x = 1) : gm_W E d 72 38 lv [.int x] h Q ↔ Q (.inl (some (.int x))) h := gw_ret m72 f72_38 rfl rfl rfl rfl rfl rfl rfl rfl (by unfold gm_rt; dsimp only; rw [if_pos ⟨rfl, (gs_nb hx).1⟩])
theorem f72_39 : gm_ft 72 39 = some (.iinc 4 1, 3) := by decide +kernel
theorem r72_39 {E : Nat → Value} {d : Nat} {st : List Value} {h : gm_H} {Q : gm_R → gm_H → Prop} {a0 a1 a2 a3 : Value} {x : Int32} : gm_W E d 72 39 [a0, a1, a2, a3, .int x] st h Q ↔ gm_W E d 72 42 [a0, a1, a2, gm_k a3, .int (x + (1 : Int32))] st h Q := gw_loc m72 f72_39 rfl rfl
theorem f72_42 : gm_ft 72 42 = some (.goto (-29), 3) := by decide +kernel
theorem r72_42 {E : Nat → Value} {d : Nat} {st : List Value} {h : gm_H} {Q : gm_R → gm_H → Prop} {lv : List Value} : gm_W E d 72 42 lv st h Q ↔ gm_W E d 72 13 lv st h Q := gw_brT m72 f72_42 rfl rfl rfl rfl
theorem f72_45 : gm_ft 72 45 = some (.iconst 1, 1) := by decide +kernel
theorem r72_45 {E : Nat → Value} {d : Nat} {st : List Value} {h : gm_H} {Q : gm_R → gm_H → Prop} {lv : List Value} : gm_W E d 72 45 lv st h Q ↔ gm_W E d 72 46 lv (.int (1 : Int32) :: st) h Q := gw_pure m72 f72_45 rfl
theorem f72_46 : gm_ft 72 46 = some (.ireturn, 1) := by decide +kernel
theorem r72_46 {E : Nat → Value} {d : Nat} {h : gm_H} {Q : gm_R → gm_H → Prop} {lv : List Value} {x : Int32} (hx : x = 0 ∨ x = 1) : gm_W E d 72 46 lv [.int x] h Q ↔ Q (.inl (some (.int x))) h := gw_ret m72 f72_46 rfl rfl rfl rfl rfl rfl rfl rfl (by unfold gm_rt; dsimp only; rw [if_pos ⟨rfl, (gs_nb hx).1⟩])
/-! GraphReader.letterFrom(IICI)I -/
theorem m73 : gm_mt[73]? = some (⟨"GraphReader", "letterFrom", "(IICI)I"⟩, prog_1_method_23_code, 6, (some .int), [], 0, 1) := rfl
theorem f73_0 : gm_ft 73 0 = some (.iload_n 2, 1) := by decide +kernel
theorem r73_0 {E : Nat → Value} {d : Nat} {st : List Value} {h : gm_H} {Q : gm_R → gm_H → Prop} {a0 a1 a3 a4 a5 : Value} {x : Int32} : gm_W E d 73 0 [a0, a1, .int x, a3, a4, a5] st h Q ↔ gm_W E d 73 1 [a0, a1, .int x, a3, a4, a5] (.int x :: st) h Q := gw_loc m73 f73_0 rfl rfl
theorem f73_1 : gm_ft 73 1 = some (.iconst 1, 1) := by decide +kernel
theorem r73_1 {E : Nat → Value} {d : Nat} {st : List Value} {h : gm_H} {Q : gm_R → gm_H → Prop} {lv : List Value} : gm_W E d 73 1 lv st h Q ↔ gm_W E d 73 2 lv (.int (1 : Int32) :: st) h Q := gw_pure m73 f73_1 rfl
theorem f73_2 : gm_ft 73 2 = some (.if_icmp .eq 5, 3) := by decide +kernel
theorem r73_2 {E : Nat → Value} {d : Nat} {st : List Value} {h : gm_H} {Q : gm_R → gm_H → Prop} {lv : List Value} {x y : Int32} : gm_W E d 73 2 lv (.int y :: .int x :: st) h Q ↔ (if x = y then gm_W E d 73 7 lv st h Q else gm_W E d 73 5 lv st h Q) := (gw_br m73 f73_2 rfl rfl rfl rfl).trans gw_if
theorem f73_5 : gm_ft 73 5 = some (.iconst (-1), 1) := by decide +kernel
theorem r73_5 {E : Nat → Value} {d : Nat} {st : List Value} {h : gm_H} {Q : gm_R → gm_H → Prop} {lv : List Value} : gm_W E d 73 5 lv st h Q ↔ gm_W E d 73 6 lv (.int (-1 : Int32) :: st) h Q := gw_pure m73 f73_5 rfl
theorem f73_6 : gm_ft 73 6 = some (.ireturn, 1) := by decide +kernel
theorem r73_6 {E : Nat → Value} {d : Nat} {h : gm_H} {Q : gm_R → gm_H → Prop} {lv : List Value} {x : Int32} : gm_W E d 73 6 lv [.int x] h Q ↔ Q (.inl (some (.int x))) h := gw_ret m73 f73_6 rfl rfl rfl rfl rfl rfl rfl rfl (by unfold gm_rt; dsimp only; rw [if_pos ⟨rfl, rfl⟩])
theorem f73_7 : gm_ft 73 7 = some (.aload_n 0, 1) := by decide +kernel
theorem r73_7 {E : Nat → Value} {d : Nat} {st : List Value} {h : gm_H} {Q : gm_R → gm_H → Prop} {a1 a2 a3 a4 a5 : Value} {x : Nat} : gm_W E d 73 7 [.ref x, a1, a2, a3, a4, a5] st h Q ↔ gm_W E d 73 8 [.ref x, a1, a2, a3, a4, a5] (.ref x :: st) h Q := gw_loc m73 f73_7 rfl rfl
theorem r73_7n {E : Nat → Value} {d : Nat} {st : List Value} {h : gm_H} {Q : gm_R → gm_H → Prop} {a1 a2 a3 a4 a5 : Value}  : gm_W E d 73 7 [.null, a1, a2, a3, a4, a5] st h Q ↔ gm_W E d 73 8 [.null, a1, a2, a3, a4, a5] (.null :: st) h Q := gw_loc m73 f73_7 rfl rfl
theorem f73_8 : gm_ft 73 8 = some (.getfield 15, 3) := by decide +kernel
theorem r73_8 {E : Nat → Value} {d : Nat} {st : List Value} {h : gm_H} {Q : gm_R → gm_H → Prop} {lv : List Value} {a : Nat} (hk : gm_kd h a = 0) : gm_W E d 73 8 lv (.ref a :: st) h Q ↔ gm_W E d 73 11 lv (gm_fv h a 5 :: st) h Q := gw_rd m73 f73_8 rfl rfl rfl rfl (gs_get k0_15 hk (by decide))
theorem f73_11 : gm_ft 73 11 = some (.iload_n 1, 1) := by decide +kernel
theorem r73_11 {E : Nat → Value} {d : Nat} {st : List Value} {h : gm_H} {Q : gm_R → gm_H → Prop} {a0 a2 a3 a4 a5 : Value} {x : Int32} : gm_W E d 73 11 [a0, .int x, a2, a3, a4, a5] st h Q ↔ gm_W E d 73 12 [a0, .int x, a2, a3, a4, a5] (.int x :: st) h Q := gw_loc m73 f73_11 rfl rfl
theorem f73_12 : gm_ft 73 12 = some (.baload, 1) := by decide +kernel
theorem r73_12 {E : Nat → Value} {d : Nat} {st : List Value} {h : gm_H} {Q : gm_R → gm_H → Prop} {lv : List Value} {a j : Nat} (hk : (gm_kd h a % 100 = 2 ∨ gm_kd h a % 100 = 3) ∧ 100 ≤ gm_kd h a ∧ gm_kd h a < 900) (hj : j < gm_ln h a) (hl : gm_ln h a < 2 ^ 31) : gm_W E d 73 12 lv (.int (nI j) :: .ref a :: st) h Q ↔ gm_W E d 73 13 lv (gm_fv h a j :: st) h Q := gw_rd m73 f73_12 rfl rfl rfl rfl (gs_ld (P := fun t => t == 2 || t == 3) hk.2 (by have := hk.1; simp [this] <;> omega) hj hl)
theorem f73_13 : gm_ft 73 13 = some (.iload_n 3, 1) := by decide +kernel
theorem r73_13 {E : Nat → Value} {d : Nat} {st : List Value} {h : gm_H} {Q : gm_R → gm_H → Prop} {a0 a1 a2 a4 a5 : Value} {x : Int32} : gm_W E d 73 13 [a0, a1, a2, .int x, a4, a5] st h Q ↔ gm_W E d 73 14 [a0, a1, a2, .int x, a4, a5] (.int x :: st) h Q := gw_loc m73 f73_13 rfl rfl
theorem f73_14 : gm_ft 73 14 = some (.isub, 1) := by decide +kernel
theorem r73_14 {E : Nat → Value} {d : Nat} {st : List Value} {h : gm_H} {Q : gm_R → gm_H → Prop} {lv : List Value} {x y : Int32} : gm_W E d 73 14 lv (.int y :: .int x :: st) h Q ↔ gm_W E d 73 15 lv (.int (x - y) :: st) h Q := gw_pure m73 f73_14 rfl
theorem f73_15 : gm_ft 73 15 = some (.istore 5, 2) := by decide +kernel
theorem r73_15 {E : Nat → Value} {d : Nat} {st : List Value} {h : gm_H} {Q : gm_R → gm_H → Prop} {a0 a1 a2 a3 a4 a5 : Value} {x : Int32} : gm_W E d 73 15 [a0, a1, a2, a3, a4, a5] (.int x :: st) h Q ↔ gm_W E d 73 17 [a0, a1, a2, a3, gm_k a4, .int x] st h Q := gw_loc m73 f73_15 rfl rfl
theorem f73_17 : gm_ft 73 17 = some (.iload 5, 2) := by decide +kernel
theorem r73_17 {E : Nat → Value} {d : Nat} {st : List Value} {h : gm_H} {Q : gm_R → gm_H → Prop} {a0 a1 a2 a3 a4 : Value} {x : Int32} : gm_W E d 73 17 [a0, a1, a2, a3, a4, .int x] st h Q ↔ gm_W E d 73 19 [a0, a1, a2, a3, a4, .int x] (.int x :: st) h Q := gw_loc m73 f73_17 rfl rfl
theorem f73_19 : gm_ft 73 19 = some (.iload 4, 2) := by decide +kernel
theorem r73_19 {E : Nat → Value} {d : Nat} {st : List Value} {h : gm_H} {Q : gm_R → gm_H → Prop} {a0 a1 a2 a3 a5 : Value} {x : Int32} : gm_W E d 73 19 [a0, a1, a2, a3, .int x, a5] st h Q ↔ gm_W E d 73 21 [a0, a1, a2, a3, .int x, a5] (.int x :: st) h Q := gw_loc m73 f73_19 rfl rfl
theorem f73_21 : gm_ft 73 21 = some (.if_icmp .ge 8, 3) := by decide +kernel
theorem r73_21 {E : Nat → Value} {d : Nat} {st : List Value} {h : gm_H} {Q : gm_R → gm_H → Prop} {lv : List Value} {x y : Int32} : gm_W E d 73 21 lv (.int y :: .int x :: st) h Q ↔ (if y ≤ x then gm_W E d 73 29 lv st h Q else gm_W E d 73 24 lv st h Q) := (gw_br m73 f73_21 rfl rfl rfl rfl).trans gw_if
theorem f73_24 : gm_ft 73 24 = some (.iload 5, 2) := by decide +kernel
theorem r73_24 {E : Nat → Value} {d : Nat} {st : List Value} {h : gm_H} {Q : gm_R → gm_H → Prop} {a0 a1 a2 a3 a4 : Value} {x : Int32} : gm_W E d 73 24 [a0, a1, a2, a3, a4, .int x] st h Q ↔ gm_W E d 73 26 [a0, a1, a2, a3, a4, .int x] (.int x :: st) h Q := gw_loc m73 f73_24 rfl rfl
theorem f73_26 : gm_ft 73 26 = some (.goto 4, 3) := by decide +kernel
theorem r73_26 {E : Nat → Value} {d : Nat} {st : List Value} {h : gm_H} {Q : gm_R → gm_H → Prop} {lv : List Value} : gm_W E d 73 26 lv st h Q ↔ gm_W E d 73 30 lv st h Q := gw_brT m73 f73_26 rfl rfl rfl rfl
theorem f73_29 : gm_ft 73 29 = some (.iconst (-1), 1) := by decide +kernel
theorem r73_29 {E : Nat → Value} {d : Nat} {st : List Value} {h : gm_H} {Q : gm_R → gm_H → Prop} {lv : List Value} : gm_W E d 73 29 lv st h Q ↔ gm_W E d 73 30 lv (.int (-1 : Int32) :: st) h Q := gw_pure m73 f73_29 rfl
theorem f73_30 : gm_ft 73 30 = some (.ireturn, 1) := by decide +kernel
theorem r73_30 {E : Nat → Value} {d : Nat} {h : gm_H} {Q : gm_R → gm_H → Prop} {lv : List Value} {x : Int32} : gm_W E d 73 30 lv [.int x] h Q ↔ Q (.inl (some (.int x))) h := gw_ret m73 f73_30 rfl rfl rfl rfl rfl rfl rfl rfl (by unfold gm_rt; dsimp only; rw [if_pos ⟨rfl, rfl⟩])
/-! GraphReader.isBlock(I)Z -/
theorem m74 : gm_mt[74]? = some (⟨"GraphReader", "isBlock", "(I)Z"⟩, prog_1_method_24_code, 1, (some .boolean), [], 0, 1) := rfl
theorem f74_0 : gm_ft 74 0 = some (.iload_n 0, 1) := by decide +kernel
theorem r74_0 {E : Nat → Value} {d : Nat} {st : List Value} {h : gm_H} {Q : gm_R → gm_H → Prop}  {x : Int32} : gm_W E d 74 0 [.int x] st h Q ↔ gm_W E d 74 1 [.int x] (.int x :: st) h Q := gw_loc m74 f74_0 rfl rfl
theorem f74_1 : gm_ft 74 1 = some (.bipush 119, 2) := by decide +kernel
theorem r74_1 {E : Nat → Value} {d : Nat} {st : List Value} {h : gm_H} {Q : gm_R → gm_H → Prop} {lv : List Value} : gm_W E d 74 1 lv st h Q ↔ gm_W E d 74 3 lv (.int (119 : Int32) :: st) h Q := gw_pure m74 f74_1 rfl
theorem f74_3 : gm_ft 74 3 = some (.if_icmp .eq 9, 3) := by decide +kernel
theorem r74_3 {E : Nat → Value} {d : Nat} {st : List Value} {h : gm_H} {Q : gm_R → gm_H → Prop} {lv : List Value} {x y : Int32} : gm_W E d 74 3 lv (.int y :: .int x :: st) h Q ↔ (if x = y then gm_W E d 74 12 lv st h Q else gm_W E d 74 6 lv st h Q) := (gw_br m74 f74_3 rfl rfl rfl rfl).trans gw_if
theorem f74_6 : gm_ft 74 6 = some (.iload_n 0, 1) := by decide +kernel
theorem r74_6 {E : Nat → Value} {d : Nat} {st : List Value} {h : gm_H} {Q : gm_R → gm_H → Prop}  {x : Int32} : gm_W E d 74 6 [.int x] st h Q ↔ gm_W E d 74 7 [.int x] (.int x :: st) h Q := gw_loc m74 f74_6 rfl rfl
theorem f74_7 : gm_ft 74 7 = some (.bipush 122, 2) := by decide +kernel
theorem r74_7 {E : Nat → Value} {d : Nat} {st : List Value} {h : gm_H} {Q : gm_R → gm_H → Prop} {lv : List Value} : gm_W E d 74 7 lv st h Q ↔ gm_W E d 74 9 lv (.int (122 : Int32) :: st) h Q := gw_pure m74 f74_7 rfl
theorem f74_9 : gm_ft 74 9 = some (.if_icmp .ne 7, 3) := by decide +kernel
theorem r74_9 {E : Nat → Value} {d : Nat} {st : List Value} {h : gm_H} {Q : gm_R → gm_H → Prop} {lv : List Value} {x y : Int32} : gm_W E d 74 9 lv (.int y :: .int x :: st) h Q ↔ (if x = y then gm_W E d 74 12 lv st h Q else gm_W E d 74 16 lv st h Q) := (gw_br m74 f74_9 rfl rfl rfl rfl).trans gw_ifn
theorem f74_12 : gm_ft 74 12 = some (.iconst 1, 1) := by decide +kernel
theorem r74_12 {E : Nat → Value} {d : Nat} {st : List Value} {h : gm_H} {Q : gm_R → gm_H → Prop} {lv : List Value} : gm_W E d 74 12 lv st h Q ↔ gm_W E d 74 13 lv (.int (1 : Int32) :: st) h Q := gw_pure m74 f74_12 rfl
theorem f74_13 : gm_ft 74 13 = some (.goto 4, 3) := by decide +kernel
theorem r74_13 {E : Nat → Value} {d : Nat} {st : List Value} {h : gm_H} {Q : gm_R → gm_H → Prop} {lv : List Value} : gm_W E d 74 13 lv st h Q ↔ gm_W E d 74 17 lv st h Q := gw_brT m74 f74_13 rfl rfl rfl rfl
theorem f74_16 : gm_ft 74 16 = some (.iconst 0, 1) := by decide +kernel
theorem r74_16 {E : Nat → Value} {d : Nat} {st : List Value} {h : gm_H} {Q : gm_R → gm_H → Prop} {lv : List Value} : gm_W E d 74 16 lv st h Q ↔ gm_W E d 74 17 lv (.int (0 : Int32) :: st) h Q := gw_pure m74 f74_16 rfl
theorem f74_17 : gm_ft 74 17 = some (.ireturn, 1) := by decide +kernel
theorem r74_17 {E : Nat → Value} {d : Nat} {h : gm_H} {Q : gm_R → gm_H → Prop} {lv : List Value} {x : Int32} (hx : x = 0 ∨ x = 1) : gm_W E d 74 17 lv [.int x] h Q ↔ Q (.inl (some (.int x))) h := gw_ret m74 f74_17 rfl rfl rfl rfl rfl rfl rfl rfl (by unfold gm_rt; dsimp only; rw [if_pos ⟨rfl, (gs_nb hx).1⟩])
/-! GraphReader.skipBlock()I -/
theorem m75 : gm_mt[75]? = some (⟨"GraphReader", "skipBlock", "()I"⟩, prog_1_method_25_code, 2, (some .int), [], 0, 1) := rfl
theorem f75_0 : gm_ft 75 0 = some (.aload_n 0, 1) := by decide +kernel
theorem r75_0 {E : Nat → Value} {d : Nat} {st : List Value} {h : gm_H} {Q : gm_R → gm_H → Prop} {a1 : Value} {x : Nat} : gm_W E d 75 0 [.ref x, a1] st h Q ↔ gm_W E d 75 1 [.ref x, a1] (.ref x :: st) h Q := gw_loc m75 f75_0 rfl rfl
theorem r75_0n {E : Nat → Value} {d : Nat} {st : List Value} {h : gm_H} {Q : gm_R → gm_H → Prop} {a1 : Value}  : gm_W E d 75 0 [.null, a1] st h Q ↔ gm_W E d 75 1 [.null, a1] (.null :: st) h Q := gw_loc m75 f75_0 rfl rfl
theorem f75_1 : gm_ft 75 1 = some (.invokevirtual 176, 3) := by decide +kernel
theorem c75_1 {E : Nat → Value} {d : Nat} {st : List Value} {h : gm_H} {Q : gm_R → gm_H → Prop} {lv : List Value} {a : Nat} {Qc : gm_R → gm_H → Prop} (hs : (st.map fun v => v.category).sum ≤ 8) (hr : gm_kd h a = 0) (hd : 1 ≤ d) (hc : gm_Ca E (d - 1) 69 [.ref a] h Qc) (kn : ∀ (v9 : Option Value) (h9 : gm_H), Qc (.inl v9) h9 → gm_W E d 75 4 lv (v9.toList ++ st) h9 Q) (kx : ∀ (x9 : Nat) (h9 : gm_H), Qc (.inr x9) h9 → Q (.inr x9) h9) : gm_W E d 75 1 lv (.ref a :: st) h Q := gw_call (gn_call m75 f75_1 rfl rfl rfl rfl rfl rfl rfl (gs_virt (bs := []) (w := 274) (L := 1) rfl rfl rfl rfl hs (by simp [gm_en1]) hr (by decide)) (by decide)) m75 rfl rfl hd hc kn kx
theorem f75_4 : gm_ft 75 4 = some (.bipush 119, 2) := by decide +kernel
theorem r75_4 {E : Nat → Value} {d : Nat} {st : List Value} {h : gm_H} {Q : gm_R → gm_H → Prop} {lv : List Value} : gm_W E d 75 4 lv st h Q ↔ gm_W E d 75 6 lv (.int (119 : Int32) :: st) h Q := gw_pure m75 f75_4 rfl
theorem f75_6 : gm_ft 75 6 = some (.if_icmp .ne 10, 3) := by decide +kernel
theorem r75_6 {E : Nat → Value} {d : Nat} {st : List Value} {h : gm_H} {Q : gm_R → gm_H → Prop} {lv : List Value} {x y : Int32} : gm_W E d 75 6 lv (.int y :: .int x :: st) h Q ↔ (if x = y then gm_W E d 75 9 lv st h Q else gm_W E d 75 16 lv st h Q) := (gw_br m75 f75_6 rfl rfl rfl rfl).trans gw_ifn
theorem f75_9 : gm_ft 75 9 = some (.aload_n 0, 1) := by decide +kernel
theorem r75_9 {E : Nat → Value} {d : Nat} {st : List Value} {h : gm_H} {Q : gm_R → gm_H → Prop} {a1 : Value} {x : Nat} : gm_W E d 75 9 [.ref x, a1] st h Q ↔ gm_W E d 75 10 [.ref x, a1] (.ref x :: st) h Q := gw_loc m75 f75_9 rfl rfl
theorem r75_9n {E : Nat → Value} {d : Nat} {st : List Value} {h : gm_H} {Q : gm_R → gm_H → Prop} {a1 : Value}  : gm_W E d 75 9 [.null, a1] st h Q ↔ gm_W E d 75 10 [.null, a1] (.null :: st) h Q := gw_loc m75 f75_9 rfl rfl
theorem f75_10 : gm_ft 75 10 = some (.invokevirtual 176, 3) := by decide +kernel
theorem c75_10 {E : Nat → Value} {d : Nat} {st : List Value} {h : gm_H} {Q : gm_R → gm_H → Prop} {lv : List Value} {a : Nat} {Qc : gm_R → gm_H → Prop} (hs : (st.map fun v => v.category).sum ≤ 8) (hr : gm_kd h a = 0) (hd : 1 ≤ d) (hc : gm_Ca E (d - 1) 69 [.ref a] h Qc) (kn : ∀ (v9 : Option Value) (h9 : gm_H), Qc (.inl v9) h9 → gm_W E d 75 13 lv (v9.toList ++ st) h9 Q) (kx : ∀ (x9 : Nat) (h9 : gm_H), Qc (.inr x9) h9 → Q (.inr x9) h9) : gm_W E d 75 10 lv (.ref a :: st) h Q := gw_call (gn_call m75 f75_10 rfl rfl rfl rfl rfl rfl rfl (gs_virt (bs := []) (w := 274) (L := 1) rfl rfl rfl rfl hs (by simp [gm_en1]) hr (by decide)) (by decide)) m75 rfl rfl hd hc kn kx
theorem f75_13 : gm_ft 75 13 = some (.goto 7, 3) := by decide +kernel
theorem r75_13 {E : Nat → Value} {d : Nat} {st : List Value} {h : gm_H} {Q : gm_R → gm_H → Prop} {lv : List Value} : gm_W E d 75 13 lv st h Q ↔ gm_W E d 75 20 lv st h Q := gw_brT m75 f75_13 rfl rfl rfl rfl
theorem f75_16 : gm_ft 75 16 = some (.aload_n 0, 1) := by decide +kernel
theorem r75_16 {E : Nat → Value} {d : Nat} {st : List Value} {h : gm_H} {Q : gm_R → gm_H → Prop} {a1 : Value} {x : Nat} : gm_W E d 75 16 [.ref x, a1] st h Q ↔ gm_W E d 75 17 [.ref x, a1] (.ref x :: st) h Q := gw_loc m75 f75_16 rfl rfl
theorem r75_16n {E : Nat → Value} {d : Nat} {st : List Value} {h : gm_H} {Q : gm_R → gm_H → Prop} {a1 : Value}  : gm_W E d 75 16 [.null, a1] st h Q ↔ gm_W E d 75 17 [.null, a1] (.null :: st) h Q := gw_loc m75 f75_16 rfl rfl
theorem f75_17 : gm_ft 75 17 = some (.invokevirtual 179, 3) := by decide +kernel
theorem c75_17 {E : Nat → Value} {d : Nat} {st : List Value} {h : gm_H} {Q : gm_R → gm_H → Prop} {lv : List Value} {a : Nat} {Qc : gm_R → gm_H → Prop} (hs : (st.map fun v => v.category).sum ≤ 8) (hr : gm_kd h a = 0) (hd : 1 ≤ d) (hc : gm_Ca E (d - 1) 70 [.ref a] h Qc) (kn : ∀ (v9 : Option Value) (h9 : gm_H), Qc (.inl v9) h9 → gm_W E d 75 20 lv (v9.toList ++ st) h9 Q) (kx : ∀ (x9 : Nat) (h9 : gm_H), Qc (.inr x9) h9 → Q (.inr x9) h9) : gm_W E d 75 17 lv (.ref a :: st) h Q := gw_call (gn_call m75 f75_17 rfl rfl rfl rfl rfl rfl rfl (gs_virt (bs := []) (w := 290) (L := 1) rfl rfl rfl rfl hs (by simp [gm_en1]) hr (by decide)) (by decide)) m75 rfl rfl hd hc kn kx
theorem f75_20 : gm_ft 75 20 = some (.istore_n 1, 1) := by decide +kernel
theorem r75_20 {E : Nat → Value} {d : Nat} {st : List Value} {h : gm_H} {Q : gm_R → gm_H → Prop} {a0 a1 : Value} {x : Int32} : gm_W E d 75 20 [a0, a1] (.int x :: st) h Q ↔ gm_W E d 75 21 [gm_k a0, .int x] st h Q := gw_loc m75 f75_20 rfl rfl
theorem f75_21 : gm_ft 75 21 = some (.iload_n 1, 1) := by decide +kernel
theorem r75_21 {E : Nat → Value} {d : Nat} {st : List Value} {h : gm_H} {Q : gm_R → gm_H → Prop} {a0 : Value} {x : Int32} : gm_W E d 75 21 [a0, .int x] st h Q ↔ gm_W E d 75 22 [a0, .int x] (.int x :: st) h Q := gw_loc m75 f75_21 rfl rfl
theorem f75_22 : gm_ft 75 22 = some (.ifCond .ge 10, 3) := by decide +kernel
theorem r75_22 {E : Nat → Value} {d : Nat} {st : List Value} {h : gm_H} {Q : gm_R → gm_H → Prop} {lv : List Value} {x : Int32} : gm_W E d 75 22 lv (.int x :: st) h Q ↔ (if 0 ≤ x then gm_W E d 75 32 lv st h Q else gm_W E d 75 25 lv st h Q) := (gw_br m75 f75_22 rfl rfl rfl rfl).trans gw_if
theorem f75_25 : gm_ft 75 25 = some (.aload_n 0, 1) := by decide +kernel
theorem r75_25 {E : Nat → Value} {d : Nat} {st : List Value} {h : gm_H} {Q : gm_R → gm_H → Prop} {a1 : Value} {x : Nat} : gm_W E d 75 25 [.ref x, a1] st h Q ↔ gm_W E d 75 26 [.ref x, a1] (.ref x :: st) h Q := gw_loc m75 f75_25 rfl rfl
theorem r75_25n {E : Nat → Value} {d : Nat} {st : List Value} {h : gm_H} {Q : gm_R → gm_H → Prop} {a1 : Value}  : gm_W E d 75 25 [.null, a1] st h Q ↔ gm_W E d 75 26 [.null, a1] (.null :: st) h Q := gw_loc m75 f75_25 rfl rfl
theorem f75_26 : gm_ft 75 26 = some (.bipush (-4), 2) := by decide +kernel
theorem r75_26 {E : Nat → Value} {d : Nat} {st : List Value} {h : gm_H} {Q : gm_R → gm_H → Prop} {lv : List Value} : gm_W E d 75 26 lv st h Q ↔ gm_W E d 75 28 lv (.int (-4 : Int32) :: st) h Q := gw_pure m75 f75_26 rfl
theorem f75_28 : gm_ft 75 28 = some (.invokevirtual 160, 3) := by decide +kernel
theorem c75_28 {E : Nat → Value} {d : Nat} {st : List Value} {h : gm_H} {Q : gm_R → gm_H → Prop} {lv : List Value} {b0 : Int32} {a : Nat} {Qc : gm_R → gm_H → Prop} (hs : (st.map fun v => v.category).sum ≤ 8) (hr : gm_kd h a = 0) (hd : 1 ≤ d) (hc : gm_Ca E (d - 1) 66 [.ref a, .int b0] h Qc) (kn : ∀ (v9 : Option Value) (h9 : gm_H), Qc (.inl v9) h9 → gm_W E d 75 31 lv (v9.toList ++ st) h9 Q) (kx : ∀ (x9 : Nat) (h9 : gm_H), Qc (.inr x9) h9 → Q (.inr x9) h9) : gm_W E d 75 28 lv (.int b0 :: .ref a :: st) h Q := gw_call (gn_call m75 f75_28 rfl rfl rfl rfl rfl rfl rfl (gs_virt (bs := [.int b0]) (w := 206) (L := 2) rfl rfl rfl rfl hs (by simp [gm_en1]) hr (by decide)) (by decide)) m75 rfl rfl hd hc kn kx
theorem f75_31 : gm_ft 75 31 = some (.ireturn, 1) := by decide +kernel
theorem r75_31 {E : Nat → Value} {d : Nat} {h : gm_H} {Q : gm_R → gm_H → Prop} {lv : List Value} {x : Int32} : gm_W E d 75 31 lv [.int x] h Q ↔ Q (.inl (some (.int x))) h := gw_ret m75 f75_31 rfl rfl rfl rfl rfl rfl rfl rfl (by unfold gm_rt; dsimp only; rw [if_pos ⟨rfl, rfl⟩])
theorem f75_32 : gm_ft 75 32 = some (.iload_n 1, 1) := by decide +kernel
theorem r75_32 {E : Nat → Value} {d : Nat} {st : List Value} {h : gm_H} {Q : gm_R → gm_H → Prop} {a0 : Value} {x : Int32} : gm_W E d 75 32 [a0, .int x] st h Q ↔ gm_W E d 75 33 [a0, .int x] (.int x :: st) h Q := gw_loc m75 f75_32 rfl rfl
theorem f75_33 : gm_ft 75 33 = some (.aload_n 0, 1) := by decide +kernel
theorem r75_33 {E : Nat → Value} {d : Nat} {st : List Value} {h : gm_H} {Q : gm_R → gm_H → Prop} {a1 : Value} {x : Nat} : gm_W E d 75 33 [.ref x, a1] st h Q ↔ gm_W E d 75 34 [.ref x, a1] (.ref x :: st) h Q := gw_loc m75 f75_33 rfl rfl
theorem r75_33n {E : Nat → Value} {d : Nat} {st : List Value} {h : gm_H} {Q : gm_R → gm_H → Prop} {a1 : Value}  : gm_W E d 75 33 [.null, a1] st h Q ↔ gm_W E d 75 34 [.null, a1] (.null :: st) h Q := gw_loc m75 f75_33 rfl rfl
theorem f75_34 : gm_ft 75 34 = some (.getfield 93, 3) := by decide +kernel
theorem r75_34 {E : Nat → Value} {d : Nat} {st : List Value} {h : gm_H} {Q : gm_R → gm_H → Prop} {lv : List Value} {a : Nat} (hk : gm_kd h a = 0) : gm_W E d 75 34 lv (.ref a :: st) h Q ↔ gm_W E d 75 37 lv (gm_fv h a 6 :: st) h Q := gw_rd m75 f75_34 rfl rfl rfl rfl (gs_get k0_93 hk (by decide))
theorem f75_37 : gm_ft 75 37 = some (.aload_n 0, 1) := by decide +kernel
theorem r75_37 {E : Nat → Value} {d : Nat} {st : List Value} {h : gm_H} {Q : gm_R → gm_H → Prop} {a1 : Value} {x : Nat} : gm_W E d 75 37 [.ref x, a1] st h Q ↔ gm_W E d 75 38 [.ref x, a1] (.ref x :: st) h Q := gw_loc m75 f75_37 rfl rfl
theorem r75_37n {E : Nat → Value} {d : Nat} {st : List Value} {h : gm_H} {Q : gm_R → gm_H → Prop} {a1 : Value}  : gm_W E d 75 37 [.null, a1] st h Q ↔ gm_W E d 75 38 [.null, a1] (.null :: st) h Q := gw_loc m75 f75_37 rfl rfl
theorem f75_38 : gm_ft 75 38 = some (.getfield 96, 3) := by decide +kernel
theorem r75_38 {E : Nat → Value} {d : Nat} {st : List Value} {h : gm_H} {Q : gm_R → gm_H → Prop} {lv : List Value} {a : Nat} (hk : gm_kd h a = 0) : gm_W E d 75 38 lv (.ref a :: st) h Q ↔ gm_W E d 75 41 lv (gm_fv h a 7 :: st) h Q := gw_rd m75 f75_38 rfl rfl rfl rfl (gs_get k0_96 hk (by decide))
theorem f75_41 : gm_ft 75 41 = some (.isub, 1) := by decide +kernel
theorem r75_41 {E : Nat → Value} {d : Nat} {st : List Value} {h : gm_H} {Q : gm_R → gm_H → Prop} {lv : List Value} {x y : Int32} : gm_W E d 75 41 lv (.int y :: .int x :: st) h Q ↔ gm_W E d 75 42 lv (.int (x - y) :: st) h Q := gw_pure m75 f75_41 rfl
theorem f75_42 : gm_ft 75 42 = some (.if_icmp .le 10, 3) := by decide +kernel
theorem r75_42 {E : Nat → Value} {d : Nat} {st : List Value} {h : gm_H} {Q : gm_R → gm_H → Prop} {lv : List Value} {x y : Int32} : gm_W E d 75 42 lv (.int y :: .int x :: st) h Q ↔ (if x ≤ y then gm_W E d 75 52 lv st h Q else gm_W E d 75 45 lv st h Q) := (gw_br m75 f75_42 rfl rfl rfl rfl).trans gw_if
theorem f75_45 : gm_ft 75 45 = some (.aload_n 0, 1) := by decide +kernel
theorem r75_45 {E : Nat → Value} {d : Nat} {st : List Value} {h : gm_H} {Q : gm_R → gm_H → Prop} {a1 : Value} {x : Nat} : gm_W E d 75 45 [.ref x, a1] st h Q ↔ gm_W E d 75 46 [.ref x, a1] (.ref x :: st) h Q := gw_loc m75 f75_45 rfl rfl
theorem r75_45n {E : Nat → Value} {d : Nat} {st : List Value} {h : gm_H} {Q : gm_R → gm_H → Prop} {a1 : Value}  : gm_W E d 75 45 [.null, a1] st h Q ↔ gm_W E d 75 46 [.null, a1] (.null :: st) h Q := gw_loc m75 f75_45 rfl rfl
theorem f75_46 : gm_ft 75 46 = some (.bipush (-3), 2) := by decide +kernel
theorem r75_46 {E : Nat → Value} {d : Nat} {st : List Value} {h : gm_H} {Q : gm_R → gm_H → Prop} {lv : List Value} : gm_W E d 75 46 lv st h Q ↔ gm_W E d 75 48 lv (.int (-3 : Int32) :: st) h Q := gw_pure m75 f75_46 rfl
theorem f75_48 : gm_ft 75 48 = some (.invokevirtual 160, 3) := by decide +kernel
theorem c75_48 {E : Nat → Value} {d : Nat} {st : List Value} {h : gm_H} {Q : gm_R → gm_H → Prop} {lv : List Value} {b0 : Int32} {a : Nat} {Qc : gm_R → gm_H → Prop} (hs : (st.map fun v => v.category).sum ≤ 8) (hr : gm_kd h a = 0) (hd : 1 ≤ d) (hc : gm_Ca E (d - 1) 66 [.ref a, .int b0] h Qc) (kn : ∀ (v9 : Option Value) (h9 : gm_H), Qc (.inl v9) h9 → gm_W E d 75 51 lv (v9.toList ++ st) h9 Q) (kx : ∀ (x9 : Nat) (h9 : gm_H), Qc (.inr x9) h9 → Q (.inr x9) h9) : gm_W E d 75 48 lv (.int b0 :: .ref a :: st) h Q := gw_call (gn_call m75 f75_48 rfl rfl rfl rfl rfl rfl rfl (gs_virt (bs := [.int b0]) (w := 206) (L := 2) rfl rfl rfl rfl hs (by simp [gm_en1]) hr (by decide)) (by decide)) m75 rfl rfl hd hc kn kx
theorem f75_51 : gm_ft 75 51 = some (.ireturn, 1) := by decide +kernel
theorem r75_51 {E : Nat → Value} {d : Nat} {h : gm_H} {Q : gm_R → gm_H → Prop} {lv : List Value} {x : Int32} : gm_W E d 75 51 lv [.int x] h Q ↔ Q (.inl (some (.int x))) h := gw_ret m75 f75_51 rfl rfl rfl rfl rfl rfl rfl rfl (by unfold gm_rt; dsimp only; rw [if_pos ⟨rfl, rfl⟩])
theorem f75_52 : gm_ft 75 52 = some (.aload_n 0, 1) := by decide +kernel
theorem r75_52 {E : Nat → Value} {d : Nat} {st : List Value} {h : gm_H} {Q : gm_R → gm_H → Prop} {a1 : Value} {x : Nat} : gm_W E d 75 52 [.ref x, a1] st h Q ↔ gm_W E d 75 53 [.ref x, a1] (.ref x :: st) h Q := gw_loc m75 f75_52 rfl rfl
theorem r75_52n {E : Nat → Value} {d : Nat} {st : List Value} {h : gm_H} {Q : gm_R → gm_H → Prop} {a1 : Value}  : gm_W E d 75 52 [.null, a1] st h Q ↔ gm_W E d 75 53 [.null, a1] (.null :: st) h Q := gw_loc m75 f75_52 rfl rfl
theorem f75_53 : gm_ft 75 53 = some (.dup, 1) := by decide +kernel
theorem r75_53 {E : Nat → Value} {d : Nat} {st : List Value} {h : gm_H} {Q : gm_R → gm_H → Prop} {lv : List Value} {a : Nat} : gm_W E d 75 53 lv (.ref a :: st) h Q ↔ gm_W E d 75 54 lv (.ref a :: .ref a :: st) h Q := gw_pure m75 f75_53 rfl
theorem r75_53i {E : Nat → Value} {d : Nat} {st : List Value} {h : gm_H} {Q : gm_R → gm_H → Prop} {lv : List Value} {x : Int32} : gm_W E d 75 53 lv (.int x :: st) h Q ↔ gm_W E d 75 54 lv (.int x :: .int x :: st) h Q := gw_pure m75 f75_53 rfl
theorem f75_54 : gm_ft 75 54 = some (.getfield 96, 3) := by decide +kernel
theorem r75_54 {E : Nat → Value} {d : Nat} {st : List Value} {h : gm_H} {Q : gm_R → gm_H → Prop} {lv : List Value} {a : Nat} (hk : gm_kd h a = 0) : gm_W E d 75 54 lv (.ref a :: st) h Q ↔ gm_W E d 75 57 lv (gm_fv h a 7 :: st) h Q := gw_rd m75 f75_54 rfl rfl rfl rfl (gs_get k0_96 hk (by decide))
theorem f75_57 : gm_ft 75 57 = some (.iload_n 1, 1) := by decide +kernel
theorem r75_57 {E : Nat → Value} {d : Nat} {st : List Value} {h : gm_H} {Q : gm_R → gm_H → Prop} {a0 : Value} {x : Int32} : gm_W E d 75 57 [a0, .int x] st h Q ↔ gm_W E d 75 58 [a0, .int x] (.int x :: st) h Q := gw_loc m75 f75_57 rfl rfl
theorem f75_58 : gm_ft 75 58 = some (.iadd, 1) := by decide +kernel
theorem r75_58 {E : Nat → Value} {d : Nat} {st : List Value} {h : gm_H} {Q : gm_R → gm_H → Prop} {lv : List Value} {x y : Int32} : gm_W E d 75 58 lv (.int y :: .int x :: st) h Q ↔ gm_W E d 75 59 lv (.int (x + y) :: st) h Q := gw_pure m75 f75_58 rfl
theorem f75_59 : gm_ft 75 59 = some (.putfield 96, 3) := by decide +kernel
theorem r75_59 {E : Nat → Value} {d : Nat} {st : List Value} {h : gm_H} {Q : gm_R → gm_H → Prop} {lv : List Value} {a : Nat} {x : Int32} (hk : gm_kd h a = 0) : gm_W E d 75 59 lv (.int x :: .ref a :: st) h Q ↔ gm_W E d 75 62 lv st (gm_sf h a 7 (.int x)) Q := gw_wr m75 f75_59 rfl rfl rfl rfl rfl (gs_put k0_96 hk (by decide) (by decide) ⟨rfl, rfl⟩ (by decide))
theorem f75_62 : gm_ft 75 62 = some (.iload_n 1, 1) := by decide +kernel
theorem r75_62 {E : Nat → Value} {d : Nat} {st : List Value} {h : gm_H} {Q : gm_R → gm_H → Prop} {a0 : Value} {x : Int32} : gm_W E d 75 62 [a0, .int x] st h Q ↔ gm_W E d 75 63 [a0, .int x] (.int x :: st) h Q := gw_loc m75 f75_62 rfl rfl
theorem f75_63 : gm_ft 75 63 = some (.ireturn, 1) := by decide +kernel
theorem r75_63 {E : Nat → Value} {d : Nat} {h : gm_H} {Q : gm_R → gm_H → Prop} {lv : List Value} {x : Int32} : gm_W E d 75 63 lv [.int x] h Q ↔ Q (.inl (some (.int x))) h := gw_ret m75 f75_63 rfl rfl rfl rfl rfl rfl rfl rfl (by unfold gm_rt; dsimp only; rw [if_pos ⟨rfl, rfl⟩])
/-! GraphReader.passRest(I)V -/
theorem m76 : gm_mt[76]? = some (⟨"GraphReader", "passRest", "(I)V"⟩, prog_1_method_26_code, 4, none, [], 0, 1) := rfl
theorem f76_0 : gm_ft 76 0 = some (.iconst 0, 1) := by decide +kernel
theorem r76_0 {E : Nat → Value} {d : Nat} {st : List Value} {h : gm_H} {Q : gm_R → gm_H → Prop} {lv : List Value} : gm_W E d 76 0 lv st h Q ↔ gm_W E d 76 1 lv (.int (0 : Int32) :: st) h Q := gw_pure m76 f76_0 rfl
theorem f76_1 : gm_ft 76 1 = some (.istore_n 2, 1) := by decide +kernel
theorem r76_1 {E : Nat → Value} {d : Nat} {st : List Value} {h : gm_H} {Q : gm_R → gm_H → Prop} {a0 a1 a2 a3 : Value} {x : Int32} : gm_W E d 76 1 [a0, a1, a2, a3] (.int x :: st) h Q ↔ gm_W E d 76 2 [a0, gm_k a1, .int x, a3] st h Q := gw_loc m76 f76_1 rfl rfl
theorem f76_2 : gm_ft 76 2 = some (.iload_n 2, 1) := by decide +kernel
theorem r76_2 {E : Nat → Value} {d : Nat} {st : List Value} {h : gm_H} {Q : gm_R → gm_H → Prop} {a0 a1 a3 : Value} {x : Int32} : gm_W E d 76 2 [a0, a1, .int x, a3] st h Q ↔ gm_W E d 76 3 [a0, a1, .int x, a3] (.int x :: st) h Q := gw_loc m76 f76_2 rfl rfl
theorem f76_3 : gm_ft 76 3 = some (.sipush 700, 3) := by decide +kernel
theorem r76_3 {E : Nat → Value} {d : Nat} {st : List Value} {h : gm_H} {Q : gm_R → gm_H → Prop} {lv : List Value} : gm_W E d 76 3 lv st h Q ↔ gm_W E d 76 6 lv (.int (700 : Int32) :: st) h Q := gw_pure m76 f76_3 rfl
theorem f76_6 : gm_ft 76 6 = some (.if_icmp .gt 77, 3) := by decide +kernel
theorem r76_6 {E : Nat → Value} {d : Nat} {st : List Value} {h : gm_H} {Q : gm_R → gm_H → Prop} {lv : List Value} {x y : Int32} : gm_W E d 76 6 lv (.int y :: .int x :: st) h Q ↔ (if y < x then gm_W E d 76 83 lv st h Q else gm_W E d 76 9 lv st h Q) := (gw_br m76 f76_6 rfl rfl rfl rfl).trans gw_if
theorem f76_9 : gm_ft 76 9 = some (.aload_n 0, 1) := by decide +kernel
theorem r76_9 {E : Nat → Value} {d : Nat} {st : List Value} {h : gm_H} {Q : gm_R → gm_H → Prop} {a1 a2 a3 : Value} {x : Nat} : gm_W E d 76 9 [.ref x, a1, a2, a3] st h Q ↔ gm_W E d 76 10 [.ref x, a1, a2, a3] (.ref x :: st) h Q := gw_loc m76 f76_9 rfl rfl
theorem r76_9n {E : Nat → Value} {d : Nat} {st : List Value} {h : gm_H} {Q : gm_R → gm_H → Prop} {a1 a2 a3 : Value}  : gm_W E d 76 9 [.null, a1, a2, a3] st h Q ↔ gm_W E d 76 10 [.null, a1, a2, a3] (.null :: st) h Q := gw_loc m76 f76_9 rfl rfl
theorem f76_10 : gm_ft 76 10 = some (.getfield 96, 3) := by decide +kernel
theorem r76_10 {E : Nat → Value} {d : Nat} {st : List Value} {h : gm_H} {Q : gm_R → gm_H → Prop} {lv : List Value} {a : Nat} (hk : gm_kd h a = 0) : gm_W E d 76 10 lv (.ref a :: st) h Q ↔ gm_W E d 76 13 lv (gm_fv h a 7 :: st) h Q := gw_rd m76 f76_10 rfl rfl rfl rfl (gs_get k0_96 hk (by decide))
theorem f76_13 : gm_ft 76 13 = some (.aload_n 0, 1) := by decide +kernel
theorem r76_13 {E : Nat → Value} {d : Nat} {st : List Value} {h : gm_H} {Q : gm_R → gm_H → Prop} {a1 a2 a3 : Value} {x : Nat} : gm_W E d 76 13 [.ref x, a1, a2, a3] st h Q ↔ gm_W E d 76 14 [.ref x, a1, a2, a3] (.ref x :: st) h Q := gw_loc m76 f76_13 rfl rfl
theorem r76_13n {E : Nat → Value} {d : Nat} {st : List Value} {h : gm_H} {Q : gm_R → gm_H → Prop} {a1 a2 a3 : Value}  : gm_W E d 76 13 [.null, a1, a2, a3] st h Q ↔ gm_W E d 76 14 [.null, a1, a2, a3] (.null :: st) h Q := gw_loc m76 f76_13 rfl rfl
theorem f76_14 : gm_ft 76 14 = some (.getfield 93, 3) := by decide +kernel
theorem r76_14 {E : Nat → Value} {d : Nat} {st : List Value} {h : gm_H} {Q : gm_R → gm_H → Prop} {lv : List Value} {a : Nat} (hk : gm_kd h a = 0) : gm_W E d 76 14 lv (.ref a :: st) h Q ↔ gm_W E d 76 17 lv (gm_fv h a 6 :: st) h Q := gw_rd m76 f76_14 rfl rfl rfl rfl (gs_get k0_93 hk (by decide))
theorem f76_17 : gm_ft 76 17 = some (.if_icmp .lt 10, 3) := by decide +kernel
theorem r76_17 {E : Nat → Value} {d : Nat} {st : List Value} {h : gm_H} {Q : gm_R → gm_H → Prop} {lv : List Value} {x y : Int32} : gm_W E d 76 17 lv (.int y :: .int x :: st) h Q ↔ (if x < y then gm_W E d 76 27 lv st h Q else gm_W E d 76 20 lv st h Q) := (gw_br m76 f76_17 rfl rfl rfl rfl).trans gw_if
theorem f76_20 : gm_ft 76 20 = some (.aload_n 0, 1) := by decide +kernel
theorem r76_20 {E : Nat → Value} {d : Nat} {st : List Value} {h : gm_H} {Q : gm_R → gm_H → Prop} {a1 a2 a3 : Value} {x : Nat} : gm_W E d 76 20 [.ref x, a1, a2, a3] st h Q ↔ gm_W E d 76 21 [.ref x, a1, a2, a3] (.ref x :: st) h Q := gw_loc m76 f76_20 rfl rfl
theorem r76_20n {E : Nat → Value} {d : Nat} {st : List Value} {h : gm_H} {Q : gm_R → gm_H → Prop} {a1 a2 a3 : Value}  : gm_W E d 76 20 [.null, a1, a2, a3] st h Q ↔ gm_W E d 76 21 [.null, a1, a2, a3] (.null :: st) h Q := gw_loc m76 f76_20 rfl rfl
theorem f76_21 : gm_ft 76 21 = some (.bipush (-3), 2) := by decide +kernel
theorem r76_21 {E : Nat → Value} {d : Nat} {st : List Value} {h : gm_H} {Q : gm_R → gm_H → Prop} {lv : List Value} : gm_W E d 76 21 lv st h Q ↔ gm_W E d 76 23 lv (.int (-3 : Int32) :: st) h Q := gw_pure m76 f76_21 rfl
theorem f76_23 : gm_ft 76 23 = some (.invokevirtual 160, 3) := by decide +kernel
theorem c76_23 {E : Nat → Value} {d : Nat} {st : List Value} {h : gm_H} {Q : gm_R → gm_H → Prop} {lv : List Value} {b0 : Int32} {a : Nat} {Qc : gm_R → gm_H → Prop} (hs : (st.map fun v => v.category).sum ≤ 8) (hr : gm_kd h a = 0) (hd : 1 ≤ d) (hc : gm_Ca E (d - 1) 66 [.ref a, .int b0] h Qc) (kn : ∀ (v9 : Option Value) (h9 : gm_H), Qc (.inl v9) h9 → gm_W E d 76 26 lv (v9.toList ++ st) h9 Q) (kx : ∀ (x9 : Nat) (h9 : gm_H), Qc (.inr x9) h9 → Q (.inr x9) h9) : gm_W E d 76 23 lv (.int b0 :: .ref a :: st) h Q := gw_call (gn_call m76 f76_23 rfl rfl rfl rfl rfl rfl rfl (gs_virt (bs := [.int b0]) (w := 206) (L := 2) rfl rfl rfl rfl hs (by simp [gm_en1]) hr (by decide)) (by decide)) m76 rfl rfl hd hc kn kx
theorem f76_26 : gm_ft 76 26 = some (.pop, 1) := by decide +kernel
theorem r76_26 {E : Nat → Value} {d : Nat} {st : List Value} {h : gm_H} {Q : gm_R → gm_H → Prop} {lv : List Value} {x : Int32} : gm_W E d 76 26 lv (.int x :: st) h Q ↔ gm_W E d 76 27 lv st h Q := gw_pure m76 f76_26 rfl
theorem r76_26a {E : Nat → Value} {d : Nat} {st : List Value} {h : gm_H} {Q : gm_R → gm_H → Prop} {lv : List Value} {a : Nat} : gm_W E d 76 26 lv (.ref a :: st) h Q ↔ gm_W E d 76 27 lv st h Q := gw_pure m76 f76_26 rfl
theorem r76_26n {E : Nat → Value} {d : Nat} {st : List Value} {h : gm_H} {Q : gm_R → gm_H → Prop} {lv : List Value} : gm_W E d 76 26 lv (.null :: st) h Q ↔ gm_W E d 76 27 lv st h Q := gw_pure m76 f76_26 rfl
theorem f76_27 : gm_ft 76 27 = some (.aload_n 0, 1) := by decide +kernel
theorem r76_27 {E : Nat → Value} {d : Nat} {st : List Value} {h : gm_H} {Q : gm_R → gm_H → Prop} {a1 a2 a3 : Value} {x : Nat} : gm_W E d 76 27 [.ref x, a1, a2, a3] st h Q ↔ gm_W E d 76 28 [.ref x, a1, a2, a3] (.ref x :: st) h Q := gw_loc m76 f76_27 rfl rfl
theorem r76_27n {E : Nat → Value} {d : Nat} {st : List Value} {h : gm_H} {Q : gm_R → gm_H → Prop} {a1 a2 a3 : Value}  : gm_W E d 76 27 [.null, a1, a2, a3] st h Q ↔ gm_W E d 76 28 [.null, a1, a2, a3] (.null :: st) h Q := gw_loc m76 f76_27 rfl rfl
theorem f76_28 : gm_ft 76 28 = some (.getfield 15, 3) := by decide +kernel
theorem r76_28 {E : Nat → Value} {d : Nat} {st : List Value} {h : gm_H} {Q : gm_R → gm_H → Prop} {lv : List Value} {a : Nat} (hk : gm_kd h a = 0) : gm_W E d 76 28 lv (.ref a :: st) h Q ↔ gm_W E d 76 31 lv (gm_fv h a 5 :: st) h Q := gw_rd m76 f76_28 rfl rfl rfl rfl (gs_get k0_15 hk (by decide))
theorem f76_31 : gm_ft 76 31 = some (.aload_n 0, 1) := by decide +kernel
theorem r76_31 {E : Nat → Value} {d : Nat} {st : List Value} {h : gm_H} {Q : gm_R → gm_H → Prop} {a1 a2 a3 : Value} {x : Nat} : gm_W E d 76 31 [.ref x, a1, a2, a3] st h Q ↔ gm_W E d 76 32 [.ref x, a1, a2, a3] (.ref x :: st) h Q := gw_loc m76 f76_31 rfl rfl
theorem r76_31n {E : Nat → Value} {d : Nat} {st : List Value} {h : gm_H} {Q : gm_R → gm_H → Prop} {a1 a2 a3 : Value}  : gm_W E d 76 31 [.null, a1, a2, a3] st h Q ↔ gm_W E d 76 32 [.null, a1, a2, a3] (.null :: st) h Q := gw_loc m76 f76_31 rfl rfl
theorem f76_32 : gm_ft 76 32 = some (.getfield 96, 3) := by decide +kernel
theorem r76_32 {E : Nat → Value} {d : Nat} {st : List Value} {h : gm_H} {Q : gm_R → gm_H → Prop} {lv : List Value} {a : Nat} (hk : gm_kd h a = 0) : gm_W E d 76 32 lv (.ref a :: st) h Q ↔ gm_W E d 76 35 lv (gm_fv h a 7 :: st) h Q := gw_rd m76 f76_32 rfl rfl rfl rfl (gs_get k0_96 hk (by decide))
theorem f76_35 : gm_ft 76 35 = some (.baload, 1) := by decide +kernel
theorem r76_35 {E : Nat → Value} {d : Nat} {st : List Value} {h : gm_H} {Q : gm_R → gm_H → Prop} {lv : List Value} {a j : Nat} (hk : (gm_kd h a % 100 = 2 ∨ gm_kd h a % 100 = 3) ∧ 100 ≤ gm_kd h a ∧ gm_kd h a < 900) (hj : j < gm_ln h a) (hl : gm_ln h a < 2 ^ 31) : gm_W E d 76 35 lv (.int (nI j) :: .ref a :: st) h Q ↔ gm_W E d 76 36 lv (gm_fv h a j :: st) h Q := gw_rd m76 f76_35 rfl rfl rfl rfl (gs_ld (P := fun t => t == 2 || t == 3) hk.2 (by have := hk.1; simp [this] <;> omega) hj hl)
theorem f76_36 : gm_ft 76 36 = some (.istore_n 3, 1) := by decide +kernel
theorem r76_36 {E : Nat → Value} {d : Nat} {st : List Value} {h : gm_H} {Q : gm_R → gm_H → Prop} {a0 a1 a2 a3 : Value} {x : Int32} : gm_W E d 76 36 [a0, a1, a2, a3] (.int x :: st) h Q ↔ gm_W E d 76 37 [a0, a1, gm_k a2, .int x] st h Q := gw_loc m76 f76_36 rfl rfl
theorem f76_37 : gm_ft 76 37 = some (.iload_n 3, 1) := by decide +kernel
theorem r76_37 {E : Nat → Value} {d : Nat} {st : List Value} {h : gm_H} {Q : gm_R → gm_H → Prop} {a0 a1 a2 : Value} {x : Int32} : gm_W E d 76 37 [a0, a1, a2, .int x] st h Q ↔ gm_W E d 76 38 [a0, a1, a2, .int x] (.int x :: st) h Q := gw_loc m76 f76_37 rfl rfl
theorem f76_38 : gm_ft 76 38 = some (.bipush 120, 2) := by decide +kernel
theorem r76_38 {E : Nat → Value} {d : Nat} {st : List Value} {h : gm_H} {Q : gm_R → gm_H → Prop} {lv : List Value} : gm_W E d 76 38 lv st h Q ↔ gm_W E d 76 40 lv (.int (120 : Int32) :: st) h Q := gw_pure m76 f76_38 rfl
theorem f76_40 : gm_ft 76 40 = some (.if_icmp .ne 14, 3) := by decide +kernel
theorem r76_40 {E : Nat → Value} {d : Nat} {st : List Value} {h : gm_H} {Q : gm_R → gm_H → Prop} {lv : List Value} {x y : Int32} : gm_W E d 76 40 lv (.int y :: .int x :: st) h Q ↔ (if x = y then gm_W E d 76 43 lv st h Q else gm_W E d 76 54 lv st h Q) := (gw_br m76 f76_40 rfl rfl rfl rfl).trans gw_ifn
theorem f76_43 : gm_ft 76 43 = some (.aload_n 0, 1) := by decide +kernel
theorem r76_43 {E : Nat → Value} {d : Nat} {st : List Value} {h : gm_H} {Q : gm_R → gm_H → Prop} {a1 a2 a3 : Value} {x : Nat} : gm_W E d 76 43 [.ref x, a1, a2, a3] st h Q ↔ gm_W E d 76 44 [.ref x, a1, a2, a3] (.ref x :: st) h Q := gw_loc m76 f76_43 rfl rfl
theorem r76_43n {E : Nat → Value} {d : Nat} {st : List Value} {h : gm_H} {Q : gm_R → gm_H → Prop} {a1 a2 a3 : Value}  : gm_W E d 76 43 [.null, a1, a2, a3] st h Q ↔ gm_W E d 76 44 [.null, a1, a2, a3] (.null :: st) h Q := gw_loc m76 f76_43 rfl rfl
theorem f76_44 : gm_ft 76 44 = some (.dup, 1) := by decide +kernel
theorem r76_44 {E : Nat → Value} {d : Nat} {st : List Value} {h : gm_H} {Q : gm_R → gm_H → Prop} {lv : List Value} {a : Nat} : gm_W E d 76 44 lv (.ref a :: st) h Q ↔ gm_W E d 76 45 lv (.ref a :: .ref a :: st) h Q := gw_pure m76 f76_44 rfl
theorem r76_44i {E : Nat → Value} {d : Nat} {st : List Value} {h : gm_H} {Q : gm_R → gm_H → Prop} {lv : List Value} {x : Int32} : gm_W E d 76 44 lv (.int x :: st) h Q ↔ gm_W E d 76 45 lv (.int x :: .int x :: st) h Q := gw_pure m76 f76_44 rfl
theorem f76_45 : gm_ft 76 45 = some (.getfield 96, 3) := by decide +kernel
theorem r76_45 {E : Nat → Value} {d : Nat} {st : List Value} {h : gm_H} {Q : gm_R → gm_H → Prop} {lv : List Value} {a : Nat} (hk : gm_kd h a = 0) : gm_W E d 76 45 lv (.ref a :: st) h Q ↔ gm_W E d 76 48 lv (gm_fv h a 7 :: st) h Q := gw_rd m76 f76_45 rfl rfl rfl rfl (gs_get k0_96 hk (by decide))
theorem f76_48 : gm_ft 76 48 = some (.iconst 1, 1) := by decide +kernel
theorem r76_48 {E : Nat → Value} {d : Nat} {st : List Value} {h : gm_H} {Q : gm_R → gm_H → Prop} {lv : List Value} : gm_W E d 76 48 lv st h Q ↔ gm_W E d 76 49 lv (.int (1 : Int32) :: st) h Q := gw_pure m76 f76_48 rfl
theorem f76_49 : gm_ft 76 49 = some (.iadd, 1) := by decide +kernel
theorem r76_49 {E : Nat → Value} {d : Nat} {st : List Value} {h : gm_H} {Q : gm_R → gm_H → Prop} {lv : List Value} {x y : Int32} : gm_W E d 76 49 lv (.int y :: .int x :: st) h Q ↔ gm_W E d 76 50 lv (.int (x + y) :: st) h Q := gw_pure m76 f76_49 rfl
theorem f76_50 : gm_ft 76 50 = some (.putfield 96, 3) := by decide +kernel
theorem r76_50 {E : Nat → Value} {d : Nat} {st : List Value} {h : gm_H} {Q : gm_R → gm_H → Prop} {lv : List Value} {a : Nat} {x : Int32} (hk : gm_kd h a = 0) : gm_W E d 76 50 lv (.int x :: .ref a :: st) h Q ↔ gm_W E d 76 53 lv st (gm_sf h a 7 (.int x)) Q := gw_wr m76 f76_50 rfl rfl rfl rfl rfl (gs_put k0_96 hk (by decide) (by decide) ⟨rfl, rfl⟩ (by decide))
theorem f76_53 : gm_ft 76 53 = some (.return_, 1) := by decide +kernel
theorem r76_53 {E : Nat → Value} {d : Nat} {h : gm_H} {Q : gm_R → gm_H → Prop} {lv : List Value} : gm_W E d 76 53 lv [] h Q ↔ Q (.inl none) h := gw_ret m76 f76_53 rfl rfl rfl rfl rfl rfl rfl rfl rfl
theorem f76_54 : gm_ft 76 54 = some (.iload_n 3, 1) := by decide +kernel
theorem r76_54 {E : Nat → Value} {d : Nat} {st : List Value} {h : gm_H} {Q : gm_R → gm_H → Prop} {a0 a1 a2 : Value} {x : Int32} : gm_W E d 76 54 [a0, a1, a2, .int x] st h Q ↔ gm_W E d 76 55 [a0, a1, a2, .int x] (.int x :: st) h Q := gw_loc m76 f76_54 rfl rfl
theorem f76_55 : gm_ft 76 55 = some (.invokestatic 125, 3) := by decide +kernel
theorem c76_55 {E : Nat → Value} {d : Nat} {st : List Value} {h : gm_H} {Q : gm_R → gm_H → Prop} {lv : List Value} {b0 : Int32} {Qc : gm_R → gm_H → Prop} (hs : (st.map fun v => v.category).sum ≤ 8) (hd : 1 ≤ d) (hc : gm_Ca E (d - 1) 74 [.int b0] h Qc) (kn : ∀ (v9 : Option Value) (h9 : gm_H), Qc (.inl v9) h9 → gm_W E d 76 58 lv (v9.toList ++ st) h9 Q) (kx : ∀ (x9 : Nat) (h9 : gm_H), Qc (.inr x9) h9 → Q (.inr x9) h9) : gm_W E d 76 55 lv (.int b0 :: st) h Q := gw_call (gn_call m76 f76_55 rfl rfl rfl rfl rfl rfl rfl (gc_stat (bs := [.int b0]) (w := 476) (L := 1) rfl rfl rfl hs (by simp [gm_en1])) (by decide)) m76 rfl rfl hd hc kn kx
theorem f76_58 : gm_ft 76 58 = some (.ifCond .eq 11, 3) := by decide +kernel
theorem r76_58 {E : Nat → Value} {d : Nat} {st : List Value} {h : gm_H} {Q : gm_R → gm_H → Prop} {lv : List Value} {x : Int32} : gm_W E d 76 58 lv (.int x :: st) h Q ↔ (if x = 0 then gm_W E d 76 69 lv st h Q else gm_W E d 76 61 lv st h Q) := (gw_br m76 f76_58 rfl rfl rfl rfl).trans gw_if
theorem f76_61 : gm_ft 76 61 = some (.aload_n 0, 1) := by decide +kernel
theorem r76_61 {E : Nat → Value} {d : Nat} {st : List Value} {h : gm_H} {Q : gm_R → gm_H → Prop} {a1 a2 a3 : Value} {x : Nat} : gm_W E d 76 61 [.ref x, a1, a2, a3] st h Q ↔ gm_W E d 76 62 [.ref x, a1, a2, a3] (.ref x :: st) h Q := gw_loc m76 f76_61 rfl rfl
theorem r76_61n {E : Nat → Value} {d : Nat} {st : List Value} {h : gm_H} {Q : gm_R → gm_H → Prop} {a1 a2 a3 : Value}  : gm_W E d 76 61 [.null, a1, a2, a3] st h Q ↔ gm_W E d 76 62 [.null, a1, a2, a3] (.null :: st) h Q := gw_loc m76 f76_61 rfl rfl
theorem f76_62 : gm_ft 76 62 = some (.invokevirtual 128, 3) := by decide +kernel
theorem c76_62 {E : Nat → Value} {d : Nat} {st : List Value} {h : gm_H} {Q : gm_R → gm_H → Prop} {lv : List Value} {a : Nat} {Qc : gm_R → gm_H → Prop} (hs : (st.map fun v => v.category).sum ≤ 8) (hr : gm_kd h a = 0) (hd : 1 ≤ d) (hc : gm_Ca E (d - 1) 75 [.ref a] h Qc) (kn : ∀ (v9 : Option Value) (h9 : gm_H), Qc (.inl v9) h9 → gm_W E d 76 65 lv (v9.toList ++ st) h9 Q) (kx : ∀ (x9 : Nat) (h9 : gm_H), Qc (.inr x9) h9 → Q (.inr x9) h9) : gm_W E d 76 62 lv (.ref a :: st) h Q := gw_call (gn_call m76 f76_62 rfl rfl rfl rfl rfl rfl rfl (gs_virt (bs := []) (w := 479) (L := 2) rfl rfl rfl rfl hs (by simp [gm_en1]) hr (by decide)) (by decide)) m76 rfl rfl hd hc kn kx
theorem f76_65 : gm_ft 76 65 = some (.pop, 1) := by decide +kernel
theorem r76_65 {E : Nat → Value} {d : Nat} {st : List Value} {h : gm_H} {Q : gm_R → gm_H → Prop} {lv : List Value} {x : Int32} : gm_W E d 76 65 lv (.int x :: st) h Q ↔ gm_W E d 76 66 lv st h Q := gw_pure m76 f76_65 rfl
theorem r76_65a {E : Nat → Value} {d : Nat} {st : List Value} {h : gm_H} {Q : gm_R → gm_H → Prop} {lv : List Value} {a : Nat} : gm_W E d 76 65 lv (.ref a :: st) h Q ↔ gm_W E d 76 66 lv st h Q := gw_pure m76 f76_65 rfl
theorem r76_65n {E : Nat → Value} {d : Nat} {st : List Value} {h : gm_H} {Q : gm_R → gm_H → Prop} {lv : List Value} : gm_W E d 76 65 lv (.null :: st) h Q ↔ gm_W E d 76 66 lv st h Q := gw_pure m76 f76_65 rfl
theorem f76_66 : gm_ft 76 66 = some (.goto 11, 3) := by decide +kernel
theorem r76_66 {E : Nat → Value} {d : Nat} {st : List Value} {h : gm_H} {Q : gm_R → gm_H → Prop} {lv : List Value} : gm_W E d 76 66 lv st h Q ↔ gm_W E d 76 77 lv st h Q := gw_brT m76 f76_66 rfl rfl rfl rfl
theorem f76_69 : gm_ft 76 69 = some (.aload_n 0, 1) := by decide +kernel
theorem r76_69 {E : Nat → Value} {d : Nat} {st : List Value} {h : gm_H} {Q : gm_R → gm_H → Prop} {a1 a2 a3 : Value} {x : Nat} : gm_W E d 76 69 [.ref x, a1, a2, a3] st h Q ↔ gm_W E d 76 70 [.ref x, a1, a2, a3] (.ref x :: st) h Q := gw_loc m76 f76_69 rfl rfl
theorem r76_69n {E : Nat → Value} {d : Nat} {st : List Value} {h : gm_H} {Q : gm_R → gm_H → Prop} {a1 a2 a3 : Value}  : gm_W E d 76 69 [.null, a1, a2, a3] st h Q ↔ gm_W E d 76 70 [.null, a1, a2, a3] (.null :: st) h Q := gw_loc m76 f76_69 rfl rfl
theorem f76_70 : gm_ft 76 70 = some (.iload_n 1, 1) := by decide +kernel
theorem r76_70 {E : Nat → Value} {d : Nat} {st : List Value} {h : gm_H} {Q : gm_R → gm_H → Prop} {a0 a2 a3 : Value} {x : Int32} : gm_W E d 76 70 [a0, .int x, a2, a3] st h Q ↔ gm_W E d 76 71 [a0, .int x, a2, a3] (.int x :: st) h Q := gw_loc m76 f76_70 rfl rfl
theorem f76_71 : gm_ft 76 71 = some (.iconst 1, 1) := by decide +kernel
theorem r76_71 {E : Nat → Value} {d : Nat} {st : List Value} {h : gm_H} {Q : gm_R → gm_H → Prop} {lv : List Value} : gm_W E d 76 71 lv st h Q ↔ gm_W E d 76 72 lv (.int (1 : Int32) :: st) h Q := gw_pure m76 f76_71 rfl
theorem f76_72 : gm_ft 76 72 = some (.iadd, 1) := by decide +kernel
theorem r76_72 {E : Nat → Value} {d : Nat} {st : List Value} {h : gm_H} {Q : gm_R → gm_H → Prop} {lv : List Value} {x y : Int32} : gm_W E d 76 72 lv (.int y :: .int x :: st) h Q ↔ gm_W E d 76 73 lv (.int (x + y) :: st) h Q := gw_pure m76 f76_72 rfl
theorem f76_73 : gm_ft 76 73 = some (.invokevirtual 182, 3) := by decide +kernel
theorem c76_73 {E : Nat → Value} {d : Nat} {st : List Value} {h : gm_H} {Q : gm_R → gm_H → Prop} {lv : List Value} {b0 : Int32} {a : Nat} {Qc : gm_R → gm_H → Prop} (hs : (st.map fun v => v.category).sum ≤ 8) (hr : gm_kd h a = 0) (hd : 1 ≤ d) (hc : gm_Ca E (d - 1) 82 [.ref a, .int b0] h Qc) (kn : ∀ (v9 : Option Value) (h9 : gm_H), Qc (.inl v9) h9 → gm_W E d 76 76 lv (v9.toList ++ st) h9 Q) (kx : ∀ (x9 : Nat) (h9 : gm_H), Qc (.inr x9) h9 → Q (.inr x9) h9) : gm_W E d 76 73 lv (.int b0 :: .ref a :: st) h Q := gw_call (gn_call m76 f76_73 rfl rfl rfl rfl rfl rfl rfl (gs_virt (bs := [.int b0]) (w := 270) (L := 2) rfl rfl rfl rfl hs (by simp [gm_en1]) hr (by decide)) (by decide)) m76 rfl rfl hd hc kn kx
theorem f76_76 : gm_ft 76 76 = some (.pop, 1) := by decide +kernel
theorem r76_76 {E : Nat → Value} {d : Nat} {st : List Value} {h : gm_H} {Q : gm_R → gm_H → Prop} {lv : List Value} {x : Int32} : gm_W E d 76 76 lv (.int x :: st) h Q ↔ gm_W E d 76 77 lv st h Q := gw_pure m76 f76_76 rfl
theorem r76_76a {E : Nat → Value} {d : Nat} {st : List Value} {h : gm_H} {Q : gm_R → gm_H → Prop} {lv : List Value} {a : Nat} : gm_W E d 76 76 lv (.ref a :: st) h Q ↔ gm_W E d 76 77 lv st h Q := gw_pure m76 f76_76 rfl
theorem r76_76n {E : Nat → Value} {d : Nat} {st : List Value} {h : gm_H} {Q : gm_R → gm_H → Prop} {lv : List Value} : gm_W E d 76 76 lv (.null :: st) h Q ↔ gm_W E d 76 77 lv st h Q := gw_pure m76 f76_76 rfl
theorem f76_77 : gm_ft 76 77 = some (.iinc 2 1, 3) := by decide +kernel
theorem r76_77 {E : Nat → Value} {d : Nat} {st : List Value} {h : gm_H} {Q : gm_R → gm_H → Prop} {a0 a1 a3 : Value} {x : Int32} : gm_W E d 76 77 [a0, a1, .int x, a3] st h Q ↔ gm_W E d 76 80 [a0, gm_k a1, .int (x + (1 : Int32)), a3] st h Q := gw_loc m76 f76_77 rfl rfl
theorem f76_80 : gm_ft 76 80 = some (.goto (-78), 3) := by decide +kernel
theorem r76_80 {E : Nat → Value} {d : Nat} {st : List Value} {h : gm_H} {Q : gm_R → gm_H → Prop} {lv : List Value} : gm_W E d 76 80 lv st h Q ↔ gm_W E d 76 2 lv st h Q := gw_brT m76 f76_80 rfl rfl rfl rfl
theorem f76_83 : gm_ft 76 83 = some (.return_, 1) := by decide +kernel
theorem r76_83 {E : Nat → Value} {d : Nat} {h : gm_H} {Q : gm_R → gm_H → Prop} {lv : List Value} : gm_W E d 76 83 lv [] h Q ↔ Q (.inl none) h := gw_ret m76 f76_83 rfl rfl rfl rfl rfl rfl rfl rfl rfl
/-! GraphReader.addThing(LGraphReader$Thing;)I -/
theorem m77 : gm_mt[77]? = some (⟨"GraphReader", "addThing", "(LGraphReader$Thing;)I"⟩, prog_1_method_27_code, 2, (some .int), [], 0, 1) := rfl
theorem f77_0 : gm_ft 77 0 = some (.aload_n 0, 1) := by decide +kernel
theorem r77_0 {E : Nat → Value} {d : Nat} {st : List Value} {h : gm_H} {Q : gm_R → gm_H → Prop} {a1 : Value} {x : Nat} : gm_W E d 77 0 [.ref x, a1] st h Q ↔ gm_W E d 77 1 [.ref x, a1] (.ref x :: st) h Q := gw_loc m77 f77_0 rfl rfl
theorem r77_0n {E : Nat → Value} {d : Nat} {st : List Value} {h : gm_H} {Q : gm_R → gm_H → Prop} {a1 : Value}  : gm_W E d 77 0 [.null, a1] st h Q ↔ gm_W E d 77 1 [.null, a1] (.null :: st) h Q := gw_loc m77 f77_0 rfl rfl
theorem f77_1 : gm_ft 77 1 = some (.getfield 72, 3) := by decide +kernel
theorem r77_1 {E : Nat → Value} {d : Nat} {st : List Value} {h : gm_H} {Q : gm_R → gm_H → Prop} {lv : List Value} {a : Nat} (hk : gm_kd h a = 0) : gm_W E d 77 1 lv (.ref a :: st) h Q ↔ gm_W E d 77 4 lv (gm_fv h a 9 :: st) h Q := gw_rd m77 f77_1 rfl rfl rfl rfl (gs_get k0_72 hk (by decide))
theorem f77_4 : gm_ft 77 4 = some (.sipush 234, 3) := by decide +kernel
theorem r77_4 {E : Nat → Value} {d : Nat} {st : List Value} {h : gm_H} {Q : gm_R → gm_H → Prop} {lv : List Value} : gm_W E d 77 4 lv st h Q ↔ gm_W E d 77 7 lv (.int (234 : Int32) :: st) h Q := gw_pure m77 f77_4 rfl
theorem f77_7 : gm_ft 77 7 = some (.if_icmp .lt 10, 3) := by decide +kernel
theorem r77_7 {E : Nat → Value} {d : Nat} {st : List Value} {h : gm_H} {Q : gm_R → gm_H → Prop} {lv : List Value} {x y : Int32} : gm_W E d 77 7 lv (.int y :: .int x :: st) h Q ↔ (if x < y then gm_W E d 77 17 lv st h Q else gm_W E d 77 10 lv st h Q) := (gw_br m77 f77_7 rfl rfl rfl rfl).trans gw_if
theorem f77_10 : gm_ft 77 10 = some (.aload_n 0, 1) := by decide +kernel
theorem r77_10 {E : Nat → Value} {d : Nat} {st : List Value} {h : gm_H} {Q : gm_R → gm_H → Prop} {a1 : Value} {x : Nat} : gm_W E d 77 10 [.ref x, a1] st h Q ↔ gm_W E d 77 11 [.ref x, a1] (.ref x :: st) h Q := gw_loc m77 f77_10 rfl rfl
theorem r77_10n {E : Nat → Value} {d : Nat} {st : List Value} {h : gm_H} {Q : gm_R → gm_H → Prop} {a1 : Value}  : gm_W E d 77 10 [.null, a1] st h Q ↔ gm_W E d 77 11 [.null, a1] (.null :: st) h Q := gw_loc m77 f77_10 rfl rfl
theorem f77_11 : gm_ft 77 11 = some (.bipush (-8), 2) := by decide +kernel
theorem r77_11 {E : Nat → Value} {d : Nat} {st : List Value} {h : gm_H} {Q : gm_R → gm_H → Prop} {lv : List Value} : gm_W E d 77 11 lv st h Q ↔ gm_W E d 77 13 lv (.int (-8 : Int32) :: st) h Q := gw_pure m77 f77_11 rfl
theorem f77_13 : gm_ft 77 13 = some (.invokevirtual 160, 3) := by decide +kernel
theorem c77_13 {E : Nat → Value} {d : Nat} {st : List Value} {h : gm_H} {Q : gm_R → gm_H → Prop} {lv : List Value} {b0 : Int32} {a : Nat} {Qc : gm_R → gm_H → Prop} (hs : (st.map fun v => v.category).sum ≤ 8) (hr : gm_kd h a = 0) (hd : 1 ≤ d) (hc : gm_Ca E (d - 1) 66 [.ref a, .int b0] h Qc) (kn : ∀ (v9 : Option Value) (h9 : gm_H), Qc (.inl v9) h9 → gm_W E d 77 16 lv (v9.toList ++ st) h9 Q) (kx : ∀ (x9 : Nat) (h9 : gm_H), Qc (.inr x9) h9 → Q (.inr x9) h9) : gm_W E d 77 13 lv (.int b0 :: .ref a :: st) h Q := gw_call (gn_call m77 f77_13 rfl rfl rfl rfl rfl rfl rfl (gs_virt (bs := [.int b0]) (w := 206) (L := 2) rfl rfl rfl rfl hs (by simp [gm_en1]) hr (by decide)) (by decide)) m77 rfl rfl hd hc kn kx
theorem f77_16 : gm_ft 77 16 = some (.ireturn, 1) := by decide +kernel
theorem r77_16 {E : Nat → Value} {d : Nat} {h : gm_H} {Q : gm_R → gm_H → Prop} {lv : List Value} {x : Int32} : gm_W E d 77 16 lv [.int x] h Q ↔ Q (.inl (some (.int x))) h := gw_ret m77 f77_16 rfl rfl rfl rfl rfl rfl rfl rfl (by unfold gm_rt; dsimp only; rw [if_pos ⟨rfl, rfl⟩])
theorem f77_17 : gm_ft 77 17 = some (.aload_n 0, 1) := by decide +kernel
theorem r77_17 {E : Nat → Value} {d : Nat} {st : List Value} {h : gm_H} {Q : gm_R → gm_H → Prop} {a1 : Value} {x : Nat} : gm_W E d 77 17 [.ref x, a1] st h Q ↔ gm_W E d 77 18 [.ref x, a1] (.ref x :: st) h Q := gw_loc m77 f77_17 rfl rfl
theorem r77_17n {E : Nat → Value} {d : Nat} {st : List Value} {h : gm_H} {Q : gm_R → gm_H → Prop} {a1 : Value}  : gm_W E d 77 17 [.null, a1] st h Q ↔ gm_W E d 77 18 [.null, a1] (.null :: st) h Q := gw_loc m77 f77_17 rfl rfl
theorem f77_18 : gm_ft 77 18 = some (.getfield 21, 3) := by decide +kernel
theorem r77_18 {E : Nat → Value} {d : Nat} {st : List Value} {h : gm_H} {Q : gm_R → gm_H → Prop} {lv : List Value} {a : Nat} (hk : gm_kd h a = 0) : gm_W E d 77 18 lv (.ref a :: st) h Q ↔ gm_W E d 77 21 lv (gm_fv h a 8 :: st) h Q := gw_rd m77 f77_18 rfl rfl rfl rfl (gs_get k0_21 hk (by decide))
theorem f77_21 : gm_ft 77 21 = some (.aload_n 0, 1) := by decide +kernel
theorem r77_21 {E : Nat → Value} {d : Nat} {st : List Value} {h : gm_H} {Q : gm_R → gm_H → Prop} {a1 : Value} {x : Nat} : gm_W E d 77 21 [.ref x, a1] st h Q ↔ gm_W E d 77 22 [.ref x, a1] (.ref x :: st) h Q := gw_loc m77 f77_21 rfl rfl
theorem r77_21n {E : Nat → Value} {d : Nat} {st : List Value} {h : gm_H} {Q : gm_R → gm_H → Prop} {a1 : Value}  : gm_W E d 77 21 [.null, a1] st h Q ↔ gm_W E d 77 22 [.null, a1] (.null :: st) h Q := gw_loc m77 f77_21 rfl rfl
theorem f77_22 : gm_ft 77 22 = some (.getfield 72, 3) := by decide +kernel
theorem r77_22 {E : Nat → Value} {d : Nat} {st : List Value} {h : gm_H} {Q : gm_R → gm_H → Prop} {lv : List Value} {a : Nat} (hk : gm_kd h a = 0) : gm_W E d 77 22 lv (.ref a :: st) h Q ↔ gm_W E d 77 25 lv (gm_fv h a 9 :: st) h Q := gw_rd m77 f77_22 rfl rfl rfl rfl (gs_get k0_72 hk (by decide))
theorem f77_25 : gm_ft 77 25 = some (.aload_n 1, 1) := by decide +kernel
theorem r77_25 {E : Nat → Value} {d : Nat} {st : List Value} {h : gm_H} {Q : gm_R → gm_H → Prop} {a0 : Value} {x : Nat} : gm_W E d 77 25 [a0, .ref x] st h Q ↔ gm_W E d 77 26 [a0, .ref x] (.ref x :: st) h Q := gw_loc m77 f77_25 rfl rfl
theorem r77_25n {E : Nat → Value} {d : Nat} {st : List Value} {h : gm_H} {Q : gm_R → gm_H → Prop} {a0 : Value}  : gm_W E d 77 25 [a0, .null] st h Q ↔ gm_W E d 77 26 [a0, .null] (.null :: st) h Q := gw_loc m77 f77_25 rfl rfl
theorem f77_26 : gm_ft 77 26 = some (.aastore, 1) := by decide +kernel
theorem r77_26 {E : Nat → Value} {d : Nat} {st : List Value} {h : gm_H} {Q : gm_R → gm_H → Prop} {lv : List Value} {a b j : Nat} (hb : gm_kd h b < 6) (hk : gm_kd h a = 100 + gm_cmp (gm_kd h b) ∧ gm_cmp (gm_kd h b) < 99) (hj : j < gm_ln h a) (hl : gm_ln h a < 2 ^ 31) : gm_W E d 77 26 lv (.ref b :: .int (nI j) :: .ref a :: st) h Q ↔ gm_W E d 77 27 lv st (gm_sf h a j (.ref b)) Q := gw_wr m77 f77_26 rfl rfl rfl rfl rfl (gs_ast hb hk hj hl)
theorem r77_26n {E : Nat → Value} {d : Nat} {st : List Value} {h : gm_H} {Q : gm_R → gm_H → Prop} {lv : List Value} {a j : Nat} (hk : gm_kd h a = 110 ∨ gm_kd h a = 111 ∨ gm_kd h a = 112) (hj : j < gm_ln h a) (hl : gm_ln h a < 2 ^ 31) : gm_W E d 77 26 lv (.null :: .int (nI j) :: .ref a :: st) h Q ↔ gm_W E d 77 27 lv st (gm_sf h a j .null) Q := gw_wr m77 f77_26 rfl rfl rfl rfl rfl (gs_astn hk hj hl)
theorem f77_27 : gm_ft 77 27 = some (.aload_n 0, 1) := by decide +kernel
theorem r77_27 {E : Nat → Value} {d : Nat} {st : List Value} {h : gm_H} {Q : gm_R → gm_H → Prop} {a1 : Value} {x : Nat} : gm_W E d 77 27 [.ref x, a1] st h Q ↔ gm_W E d 77 28 [.ref x, a1] (.ref x :: st) h Q := gw_loc m77 f77_27 rfl rfl
theorem r77_27n {E : Nat → Value} {d : Nat} {st : List Value} {h : gm_H} {Q : gm_R → gm_H → Prop} {a1 : Value}  : gm_W E d 77 27 [.null, a1] st h Q ↔ gm_W E d 77 28 [.null, a1] (.null :: st) h Q := gw_loc m77 f77_27 rfl rfl
theorem f77_28 : gm_ft 77 28 = some (.dup, 1) := by decide +kernel
theorem r77_28 {E : Nat → Value} {d : Nat} {st : List Value} {h : gm_H} {Q : gm_R → gm_H → Prop} {lv : List Value} {a : Nat} : gm_W E d 77 28 lv (.ref a :: st) h Q ↔ gm_W E d 77 29 lv (.ref a :: .ref a :: st) h Q := gw_pure m77 f77_28 rfl
theorem r77_28i {E : Nat → Value} {d : Nat} {st : List Value} {h : gm_H} {Q : gm_R → gm_H → Prop} {lv : List Value} {x : Int32} : gm_W E d 77 28 lv (.int x :: st) h Q ↔ gm_W E d 77 29 lv (.int x :: .int x :: st) h Q := gw_pure m77 f77_28 rfl
theorem f77_29 : gm_ft 77 29 = some (.getfield 72, 3) := by decide +kernel
theorem r77_29 {E : Nat → Value} {d : Nat} {st : List Value} {h : gm_H} {Q : gm_R → gm_H → Prop} {lv : List Value} {a : Nat} (hk : gm_kd h a = 0) : gm_W E d 77 29 lv (.ref a :: st) h Q ↔ gm_W E d 77 32 lv (gm_fv h a 9 :: st) h Q := gw_rd m77 f77_29 rfl rfl rfl rfl (gs_get k0_72 hk (by decide))
theorem f77_32 : gm_ft 77 32 = some (.iconst 1, 1) := by decide +kernel
theorem r77_32 {E : Nat → Value} {d : Nat} {st : List Value} {h : gm_H} {Q : gm_R → gm_H → Prop} {lv : List Value} : gm_W E d 77 32 lv st h Q ↔ gm_W E d 77 33 lv (.int (1 : Int32) :: st) h Q := gw_pure m77 f77_32 rfl
theorem f77_33 : gm_ft 77 33 = some (.iadd, 1) := by decide +kernel
theorem r77_33 {E : Nat → Value} {d : Nat} {st : List Value} {h : gm_H} {Q : gm_R → gm_H → Prop} {lv : List Value} {x y : Int32} : gm_W E d 77 33 lv (.int y :: .int x :: st) h Q ↔ gm_W E d 77 34 lv (.int (x + y) :: st) h Q := gw_pure m77 f77_33 rfl
theorem f77_34 : gm_ft 77 34 = some (.putfield 72, 3) := by decide +kernel
theorem r77_34 {E : Nat → Value} {d : Nat} {st : List Value} {h : gm_H} {Q : gm_R → gm_H → Prop} {lv : List Value} {a : Nat} {x : Int32} (hk : gm_kd h a = 0) : gm_W E d 77 34 lv (.int x :: .ref a :: st) h Q ↔ gm_W E d 77 37 lv st (gm_sf h a 9 (.int x)) Q := gw_wr m77 f77_34 rfl rfl rfl rfl rfl (gs_put k0_72 hk (by decide) (by decide) ⟨rfl, rfl⟩ (by decide))
theorem f77_37 : gm_ft 77 37 = some (.aload_n 0, 1) := by decide +kernel
theorem r77_37 {E : Nat → Value} {d : Nat} {st : List Value} {h : gm_H} {Q : gm_R → gm_H → Prop} {a1 : Value} {x : Nat} : gm_W E d 77 37 [.ref x, a1] st h Q ↔ gm_W E d 77 38 [.ref x, a1] (.ref x :: st) h Q := gw_loc m77 f77_37 rfl rfl
theorem r77_37n {E : Nat → Value} {d : Nat} {st : List Value} {h : gm_H} {Q : gm_R → gm_H → Prop} {a1 : Value}  : gm_W E d 77 37 [.null, a1] st h Q ↔ gm_W E d 77 38 [.null, a1] (.null :: st) h Q := gw_loc m77 f77_37 rfl rfl
theorem f77_38 : gm_ft 77 38 = some (.getfield 72, 3) := by decide +kernel
theorem r77_38 {E : Nat → Value} {d : Nat} {st : List Value} {h : gm_H} {Q : gm_R → gm_H → Prop} {lv : List Value} {a : Nat} (hk : gm_kd h a = 0) : gm_W E d 77 38 lv (.ref a :: st) h Q ↔ gm_W E d 77 41 lv (gm_fv h a 9 :: st) h Q := gw_rd m77 f77_38 rfl rfl rfl rfl (gs_get k0_72 hk (by decide))
theorem f77_41 : gm_ft 77 41 = some (.iconst 1, 1) := by decide +kernel
theorem r77_41 {E : Nat → Value} {d : Nat} {st : List Value} {h : gm_H} {Q : gm_R → gm_H → Prop} {lv : List Value} : gm_W E d 77 41 lv st h Q ↔ gm_W E d 77 42 lv (.int (1 : Int32) :: st) h Q := gw_pure m77 f77_41 rfl
theorem f77_42 : gm_ft 77 42 = some (.isub, 1) := by decide +kernel
theorem r77_42 {E : Nat → Value} {d : Nat} {st : List Value} {h : gm_H} {Q : gm_R → gm_H → Prop} {lv : List Value} {x y : Int32} : gm_W E d 77 42 lv (.int y :: .int x :: st) h Q ↔ gm_W E d 77 43 lv (.int (x - y) :: st) h Q := gw_pure m77 f77_42 rfl
theorem f77_43 : gm_ft 77 43 = some (.ireturn, 1) := by decide +kernel
theorem r77_43 {E : Nat → Value} {d : Nat} {h : gm_H} {Q : gm_R → gm_H → Prop} {lv : List Value} {x : Int32} : gm_W E d 77 43 lv [.int x] h Q ↔ Q (.inl (some (.int x))) h := gw_ret m77 f77_43 rfl rfl rfl rfl rfl rfl rfl rfl (by unfold gm_rt; dsimp only; rw [if_pos ⟨rfl, rfl⟩])
/-! GraphReader.addEntry(I)I -/
theorem m78 : gm_mt[78]? = some (⟨"GraphReader", "addEntry", "(I)I"⟩, prog_1_method_28_code, 2, (some .int), [], 0, 1) := rfl
theorem f78_0 : gm_ft 78 0 = some (.aload_n 0, 1) := by decide +kernel
theorem r78_0 {E : Nat → Value} {d : Nat} {st : List Value} {h : gm_H} {Q : gm_R → gm_H → Prop} {a1 : Value} {x : Nat} : gm_W E d 78 0 [.ref x, a1] st h Q ↔ gm_W E d 78 1 [.ref x, a1] (.ref x :: st) h Q := gw_loc m78 f78_0 rfl rfl
theorem r78_0n {E : Nat → Value} {d : Nat} {st : List Value} {h : gm_H} {Q : gm_R → gm_H → Prop} {a1 : Value}  : gm_W E d 78 0 [.null, a1] st h Q ↔ gm_W E d 78 1 [.null, a1] (.null :: st) h Q := gw_loc m78 f78_0 rfl rfl
theorem f78_1 : gm_ft 78 1 = some (.getfield 28, 3) := by decide +kernel
theorem r78_1 {E : Nat → Value} {d : Nat} {st : List Value} {h : gm_H} {Q : gm_R → gm_H → Prop} {lv : List Value} {a : Nat} (hk : gm_kd h a = 0) : gm_W E d 78 1 lv (.ref a :: st) h Q ↔ gm_W E d 78 4 lv (gm_fv h a 10 :: st) h Q := gw_rd m78 f78_1 rfl rfl rfl rfl (gs_get k0_28 hk (by decide))
theorem f78_4 : gm_ft 78 4 = some (.getfield 113, 3) := by decide +kernel
theorem r78_4 {E : Nat → Value} {d : Nat} {st : List Value} {h : gm_H} {Q : gm_R → gm_H → Prop} {lv : List Value} {a : Nat} (hk : gm_kd h a = 2) : gm_W E d 78 4 lv (.ref a :: st) h Q ↔ gm_W E d 78 7 lv (gm_fv h a 3 :: st) h Q := gw_rd m78 f78_4 rfl rfl rfl rfl (gs_get k0_113 hk (by decide))
theorem f78_7 : gm_ft 78 7 = some (.sipush 234, 3) := by decide +kernel
theorem r78_7 {E : Nat → Value} {d : Nat} {st : List Value} {h : gm_H} {Q : gm_R → gm_H → Prop} {lv : List Value} : gm_W E d 78 7 lv st h Q ↔ gm_W E d 78 10 lv (.int (234 : Int32) :: st) h Q := gw_pure m78 f78_7 rfl
theorem f78_10 : gm_ft 78 10 = some (.if_icmp .lt 10, 3) := by decide +kernel
theorem r78_10 {E : Nat → Value} {d : Nat} {st : List Value} {h : gm_H} {Q : gm_R → gm_H → Prop} {lv : List Value} {x y : Int32} : gm_W E d 78 10 lv (.int y :: .int x :: st) h Q ↔ (if x < y then gm_W E d 78 20 lv st h Q else gm_W E d 78 13 lv st h Q) := (gw_br m78 f78_10 rfl rfl rfl rfl).trans gw_if
theorem f78_13 : gm_ft 78 13 = some (.aload_n 0, 1) := by decide +kernel
theorem r78_13 {E : Nat → Value} {d : Nat} {st : List Value} {h : gm_H} {Q : gm_R → gm_H → Prop} {a1 : Value} {x : Nat} : gm_W E d 78 13 [.ref x, a1] st h Q ↔ gm_W E d 78 14 [.ref x, a1] (.ref x :: st) h Q := gw_loc m78 f78_13 rfl rfl
theorem r78_13n {E : Nat → Value} {d : Nat} {st : List Value} {h : gm_H} {Q : gm_R → gm_H → Prop} {a1 : Value}  : gm_W E d 78 13 [.null, a1] st h Q ↔ gm_W E d 78 14 [.null, a1] (.null :: st) h Q := gw_loc m78 f78_13 rfl rfl
theorem f78_14 : gm_ft 78 14 = some (.bipush (-8), 2) := by decide +kernel
theorem r78_14 {E : Nat → Value} {d : Nat} {st : List Value} {h : gm_H} {Q : gm_R → gm_H → Prop} {lv : List Value} : gm_W E d 78 14 lv st h Q ↔ gm_W E d 78 16 lv (.int (-8 : Int32) :: st) h Q := gw_pure m78 f78_14 rfl
theorem f78_16 : gm_ft 78 16 = some (.invokevirtual 160, 3) := by decide +kernel
theorem c78_16 {E : Nat → Value} {d : Nat} {st : List Value} {h : gm_H} {Q : gm_R → gm_H → Prop} {lv : List Value} {b0 : Int32} {a : Nat} {Qc : gm_R → gm_H → Prop} (hs : (st.map fun v => v.category).sum ≤ 8) (hr : gm_kd h a = 0) (hd : 1 ≤ d) (hc : gm_Ca E (d - 1) 66 [.ref a, .int b0] h Qc) (kn : ∀ (v9 : Option Value) (h9 : gm_H), Qc (.inl v9) h9 → gm_W E d 78 19 lv (v9.toList ++ st) h9 Q) (kx : ∀ (x9 : Nat) (h9 : gm_H), Qc (.inr x9) h9 → Q (.inr x9) h9) : gm_W E d 78 16 lv (.int b0 :: .ref a :: st) h Q := gw_call (gn_call m78 f78_16 rfl rfl rfl rfl rfl rfl rfl (gs_virt (bs := [.int b0]) (w := 206) (L := 2) rfl rfl rfl rfl hs (by simp [gm_en1]) hr (by decide)) (by decide)) m78 rfl rfl hd hc kn kx
theorem f78_19 : gm_ft 78 19 = some (.ireturn, 1) := by decide +kernel
theorem r78_19 {E : Nat → Value} {d : Nat} {h : gm_H} {Q : gm_R → gm_H → Prop} {lv : List Value} {x : Int32} : gm_W E d 78 19 lv [.int x] h Q ↔ Q (.inl (some (.int x))) h := gw_ret m78 f78_19 rfl rfl rfl rfl rfl rfl rfl rfl (by unfold gm_rt; dsimp only; rw [if_pos ⟨rfl, rfl⟩])
theorem f78_20 : gm_ft 78 20 = some (.aload_n 0, 1) := by decide +kernel
theorem r78_20 {E : Nat → Value} {d : Nat} {st : List Value} {h : gm_H} {Q : gm_R → gm_H → Prop} {a1 : Value} {x : Nat} : gm_W E d 78 20 [.ref x, a1] st h Q ↔ gm_W E d 78 21 [.ref x, a1] (.ref x :: st) h Q := gw_loc m78 f78_20 rfl rfl
theorem r78_20n {E : Nat → Value} {d : Nat} {st : List Value} {h : gm_H} {Q : gm_R → gm_H → Prop} {a1 : Value}  : gm_W E d 78 20 [.null, a1] st h Q ↔ gm_W E d 78 21 [.null, a1] (.null :: st) h Q := gw_loc m78 f78_20 rfl rfl
theorem f78_21 : gm_ft 78 21 = some (.getfield 28, 3) := by decide +kernel
theorem r78_21 {E : Nat → Value} {d : Nat} {st : List Value} {h : gm_H} {Q : gm_R → gm_H → Prop} {lv : List Value} {a : Nat} (hk : gm_kd h a = 0) : gm_W E d 78 21 lv (.ref a :: st) h Q ↔ gm_W E d 78 24 lv (gm_fv h a 10 :: st) h Q := gw_rd m78 f78_21 rfl rfl rfl rfl (gs_get k0_28 hk (by decide))
theorem f78_24 : gm_ft 78 24 = some (.iload_n 1, 1) := by decide +kernel
theorem r78_24 {E : Nat → Value} {d : Nat} {st : List Value} {h : gm_H} {Q : gm_R → gm_H → Prop} {a0 : Value} {x : Int32} : gm_W E d 78 24 [a0, .int x] st h Q ↔ gm_W E d 78 25 [a0, .int x] (.int x :: st) h Q := gw_loc m78 f78_24 rfl rfl
theorem f78_25 : gm_ft 78 25 = some (.invokevirtual 185, 3) := by decide +kernel
theorem c78_25 {E : Nat → Value} {d : Nat} {st : List Value} {h : gm_H} {Q : gm_R → gm_H → Prop} {lv : List Value} {b0 : Int32} {a : Nat} {Qc : gm_R → gm_H → Prop} (hs : (st.map fun v => v.category).sum ≤ 8) (hr : gm_kd h a = 2) (hd : 1 ≤ d) (hc : gm_Ca E (d - 1) 113 [.ref a, .int b0] h Qc) (kn : ∀ (v9 : Option Value) (h9 : gm_H), Qc (.inl v9) h9 → gm_W E d 78 28 lv (v9.toList ++ st) h9 Q) (kx : ∀ (x9 : Nat) (h9 : gm_H), Qc (.inr x9) h9 → Q (.inr x9) h9) : gm_W E d 78 25 lv (.int b0 :: .ref a :: st) h Q := gw_call (gn_call m78 f78_25 rfl rfl rfl rfl rfl rfl rfl (gs_virt (bs := [.int b0]) (w := 352) (L := 2) rfl rfl rfl rfl hs (by simp [gm_en1]) hr (by decide)) (by decide)) m78 rfl rfl hd hc kn kx
theorem f78_28 : gm_ft 78 28 = some (.ireturn, 1) := by decide +kernel
theorem r78_28 {E : Nat → Value} {d : Nat} {h : gm_H} {Q : gm_R → gm_H → Prop} {lv : List Value} {x : Int32} : gm_W E d 78 28 lv [.int x] h Q ↔ Q (.inl (some (.int x))) h := gw_ret m78 f78_28 rfl rfl rfl rfl rfl rfl rfl rfl (by unfold gm_rt; dsimp only; rw [if_pos ⟨rfl, rfl⟩])
/-! GraphReader.askRoom(I)V -/
theorem m79 : gm_mt[79]? = some (⟨"GraphReader", "askRoom", "(I)V"⟩, prog_1_method_29_code, 2, none, [], 0, 1) := rfl
theorem f79_0 : gm_ft 79 0 = some (.iload_n 1, 1) := by decide +kernel
theorem r79_0 {E : Nat → Value} {d : Nat} {st : List Value} {h : gm_H} {Q : gm_R → gm_H → Prop} {a0 : Value} {x : Int32} : gm_W E d 79 0 [a0, .int x] st h Q ↔ gm_W E d 79 1 [a0, .int x] (.int x :: st) h Q := gw_loc m79 f79_0 rfl rfl
theorem f79_1 : gm_ft 79 1 = some (.bipush 8, 2) := by decide +kernel
theorem r79_1 {E : Nat → Value} {d : Nat} {st : List Value} {h : gm_H} {Q : gm_R → gm_H → Prop} {lv : List Value} : gm_W E d 79 1 lv st h Q ↔ gm_W E d 79 3 lv (.int (8 : Int32) :: st) h Q := gw_pure m79 f79_1 rfl
theorem f79_3 : gm_ft 79 3 = some (.if_icmp .gt 15, 3) := by decide +kernel
theorem r79_3 {E : Nat → Value} {d : Nat} {st : List Value} {h : gm_H} {Q : gm_R → gm_H → Prop} {lv : List Value} {x y : Int32} : gm_W E d 79 3 lv (.int y :: .int x :: st) h Q ↔ (if y < x then gm_W E d 79 18 lv st h Q else gm_W E d 79 6 lv st h Q) := (gw_br m79 f79_3 rfl rfl rfl rfl).trans gw_if
theorem f79_6 : gm_ft 79 6 = some (.aload_n 0, 1) := by decide +kernel
theorem r79_6 {E : Nat → Value} {d : Nat} {st : List Value} {h : gm_H} {Q : gm_R → gm_H → Prop} {a1 : Value} {x : Nat} : gm_W E d 79 6 [.ref x, a1] st h Q ↔ gm_W E d 79 7 [.ref x, a1] (.ref x :: st) h Q := gw_loc m79 f79_6 rfl rfl
theorem r79_6n {E : Nat → Value} {d : Nat} {st : List Value} {h : gm_H} {Q : gm_R → gm_H → Prop} {a1 : Value}  : gm_W E d 79 6 [.null, a1] st h Q ↔ gm_W E d 79 7 [.null, a1] (.null :: st) h Q := gw_loc m79 f79_6 rfl rfl
theorem f79_7 : gm_ft 79 7 = some (.getfield 28, 3) := by decide +kernel
theorem r79_7 {E : Nat → Value} {d : Nat} {st : List Value} {h : gm_H} {Q : gm_R → gm_H → Prop} {lv : List Value} {a : Nat} (hk : gm_kd h a = 0) : gm_W E d 79 7 lv (.ref a :: st) h Q ↔ gm_W E d 79 10 lv (gm_fv h a 10 :: st) h Q := gw_rd m79 f79_7 rfl rfl rfl rfl (gs_get k0_28 hk (by decide))
theorem f79_10 : gm_ft 79 10 = some (.invokevirtual 156, 3) := by decide +kernel
theorem c79_10 {E : Nat → Value} {d : Nat} {st : List Value} {h : gm_H} {Q : gm_R → gm_H → Prop} {lv : List Value} {a : Nat} {Qc : gm_R → gm_H → Prop} (hs : (st.map fun v => v.category).sum ≤ 8) (hr : gm_kd h a = 2) (hd : 1 ≤ d) (hc : gm_Ca E (d - 1) 111 [.ref a] h Qc) (kn : ∀ (v9 : Option Value) (h9 : gm_H), Qc (.inl v9) h9 → gm_W E d 79 13 lv (v9.toList ++ st) h9 Q) (kx : ∀ (x9 : Nat) (h9 : gm_H), Qc (.inr x9) h9 → Q (.inr x9) h9) : gm_W E d 79 10 lv (.ref a :: st) h Q := gw_call (gn_call m79 f79_10 rfl rfl rfl rfl rfl rfl rfl (gs_virt (bs := []) (w := 202) (L := 1) rfl rfl rfl rfl hs (by simp [gm_en1]) hr (by decide)) (by decide)) m79 rfl rfl hd hc kn kx
theorem f79_13 : gm_ft 79 13 = some (.bipush 60, 2) := by decide +kernel
theorem r79_13 {E : Nat → Value} {d : Nat} {st : List Value} {h : gm_H} {Q : gm_R → gm_H → Prop} {lv : List Value} : gm_W E d 79 13 lv st h Q ↔ gm_W E d 79 15 lv (.int (60 : Int32) :: st) h Q := gw_pure m79 f79_13 rfl
theorem f79_15 : gm_ft 79 15 = some (.if_icmp .le 10, 3) := by decide +kernel
theorem r79_15 {E : Nat → Value} {d : Nat} {st : List Value} {h : gm_H} {Q : gm_R → gm_H → Prop} {lv : List Value} {x y : Int32} : gm_W E d 79 15 lv (.int y :: .int x :: st) h Q ↔ (if x ≤ y then gm_W E d 79 25 lv st h Q else gm_W E d 79 18 lv st h Q) := (gw_br m79 f79_15 rfl rfl rfl rfl).trans gw_if
theorem f79_18 : gm_ft 79 18 = some (.aload_n 0, 1) := by decide +kernel
theorem r79_18 {E : Nat → Value} {d : Nat} {st : List Value} {h : gm_H} {Q : gm_R → gm_H → Prop} {a1 : Value} {x : Nat} : gm_W E d 79 18 [.ref x, a1] st h Q ↔ gm_W E d 79 19 [.ref x, a1] (.ref x :: st) h Q := gw_loc m79 f79_18 rfl rfl
theorem r79_18n {E : Nat → Value} {d : Nat} {st : List Value} {h : gm_H} {Q : gm_R → gm_H → Prop} {a1 : Value}  : gm_W E d 79 18 [.null, a1] st h Q ↔ gm_W E d 79 19 [.null, a1] (.null :: st) h Q := gw_loc m79 f79_18 rfl rfl
theorem f79_19 : gm_ft 79 19 = some (.bipush (-8), 2) := by decide +kernel
theorem r79_19 {E : Nat → Value} {d : Nat} {st : List Value} {h : gm_H} {Q : gm_R → gm_H → Prop} {lv : List Value} : gm_W E d 79 19 lv st h Q ↔ gm_W E d 79 21 lv (.int (-8 : Int32) :: st) h Q := gw_pure m79 f79_19 rfl
theorem f79_21 : gm_ft 79 21 = some (.invokevirtual 160, 3) := by decide +kernel
theorem c79_21 {E : Nat → Value} {d : Nat} {st : List Value} {h : gm_H} {Q : gm_R → gm_H → Prop} {lv : List Value} {b0 : Int32} {a : Nat} {Qc : gm_R → gm_H → Prop} (hs : (st.map fun v => v.category).sum ≤ 8) (hr : gm_kd h a = 0) (hd : 1 ≤ d) (hc : gm_Ca E (d - 1) 66 [.ref a, .int b0] h Qc) (kn : ∀ (v9 : Option Value) (h9 : gm_H), Qc (.inl v9) h9 → gm_W E d 79 24 lv (v9.toList ++ st) h9 Q) (kx : ∀ (x9 : Nat) (h9 : gm_H), Qc (.inr x9) h9 → Q (.inr x9) h9) : gm_W E d 79 21 lv (.int b0 :: .ref a :: st) h Q := gw_call (gn_call m79 f79_21 rfl rfl rfl rfl rfl rfl rfl (gs_virt (bs := [.int b0]) (w := 206) (L := 2) rfl rfl rfl rfl hs (by simp [gm_en1]) hr (by decide)) (by decide)) m79 rfl rfl hd hc kn kx
theorem f79_24 : gm_ft 79 24 = some (.pop, 1) := by decide +kernel
theorem r79_24 {E : Nat → Value} {d : Nat} {st : List Value} {h : gm_H} {Q : gm_R → gm_H → Prop} {lv : List Value} {x : Int32} : gm_W E d 79 24 lv (.int x :: st) h Q ↔ gm_W E d 79 25 lv st h Q := gw_pure m79 f79_24 rfl
theorem r79_24a {E : Nat → Value} {d : Nat} {st : List Value} {h : gm_H} {Q : gm_R → gm_H → Prop} {lv : List Value} {a : Nat} : gm_W E d 79 24 lv (.ref a :: st) h Q ↔ gm_W E d 79 25 lv st h Q := gw_pure m79 f79_24 rfl
theorem r79_24n {E : Nat → Value} {d : Nat} {st : List Value} {h : gm_H} {Q : gm_R → gm_H → Prop} {lv : List Value} : gm_W E d 79 24 lv (.null :: st) h Q ↔ gm_W E d 79 25 lv st h Q := gw_pure m79 f79_24 rfl
theorem f79_25 : gm_ft 79 25 = some (.return_, 1) := by decide +kernel
theorem r79_25 {E : Nat → Value} {d : Nat} {h : gm_H} {Q : gm_R → gm_H → Prop} {lv : List Value} : gm_W E d 79 25 lv [] h Q ↔ Q (.inl none) h := gw_ret m79 f79_25 rfl rfl rfl rfl rfl rfl rfl rfl rfl
/-! GraphReader.askLimits(LGraphReader$Descriptor;II)V -/
theorem m80 : gm_mt[80]? = some (⟨"GraphReader", "askLimits", "(LGraphReader$Descriptor;II)V"⟩, prog_1_method_30_code, 5, none, [], 0, 1) := rfl
theorem f80_0 : gm_ft 80 0 = some (.aload_n 1, 1) := by decide +kernel
theorem r80_0 {E : Nat → Value} {d : Nat} {st : List Value} {h : gm_H} {Q : gm_R → gm_H → Prop} {a0 a2 a3 a4 : Value} {x : Nat} : gm_W E d 80 0 [a0, .ref x, a2, a3, a4] st h Q ↔ gm_W E d 80 1 [a0, .ref x, a2, a3, a4] (.ref x :: st) h Q := gw_loc m80 f80_0 rfl rfl
theorem r80_0n {E : Nat → Value} {d : Nat} {st : List Value} {h : gm_H} {Q : gm_R → gm_H → Prop} {a0 a2 a3 a4 : Value}  : gm_W E d 80 0 [a0, .null, a2, a3, a4] st h Q ↔ gm_W E d 80 1 [a0, .null, a2, a3, a4] (.null :: st) h Q := gw_loc m80 f80_0 rfl rfl
theorem f80_1 : gm_ft 80 1 = some (.getfield 188, 3) := by decide +kernel
theorem r80_1 {E : Nat → Value} {d : Nat} {st : List Value} {h : gm_H} {Q : gm_R → gm_H → Prop} {lv : List Value} {a : Nat} (hk : gm_kd h a = 1) : gm_W E d 80 1 lv (.ref a :: st) h Q ↔ gm_W E d 80 4 lv (gm_fv h a 9 :: st) h Q := gw_rd m80 f80_1 rfl rfl rfl rfl (gs_get k0_188 hk (by decide))
theorem f80_4 : gm_ft 80 4 = some (.ifnull 17, 3) := by decide +kernel
theorem r80_4n {E : Nat → Value} {d : Nat} {st : List Value} {h : gm_H} {Q : gm_R → gm_H → Prop} {lv : List Value} : gm_W E d 80 4 lv (.null :: st) h Q ↔ gm_W E d 80 21 lv st h Q := gw_brT m80 f80_4 rfl rfl rfl rfl
theorem r80_4 {E : Nat → Value} {d : Nat} {st : List Value} {h : gm_H} {Q : gm_R → gm_H → Prop} {lv : List Value} {a : Nat} : gm_W E d 80 4 lv (.ref a :: st) h Q ↔ gm_W E d 80 7 lv st h Q := gw_brF m80 f80_4 rfl rfl rfl rfl
theorem f80_7 : gm_ft 80 7 = some (.aload_n 1, 1) := by decide +kernel
theorem r80_7 {E : Nat → Value} {d : Nat} {st : List Value} {h : gm_H} {Q : gm_R → gm_H → Prop} {a0 a2 a3 a4 : Value} {x : Nat} : gm_W E d 80 7 [a0, .ref x, a2, a3, a4] st h Q ↔ gm_W E d 80 8 [a0, .ref x, a2, a3, a4] (.ref x :: st) h Q := gw_loc m80 f80_7 rfl rfl
theorem r80_7n {E : Nat → Value} {d : Nat} {st : List Value} {h : gm_H} {Q : gm_R → gm_H → Prop} {a0 a2 a3 a4 : Value}  : gm_W E d 80 7 [a0, .null, a2, a3, a4] st h Q ↔ gm_W E d 80 8 [a0, .null, a2, a3, a4] (.null :: st) h Q := gw_loc m80 f80_7 rfl rfl
theorem f80_8 : gm_ft 80 8 = some (.getfield 188, 3) := by decide +kernel
theorem r80_8 {E : Nat → Value} {d : Nat} {st : List Value} {h : gm_H} {Q : gm_R → gm_H → Prop} {lv : List Value} {a : Nat} (hk : gm_kd h a = 1) : gm_W E d 80 8 lv (.ref a :: st) h Q ↔ gm_W E d 80 11 lv (gm_fv h a 9 :: st) h Q := gw_rd m80 f80_8 rfl rfl rfl rfl (gs_get k0_188 hk (by decide))
theorem f80_11 : gm_ft 80 11 = some (.getfield 86, 3) := by decide +kernel
theorem r80_11 {E : Nat → Value} {d : Nat} {st : List Value} {h : gm_H} {Q : gm_R → gm_H → Prop} {lv : List Value} {a : Nat} (hk : gm_kd h a = 3) : gm_W E d 80 11 lv (.ref a :: st) h Q ↔ gm_W E d 80 14 lv (gm_fv h a 7 :: st) h Q := gw_rd m80 f80_11 rfl rfl rfl rfl (gs_get k0_86 hk (by decide))
theorem f80_14 : gm_ft 80 14 = some (.ifCond .eq 7, 3) := by decide +kernel
theorem r80_14 {E : Nat → Value} {d : Nat} {st : List Value} {h : gm_H} {Q : gm_R → gm_H → Prop} {lv : List Value} {x : Int32} : gm_W E d 80 14 lv (.int x :: st) h Q ↔ (if x = 0 then gm_W E d 80 21 lv st h Q else gm_W E d 80 17 lv st h Q) := (gw_br m80 f80_14 rfl rfl rfl rfl).trans gw_if
theorem f80_17 : gm_ft 80 17 = some (.iconst 1, 1) := by decide +kernel
theorem r80_17 {E : Nat → Value} {d : Nat} {st : List Value} {h : gm_H} {Q : gm_R → gm_H → Prop} {lv : List Value} : gm_W E d 80 17 lv st h Q ↔ gm_W E d 80 18 lv (.int (1 : Int32) :: st) h Q := gw_pure m80 f80_17 rfl
theorem f80_18 : gm_ft 80 18 = some (.goto 4, 3) := by decide +kernel
theorem r80_18 {E : Nat → Value} {d : Nat} {st : List Value} {h : gm_H} {Q : gm_R → gm_H → Prop} {lv : List Value} : gm_W E d 80 18 lv st h Q ↔ gm_W E d 80 22 lv st h Q := gw_brT m80 f80_18 rfl rfl rfl rfl
theorem f80_21 : gm_ft 80 21 = some (.iconst 0, 1) := by decide +kernel
theorem r80_21 {E : Nat → Value} {d : Nat} {st : List Value} {h : gm_H} {Q : gm_R → gm_H → Prop} {lv : List Value} : gm_W E d 80 21 lv st h Q ↔ gm_W E d 80 22 lv (.int (0 : Int32) :: st) h Q := gw_pure m80 f80_21 rfl
theorem f80_22 : gm_ft 80 22 = some (.istore 4, 2) := by decide +kernel
theorem r80_22 {E : Nat → Value} {d : Nat} {st : List Value} {h : gm_H} {Q : gm_R → gm_H → Prop} {a0 a1 a2 a3 a4 : Value} {x : Int32} : gm_W E d 80 22 [a0, a1, a2, a3, a4] (.int x :: st) h Q ↔ gm_W E d 80 24 [a0, a1, a2, gm_k a3, .int x] st h Q := gw_loc m80 f80_22 rfl rfl
theorem f80_24 : gm_ft 80 24 = some (.iload 4, 2) := by decide +kernel
theorem r80_24 {E : Nat → Value} {d : Nat} {st : List Value} {h : gm_H} {Q : gm_R → gm_H → Prop} {a0 a1 a2 a3 : Value} {x : Int32} : gm_W E d 80 24 [a0, a1, a2, a3, .int x] st h Q ↔ gm_W E d 80 26 [a0, a1, a2, a3, .int x] (.int x :: st) h Q := gw_loc m80 f80_24 rfl rfl
theorem f80_26 : gm_ft 80 26 = some (.ifCond .ne 44, 3) := by decide +kernel
theorem r80_26 {E : Nat → Value} {d : Nat} {st : List Value} {h : gm_H} {Q : gm_R → gm_H → Prop} {lv : List Value} {x : Int32} : gm_W E d 80 26 lv (.int x :: st) h Q ↔ (if x = 0 then gm_W E d 80 29 lv st h Q else gm_W E d 80 70 lv st h Q) := (gw_br m80 f80_26 rfl rfl rfl rfl).trans gw_ifn
theorem f80_29 : gm_ft 80 29 = some (.iload_n 2, 1) := by decide +kernel
theorem r80_29 {E : Nat → Value} {d : Nat} {st : List Value} {h : gm_H} {Q : gm_R → gm_H → Prop} {a0 a1 a3 a4 : Value} {x : Int32} : gm_W E d 80 29 [a0, a1, .int x, a3, a4] st h Q ↔ gm_W E d 80 30 [a0, a1, .int x, a3, a4] (.int x :: st) h Q := gw_loc m80 f80_29 rfl rfl
theorem f80_30 : gm_ft 80 30 = some (.aload_n 0, 1) := by decide +kernel
theorem r80_30 {E : Nat → Value} {d : Nat} {st : List Value} {h : gm_H} {Q : gm_R → gm_H → Prop} {a1 a2 a3 a4 : Value} {x : Nat} : gm_W E d 80 30 [.ref x, a1, a2, a3, a4] st h Q ↔ gm_W E d 80 31 [.ref x, a1, a2, a3, a4] (.ref x :: st) h Q := gw_loc m80 f80_30 rfl rfl
theorem r80_30n {E : Nat → Value} {d : Nat} {st : List Value} {h : gm_H} {Q : gm_R → gm_H → Prop} {a1 a2 a3 a4 : Value}  : gm_W E d 80 30 [.null, a1, a2, a3, a4] st h Q ↔ gm_W E d 80 31 [.null, a1, a2, a3, a4] (.null :: st) h Q := gw_loc m80 f80_30 rfl rfl
theorem f80_31 : gm_ft 80 31 = some (.getfield 41, 3) := by decide +kernel
theorem r80_31 {E : Nat → Value} {d : Nat} {st : List Value} {h : gm_H} {Q : gm_R → gm_H → Prop} {lv : List Value} {a : Nat} (hk : gm_kd h a = 0) : gm_W E d 80 31 lv (.ref a :: st) h Q ↔ gm_W E d 80 34 lv (gm_fv h a 0 :: st) h Q := gw_rd m80 f80_31 rfl rfl rfl rfl (gs_get k0_41 hk (by decide))
theorem f80_34 : gm_ft 80 34 = some (.if_icmp .gt 36, 3) := by decide +kernel
theorem r80_34 {E : Nat → Value} {d : Nat} {st : List Value} {h : gm_H} {Q : gm_R → gm_H → Prop} {lv : List Value} {x y : Int32} : gm_W E d 80 34 lv (.int y :: .int x :: st) h Q ↔ (if y < x then gm_W E d 80 70 lv st h Q else gm_W E d 80 37 lv st h Q) := (gw_br m80 f80_34 rfl rfl rfl rfl).trans gw_if
theorem f80_37 : gm_ft 80 37 = some (.aload_n 0, 1) := by decide +kernel
theorem r80_37 {E : Nat → Value} {d : Nat} {st : List Value} {h : gm_H} {Q : gm_R → gm_H → Prop} {a1 a2 a3 a4 : Value} {x : Nat} : gm_W E d 80 37 [.ref x, a1, a2, a3, a4] st h Q ↔ gm_W E d 80 38 [.ref x, a1, a2, a3, a4] (.ref x :: st) h Q := gw_loc m80 f80_37 rfl rfl
theorem r80_37n {E : Nat → Value} {d : Nat} {st : List Value} {h : gm_H} {Q : gm_R → gm_H → Prop} {a1 a2 a3 a4 : Value}  : gm_W E d 80 37 [.null, a1, a2, a3, a4] st h Q ↔ gm_W E d 80 38 [.null, a1, a2, a3, a4] (.null :: st) h Q := gw_loc m80 f80_37 rfl rfl
theorem f80_38 : gm_ft 80 38 = some (.getfield 28, 3) := by decide +kernel
theorem r80_38 {E : Nat → Value} {d : Nat} {st : List Value} {h : gm_H} {Q : gm_R → gm_H → Prop} {lv : List Value} {a : Nat} (hk : gm_kd h a = 0) : gm_W E d 80 38 lv (.ref a :: st) h Q ↔ gm_W E d 80 41 lv (gm_fv h a 10 :: st) h Q := gw_rd m80 f80_38 rfl rfl rfl rfl (gs_get k0_28 hk (by decide))
theorem f80_41 : gm_ft 80 41 = some (.invokevirtual 156, 3) := by decide +kernel
theorem c80_41 {E : Nat → Value} {d : Nat} {st : List Value} {h : gm_H} {Q : gm_R → gm_H → Prop} {lv : List Value} {a : Nat} {Qc : gm_R → gm_H → Prop} (hs : (st.map fun v => v.category).sum ≤ 8) (hr : gm_kd h a = 2) (hd : 1 ≤ d) (hc : gm_Ca E (d - 1) 111 [.ref a] h Qc) (kn : ∀ (v9 : Option Value) (h9 : gm_H), Qc (.inl v9) h9 → gm_W E d 80 44 lv (v9.toList ++ st) h9 Q) (kx : ∀ (x9 : Nat) (h9 : gm_H), Qc (.inr x9) h9 → Q (.inr x9) h9) : gm_W E d 80 41 lv (.ref a :: st) h Q := gw_call (gn_call m80 f80_41 rfl rfl rfl rfl rfl rfl rfl (gs_virt (bs := []) (w := 202) (L := 1) rfl rfl rfl rfl hs (by simp [gm_en1]) hr (by decide)) (by decide)) m80 rfl rfl hd hc kn kx
theorem f80_44 : gm_ft 80 44 = some (.aload_n 0, 1) := by decide +kernel
theorem r80_44 {E : Nat → Value} {d : Nat} {st : List Value} {h : gm_H} {Q : gm_R → gm_H → Prop} {a1 a2 a3 a4 : Value} {x : Nat} : gm_W E d 80 44 [.ref x, a1, a2, a3, a4] st h Q ↔ gm_W E d 80 45 [.ref x, a1, a2, a3, a4] (.ref x :: st) h Q := gw_loc m80 f80_44 rfl rfl
theorem r80_44n {E : Nat → Value} {d : Nat} {st : List Value} {h : gm_H} {Q : gm_R → gm_H → Prop} {a1 a2 a3 a4 : Value}  : gm_W E d 80 44 [.null, a1, a2, a3, a4] st h Q ↔ gm_W E d 80 45 [.null, a1, a2, a3, a4] (.null :: st) h Q := gw_loc m80 f80_44 rfl rfl
theorem f80_45 : gm_ft 80 45 = some (.getfield 45, 3) := by decide +kernel
theorem r80_45 {E : Nat → Value} {d : Nat} {st : List Value} {h : gm_H} {Q : gm_R → gm_H → Prop} {lv : List Value} {a : Nat} (hk : gm_kd h a = 0) : gm_W E d 80 45 lv (.ref a :: st) h Q ↔ gm_W E d 80 48 lv (gm_fv h a 1 :: st) h Q := gw_rd m80 f80_45 rfl rfl rfl rfl (gs_get k0_45 hk (by decide))
theorem f80_48 : gm_ft 80 48 = some (.if_icmp .gt 22, 3) := by decide +kernel
theorem r80_48 {E : Nat → Value} {d : Nat} {st : List Value} {h : gm_H} {Q : gm_R → gm_H → Prop} {lv : List Value} {x y : Int32} : gm_W E d 80 48 lv (.int y :: .int x :: st) h Q ↔ (if y < x then gm_W E d 80 70 lv st h Q else gm_W E d 80 51 lv st h Q) := (gw_br m80 f80_48 rfl rfl rfl rfl).trans gw_if
theorem f80_51 : gm_ft 80 51 = some (.iload_n 3, 1) := by decide +kernel
theorem r80_51 {E : Nat → Value} {d : Nat} {st : List Value} {h : gm_H} {Q : gm_R → gm_H → Prop} {a0 a1 a2 a4 : Value} {x : Int32} : gm_W E d 80 51 [a0, a1, a2, .int x, a4] st h Q ↔ gm_W E d 80 52 [a0, a1, a2, .int x, a4] (.int x :: st) h Q := gw_loc m80 f80_51 rfl rfl
theorem f80_52 : gm_ft 80 52 = some (.aload_n 0, 1) := by decide +kernel
theorem r80_52 {E : Nat → Value} {d : Nat} {st : List Value} {h : gm_H} {Q : gm_R → gm_H → Prop} {a1 a2 a3 a4 : Value} {x : Nat} : gm_W E d 80 52 [.ref x, a1, a2, a3, a4] st h Q ↔ gm_W E d 80 53 [.ref x, a1, a2, a3, a4] (.ref x :: st) h Q := gw_loc m80 f80_52 rfl rfl
theorem r80_52n {E : Nat → Value} {d : Nat} {st : List Value} {h : gm_H} {Q : gm_R → gm_H → Prop} {a1 a2 a3 a4 : Value}  : gm_W E d 80 52 [.null, a1, a2, a3, a4] st h Q ↔ gm_W E d 80 53 [.null, a1, a2, a3, a4] (.null :: st) h Q := gw_loc m80 f80_52 rfl rfl
theorem f80_53 : gm_ft 80 53 = some (.getfield 48, 3) := by decide +kernel
theorem r80_53 {E : Nat → Value} {d : Nat} {st : List Value} {h : gm_H} {Q : gm_R → gm_H → Prop} {lv : List Value} {a : Nat} (hk : gm_kd h a = 0) : gm_W E d 80 53 lv (.ref a :: st) h Q ↔ gm_W E d 80 56 lv (gm_fv h a 2 :: st) h Q := gw_rd m80 f80_53 rfl rfl rfl rfl (gs_get k0_48 hk (by decide))
theorem f80_56 : gm_ft 80 56 = some (.if_icmp .gt 14, 3) := by decide +kernel
theorem r80_56 {E : Nat → Value} {d : Nat} {st : List Value} {h : gm_H} {Q : gm_R → gm_H → Prop} {lv : List Value} {x y : Int32} : gm_W E d 80 56 lv (.int y :: .int x :: st) h Q ↔ (if y < x then gm_W E d 80 70 lv st h Q else gm_W E d 80 59 lv st h Q) := (gw_br m80 f80_56 rfl rfl rfl rfl).trans gw_if
theorem f80_59 : gm_ft 80 59 = some (.aload_n 0, 1) := by decide +kernel
theorem r80_59 {E : Nat → Value} {d : Nat} {st : List Value} {h : gm_H} {Q : gm_R → gm_H → Prop} {a1 a2 a3 a4 : Value} {x : Nat} : gm_W E d 80 59 [.ref x, a1, a2, a3, a4] st h Q ↔ gm_W E d 80 60 [.ref x, a1, a2, a3, a4] (.ref x :: st) h Q := gw_loc m80 f80_59 rfl rfl
theorem r80_59n {E : Nat → Value} {d : Nat} {st : List Value} {h : gm_H} {Q : gm_R → gm_H → Prop} {a1 a2 a3 a4 : Value}  : gm_W E d 80 59 [.null, a1, a2, a3, a4] st h Q ↔ gm_W E d 80 60 [.null, a1, a2, a3, a4] (.null :: st) h Q := gw_loc m80 f80_59 rfl rfl
theorem f80_60 : gm_ft 80 60 = some (.getfield 96, 3) := by decide +kernel
theorem r80_60 {E : Nat → Value} {d : Nat} {st : List Value} {h : gm_H} {Q : gm_R → gm_H → Prop} {lv : List Value} {a : Nat} (hk : gm_kd h a = 0) : gm_W E d 80 60 lv (.ref a :: st) h Q ↔ gm_W E d 80 63 lv (gm_fv h a 7 :: st) h Q := gw_rd m80 f80_60 rfl rfl rfl rfl (gs_get k0_96 hk (by decide))
theorem f80_63 : gm_ft 80 63 = some (.aload_n 0, 1) := by decide +kernel
theorem r80_63 {E : Nat → Value} {d : Nat} {st : List Value} {h : gm_H} {Q : gm_R → gm_H → Prop} {a1 a2 a3 a4 : Value} {x : Nat} : gm_W E d 80 63 [.ref x, a1, a2, a3, a4] st h Q ↔ gm_W E d 80 64 [.ref x, a1, a2, a3, a4] (.ref x :: st) h Q := gw_loc m80 f80_63 rfl rfl
theorem r80_63n {E : Nat → Value} {d : Nat} {st : List Value} {h : gm_H} {Q : gm_R → gm_H → Prop} {a1 a2 a3 a4 : Value}  : gm_W E d 80 63 [.null, a1, a2, a3, a4] st h Q ↔ gm_W E d 80 64 [.null, a1, a2, a3, a4] (.null :: st) h Q := gw_loc m80 f80_63 rfl rfl
theorem f80_64 : gm_ft 80 64 = some (.getfield 51, 3) := by decide +kernel
theorem r80_64 {E : Nat → Value} {d : Nat} {st : List Value} {h : gm_H} {Q : gm_R → gm_H → Prop} {lv : List Value} {a : Nat} (hk : gm_kd h a = 0) : gm_W E d 80 64 lv (.ref a :: st) h Q ↔ gm_W E d 80 67 lv (gm_fv h a 3 :: st) h Q := gw_rd m80 f80_64 rfl rfl rfl rfl (gs_get k0_51 hk (by decide))
theorem f80_67 : gm_ft 80 67 = some (.if_icmp .le 10, 3) := by decide +kernel
theorem r80_67 {E : Nat → Value} {d : Nat} {st : List Value} {h : gm_H} {Q : gm_R → gm_H → Prop} {lv : List Value} {x y : Int32} : gm_W E d 80 67 lv (.int y :: .int x :: st) h Q ↔ (if x ≤ y then gm_W E d 80 77 lv st h Q else gm_W E d 80 70 lv st h Q) := (gw_br m80 f80_67 rfl rfl rfl rfl).trans gw_if
theorem f80_70 : gm_ft 80 70 = some (.aload_n 0, 1) := by decide +kernel
theorem r80_70 {E : Nat → Value} {d : Nat} {st : List Value} {h : gm_H} {Q : gm_R → gm_H → Prop} {a1 a2 a3 a4 : Value} {x : Nat} : gm_W E d 80 70 [.ref x, a1, a2, a3, a4] st h Q ↔ gm_W E d 80 71 [.ref x, a1, a2, a3, a4] (.ref x :: st) h Q := gw_loc m80 f80_70 rfl rfl
theorem r80_70n {E : Nat → Value} {d : Nat} {st : List Value} {h : gm_H} {Q : gm_R → gm_H → Prop} {a1 a2 a3 a4 : Value}  : gm_W E d 80 70 [.null, a1, a2, a3, a4] st h Q ↔ gm_W E d 80 71 [.null, a1, a2, a3, a4] (.null :: st) h Q := gw_loc m80 f80_70 rfl rfl
theorem f80_71 : gm_ft 80 71 = some (.bipush (-8), 2) := by decide +kernel
theorem r80_71 {E : Nat → Value} {d : Nat} {st : List Value} {h : gm_H} {Q : gm_R → gm_H → Prop} {lv : List Value} : gm_W E d 80 71 lv st h Q ↔ gm_W E d 80 73 lv (.int (-8 : Int32) :: st) h Q := gw_pure m80 f80_71 rfl
theorem f80_73 : gm_ft 80 73 = some (.invokevirtual 160, 3) := by decide +kernel
theorem c80_73 {E : Nat → Value} {d : Nat} {st : List Value} {h : gm_H} {Q : gm_R → gm_H → Prop} {lv : List Value} {b0 : Int32} {a : Nat} {Qc : gm_R → gm_H → Prop} (hs : (st.map fun v => v.category).sum ≤ 8) (hr : gm_kd h a = 0) (hd : 1 ≤ d) (hc : gm_Ca E (d - 1) 66 [.ref a, .int b0] h Qc) (kn : ∀ (v9 : Option Value) (h9 : gm_H), Qc (.inl v9) h9 → gm_W E d 80 76 lv (v9.toList ++ st) h9 Q) (kx : ∀ (x9 : Nat) (h9 : gm_H), Qc (.inr x9) h9 → Q (.inr x9) h9) : gm_W E d 80 73 lv (.int b0 :: .ref a :: st) h Q := gw_call (gn_call m80 f80_73 rfl rfl rfl rfl rfl rfl rfl (gs_virt (bs := [.int b0]) (w := 206) (L := 2) rfl rfl rfl rfl hs (by simp [gm_en1]) hr (by decide)) (by decide)) m80 rfl rfl hd hc kn kx
theorem f80_76 : gm_ft 80 76 = some (.pop, 1) := by decide +kernel
theorem r80_76 {E : Nat → Value} {d : Nat} {st : List Value} {h : gm_H} {Q : gm_R → gm_H → Prop} {lv : List Value} {x : Int32} : gm_W E d 80 76 lv (.int x :: st) h Q ↔ gm_W E d 80 77 lv st h Q := gw_pure m80 f80_76 rfl
theorem r80_76a {E : Nat → Value} {d : Nat} {st : List Value} {h : gm_H} {Q : gm_R → gm_H → Prop} {lv : List Value} {a : Nat} : gm_W E d 80 76 lv (.ref a :: st) h Q ↔ gm_W E d 80 77 lv st h Q := gw_pure m80 f80_76 rfl
theorem r80_76n {E : Nat → Value} {d : Nat} {st : List Value} {h : gm_H} {Q : gm_R → gm_H → Prop} {lv : List Value} : gm_W E d 80 76 lv (.null :: st) h Q ↔ gm_W E d 80 77 lv st h Q := gw_pure m80 f80_76 rfl
theorem f80_77 : gm_ft 80 77 = some (.return_, 1) := by decide +kernel
theorem r80_77 {E : Nat → Value} {d : Nat} {h : gm_H} {Q : gm_R → gm_H → Prop} {lv : List Value} : gm_W E d 80 77 lv [] h Q ↔ Q (.inl none) h := gw_ret m80 f80_77 rfl rfl rfl rfl rfl rfl rfl rfl rfl
